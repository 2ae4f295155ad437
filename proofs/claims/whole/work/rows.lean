section
-- ===== PART A: goes FIRST, ahead of the names: the tables' words, and 'selects' of the private methods out of them =====
/-- a private method of a class that the tables say can be made, by its rows of tables_1 -/
def lw_okq (q : MethodName × Nat) : Prop := (q.1.cls ≠ "java/lang/invoke/MethodHandle" ∧ q.1.cls ≠ "java/lang/invoke/VarHandle") ∧ Cond.instantiable q.1.cls q.2 ∈ tables_1 ∧ Cond.privateMethod q.1 ∈ tables_1 ∧ Cond.instanceMethod q.1 ∈ tables_1
theorem lw_p0 : lw_okq (⟨"NorthWheel$Seas", "add", "(I)I"⟩, 2) := ⟨⟨by decide +kernel, by decide +kernel⟩, List.mem_of_getElem? (i := 29) (by decide +kernel), List.mem_of_getElem? (i := 378) (by decide +kernel), List.mem_of_getElem? (i := 379) (by decide +kernel)⟩
theorem lw_p1 : lw_okq (⟨"NorthWheel$Ship", "pointerAt", "(I)LNorthWheel$Pointer;"⟩, 9) := ⟨⟨by decide +kernel, by decide +kernel⟩, List.mem_of_getElem? (i := 55) (by decide +kernel), List.mem_of_getElem? (i := 390) (by decide +kernel), List.mem_of_getElem? (i := 391) (by decide +kernel)⟩
theorem lw_p2 : lw_okq (⟨"NorthWheel$Pointer", "layAt", "(I)V"⟩, 8) := ⟨⟨by decide +kernel, by decide +kernel⟩, List.mem_of_getElem? (i := 62) (by decide +kernel), List.mem_of_getElem? (i := 395) (by decide +kernel), List.mem_of_getElem? (i := 396) (by decide +kernel)⟩
theorem lw_p3 : lw_okq (⟨"NorthWheel$Pointer", "retune", "(II)I"⟩, 8) := ⟨⟨by decide +kernel, by decide +kernel⟩, List.mem_of_getElem? (i := 62) (by decide +kernel), List.mem_of_getElem? (i := 403) (by decide +kernel), List.mem_of_getElem? (i := 404) (by decide +kernel)⟩
theorem lw_p4 : lw_okq (⟨"NorthWheel$Pointer", "shownAt", "(ILNorthWheel$Needles;)I"⟩, 8) := ⟨⟨by decide +kernel, by decide +kernel⟩, List.mem_of_getElem? (i := 62) (by decide +kernel), List.mem_of_getElem? (i := 429) (by decide +kernel), List.mem_of_getElem? (i := 430) (by decide +kernel)⟩
theorem lw_p5 : lw_okq (⟨"NorthWheel$Needles", "deviationAt", "(I)I"⟩, 1) := ⟨⟨by decide +kernel, by decide +kernel⟩, List.mem_of_getElem? (i := 44) (by decide +kernel), List.mem_of_getElem? (i := 433) (by decide +kernel), List.mem_of_getElem? (i := 434) (by decide +kernel)⟩
theorem lw_p6 : lw_okq (⟨"NorthWheel$Helm", "steerShip", "(LNorthWheel$Ship;)V"⟩, 4) := ⟨⟨by decide +kernel, by decide +kernel⟩, List.mem_of_getElem? (i := 148) (by decide +kernel), List.mem_of_getElem? (i := 477) (by decide +kernel), List.mem_of_getElem? (i := 478) (by decide +kernel)⟩
theorem lw_p7 : lw_okq (⟨"NorthWheel$Helm", "answerTo", "(II)I"⟩, 4) := ⟨⟨by decide +kernel, by decide +kernel⟩, List.mem_of_getElem? (i := 148) (by decide +kernel), List.mem_of_getElem? (i := 487) (by decide +kernel), List.mem_of_getElem? (i := 488) (by decide +kernel)⟩
theorem lw_p8 : lw_okq (⟨"NorthWheel$Ship", "tick", "()V"⟩, 9) := ⟨⟨by decide +kernel, by decide +kernel⟩, List.mem_of_getElem? (i := 55) (by decide +kernel), List.mem_of_getElem? (i := 497) (by decide +kernel), List.mem_of_getElem? (i := 498) (by decide +kernel)⟩
theorem lw_p9 : lw_okq (⟨"NorthWheel$Seas", "yawOf", "(I)I"⟩, 2) := ⟨⟨by decide +kernel, by decide +kernel⟩, List.mem_of_getElem? (i := 29) (by decide +kernel), List.mem_of_getElem? (i := 501) (by decide +kernel), List.mem_of_getElem? (i := 502) (by decide +kernel)⟩
theorem lw_p10 : lw_okq (⟨"NorthWheel$Pointer", "tickIn", "(LNorthWheel$Ship;I)V"⟩, 8) := ⟨⟨by decide +kernel, by decide +kernel⟩, List.mem_of_getElem? (i := 62) (by decide +kernel), List.mem_of_getElem? (i := 507) (by decide +kernel), List.mem_of_getElem? (i := 508) (by decide +kernel)⟩
theorem lw_p11 : lw_okq (⟨"NorthWheel$Pointer", "sway", "(IIIZ)V"⟩, 8) := ⟨⟨by decide +kernel, by decide +kernel⟩, List.mem_of_getElem? (i := 62) (by decide +kernel), List.mem_of_getElem? (i := 513) (by decide +kernel), List.mem_of_getElem? (i := 514) (by decide +kernel)⟩
theorem lw_p12 : lw_okq (⟨"NorthWheel$Script", "append", "(JI)I"⟩, 4) := ⟨⟨by decide +kernel, by decide +kernel⟩, List.mem_of_getElem? (i := 176) (by decide +kernel), List.mem_of_getElem? (i := 522) (by decide +kernel), List.mem_of_getElem? (i := 523) (by decide +kernel)⟩
theorem lw_p13 : lw_okq (⟨"NorthWheel$Script", "read", "()I"⟩, 4) := ⟨⟨by decide +kernel, by decide +kernel⟩, List.mem_of_getElem? (i := 176) (by decide +kernel), List.mem_of_getElem? (i := 535) (by decide +kernel), List.mem_of_getElem? (i := 536) (by decide +kernel)⟩
theorem lw_p14 : lw_okq (⟨"NorthWheel$Script", "behindBlanks", "(I)I"⟩, 4) := ⟨⟨by decide +kernel, by decide +kernel⟩, List.mem_of_getElem? (i := 176) (by decide +kernel), List.mem_of_getElem? (i := 541) (by decide +kernel), List.mem_of_getElem? (i := 542) (by decide +kernel)⟩
theorem lw_p15 : lw_okq (⟨"NorthWheel$Script", "wordAt", "(I)I"⟩, 4) := ⟨⟨by decide +kernel, by decide +kernel⟩, List.mem_of_getElem? (i := 176) (by decide +kernel), List.mem_of_getElem? (i := 545) (by decide +kernel), List.mem_of_getElem? (i := 546) (by decide +kernel)⟩
def lw_privs_1 : List (MethodName × Nat) := [(⟨"NorthWheel$Seas", "add", "(I)I"⟩, 2), (⟨"NorthWheel$Ship", "pointerAt", "(I)LNorthWheel$Pointer;"⟩, 9), (⟨"NorthWheel$Pointer", "layAt", "(I)V"⟩, 8), (⟨"NorthWheel$Pointer", "retune", "(II)I"⟩, 8), (⟨"NorthWheel$Pointer", "shownAt", "(ILNorthWheel$Needles;)I"⟩, 8), (⟨"NorthWheel$Needles", "deviationAt", "(I)I"⟩, 1), (⟨"NorthWheel$Helm", "steerShip", "(LNorthWheel$Ship;)V"⟩, 4), (⟨"NorthWheel$Helm", "answerTo", "(II)I"⟩, 4), (⟨"NorthWheel$Ship", "tick", "()V"⟩, 9), (⟨"NorthWheel$Seas", "yawOf", "(I)I"⟩, 2), (⟨"NorthWheel$Pointer", "tickIn", "(LNorthWheel$Ship;I)V"⟩, 8), (⟨"NorthWheel$Pointer", "sway", "(IIIZ)V"⟩, 8), (⟨"NorthWheel$Script", "append", "(JI)I"⟩, 4), (⟨"NorthWheel$Script", "read", "()I"⟩, 4), (⟨"NorthWheel$Script", "behindBlanks", "(I)I"⟩, 4), (⟨"NorthWheel$Script", "wordAt", "(I)I"⟩, 4)]
theorem lw_r1 : ∀ q ∈ lw_privs_1, lw_okq q := List.forall_mem_cons.mpr ⟨lw_p0, List.forall_mem_cons.mpr ⟨lw_p1, List.forall_mem_cons.mpr ⟨lw_p2, List.forall_mem_cons.mpr ⟨lw_p3, List.forall_mem_cons.mpr ⟨lw_p4, List.forall_mem_cons.mpr ⟨lw_p5, List.forall_mem_cons.mpr ⟨lw_p6, List.forall_mem_cons.mpr ⟨lw_p7, List.forall_mem_cons.mpr ⟨lw_p8, List.forall_mem_cons.mpr ⟨lw_p9, List.forall_mem_cons.mpr ⟨lw_p10, List.forall_mem_cons.mpr ⟨lw_p11, List.forall_mem_cons.mpr ⟨lw_p12, List.forall_mem_cons.mpr ⟨lw_p13, List.forall_mem_cons.mpr ⟨lw_p14, List.forall_mem_cons.mpr ⟨lw_p15, fun _ h => absurd h List.not_mem_nil⟩⟩⟩⟩⟩⟩⟩⟩⟩⟩⟩⟩⟩⟩⟩⟩
theorem lw_p16 : lw_okq (⟨"NorthWheel$Script", "tokenEnd", "(I)I"⟩, 4) := ⟨⟨by decide +kernel, by decide +kernel⟩, List.mem_of_getElem? (i := 176) (by decide +kernel), List.mem_of_getElem? (i := 549) (by decide +kernel), List.mem_of_getElem? (i := 550) (by decide +kernel)⟩
theorem lw_p17 : lw_okq (⟨"NorthWheel$Script", "isSpelt", "(IILjava/lang/String;)Z"⟩, 4) := ⟨⟨by decide +kernel, by decide +kernel⟩, List.mem_of_getElem? (i := 176) (by decide +kernel), List.mem_of_getElem? (i := 568) (by decide +kernel), List.mem_of_getElem? (i := 569) (by decide +kernel)⟩
theorem lw_p18 : lw_okq (⟨"NorthWheel$Script", "numberAt", "(I)I"⟩, 4) := ⟨⟨by decide +kernel, by decide +kernel⟩, List.mem_of_getElem? (i := 176) (by decide +kernel), List.mem_of_getElem? (i := 620) (by decide +kernel), List.mem_of_getElem? (i := 621) (by decide +kernel)⟩
theorem lw_p19 : lw_okq (⟨"NorthWheel$Helm", "become", "([I)V"⟩, 4) := ⟨⟨by decide +kernel, by decide +kernel⟩, List.mem_of_getElem? (i := 148) (by decide +kernel), List.mem_of_getElem? (i := 634) (by decide +kernel), List.mem_of_getElem? (i := 635) (by decide +kernel)⟩
theorem lw_p20 : lw_okq (⟨"NorthWheel$Helm", "steerFor", "(I)V"⟩, 4) := ⟨⟨by decide +kernel, by decide +kernel⟩, List.mem_of_getElem? (i := 148) (by decide +kernel), List.mem_of_getElem? (i := 646) (by decide +kernel), List.mem_of_getElem? (i := 647) (by decide +kernel)⟩
theorem lw_p21 : lw_okq (⟨"NorthWheel$Swings", "letSwing", "(LNorthWheel$Pointer;IIZ)V"⟩, 4) := ⟨⟨by decide +kernel, by decide +kernel⟩, List.mem_of_getElem? (i := 198) (by decide +kernel), List.mem_of_getElem? (i := 654) (by decide +kernel), List.mem_of_getElem? (i := 655) (by decide +kernel)⟩
theorem lw_p22 : lw_okq (⟨"NorthWheel$Pointer", "copyFrom", "(LNorthWheel$Pointer;)V"⟩, 8) := ⟨⟨by decide +kernel, by decide +kernel⟩, List.mem_of_getElem? (i := 62) (by decide +kernel), List.mem_of_getElem? (i := 658) (by decide +kernel), List.mem_of_getElem? (i := 659) (by decide +kernel)⟩
theorem lw_p23 : lw_okq (⟨"NorthWheel$Swings", "noteRest", "(I)V"⟩, 4) := ⟨⟨by decide +kernel, by decide +kernel⟩, List.mem_of_getElem? (i := 198) (by decide +kernel), List.mem_of_getElem? (i := 663) (by decide +kernel), List.mem_of_getElem? (i := 664) (by decide +kernel)⟩
theorem lw_p24 : lw_okq (⟨"NorthWheel$Swings", "noteCrossing", "(II)V"⟩, 4) := ⟨⟨by decide +kernel, by decide +kernel⟩, List.mem_of_getElem? (i := 198) (by decide +kernel), List.mem_of_getElem? (i := 669) (by decide +kernel), List.mem_of_getElem? (i := 670) (by decide +kernel)⟩
theorem lw_p25 : lw_okq (⟨"NorthWheel$Swings", "firstPlaceWithoutRest", "(LNorthWheel$Pointer;)I"⟩, 4) := ⟨⟨by decide +kernel, by decide +kernel⟩, List.mem_of_getElem? (i := 198) (by decide +kernel), List.mem_of_getElem? (i := 677) (by decide +kernel), List.mem_of_getElem? (i := 678) (by decide +kernel)⟩
theorem lw_p26 : lw_okq (⟨"NorthWheel$Swings", "disturbed", "(LNorthWheel$Pointer;IIIII)I"⟩, 4) := ⟨⟨by decide +kernel, by decide +kernel⟩, List.mem_of_getElem? (i := 198) (by decide +kernel), List.mem_of_getElem? (i := 693) (by decide +kernel), List.mem_of_getElem? (i := 694) (by decide +kernel)⟩
theorem lw_p27 : lw_okq (⟨"NorthWheel$Swings", "calmestPull", "(LNorthWheel$Pointer;IIII)I"⟩, 4) := ⟨⟨by decide +kernel, by decide +kernel⟩, List.mem_of_getElem? (i := 198) (by decide +kernel), List.mem_of_getElem? (i := 702) (by decide +kernel), List.mem_of_getElem? (i := 703) (by decide +kernel)⟩
theorem lw_p28 : lw_okq (⟨"NorthWheel$Keeping", "keep", "(LNorthWheel$Ship;LNorthWheel$Helm;II)V"⟩, 4) := ⟨⟨by decide +kernel, by decide +kernel⟩, List.mem_of_getElem? (i := 222) (by decide +kernel), List.mem_of_getElem? (i := 711) (by decide +kernel), List.mem_of_getElem? (i := 712) (by decide +kernel)⟩
theorem lw_p29 : lw_okq (⟨"NorthWheel$Ship", "copyFrom", "(LNorthWheel$Ship;)V"⟩, 9) := ⟨⟨by decide +kernel, by decide +kernel⟩, List.mem_of_getElem? (i := 55) (by decide +kernel), List.mem_of_getElem? (i := 715) (by decide +kernel), List.mem_of_getElem? (i := 716) (by decide +kernel)⟩
theorem lw_p30 : lw_okq (⟨"NorthWheel$Helm", "copyFrom", "(LNorthWheel$Helm;)V"⟩, 4) := ⟨⟨by decide +kernel, by decide +kernel⟩, List.mem_of_getElem? (i := 148) (by decide +kernel), List.mem_of_getElem? (i := 720) (by decide +kernel), List.mem_of_getElem? (i := 721) (by decide +kernel)⟩
theorem lw_p31 : lw_okq (⟨"NorthWheel$Ship", "stopAllBut", "(I)V"⟩, 9) := ⟨⟨by decide +kernel, by decide +kernel⟩, List.mem_of_getElem? (i := 55) (by decide +kernel), List.mem_of_getElem? (i := 724) (by decide +kernel), List.mem_of_getElem? (i := 725) (by decide +kernel)⟩
def lw_privs_2 : List (MethodName × Nat) := [(⟨"NorthWheel$Script", "tokenEnd", "(I)I"⟩, 4), (⟨"NorthWheel$Script", "isSpelt", "(IILjava/lang/String;)Z"⟩, 4), (⟨"NorthWheel$Script", "numberAt", "(I)I"⟩, 4), (⟨"NorthWheel$Helm", "become", "([I)V"⟩, 4), (⟨"NorthWheel$Helm", "steerFor", "(I)V"⟩, 4), (⟨"NorthWheel$Swings", "letSwing", "(LNorthWheel$Pointer;IIZ)V"⟩, 4), (⟨"NorthWheel$Pointer", "copyFrom", "(LNorthWheel$Pointer;)V"⟩, 8), (⟨"NorthWheel$Swings", "noteRest", "(I)V"⟩, 4), (⟨"NorthWheel$Swings", "noteCrossing", "(II)V"⟩, 4), (⟨"NorthWheel$Swings", "firstPlaceWithoutRest", "(LNorthWheel$Pointer;)I"⟩, 4), (⟨"NorthWheel$Swings", "disturbed", "(LNorthWheel$Pointer;IIIII)I"⟩, 4), (⟨"NorthWheel$Swings", "calmestPull", "(LNorthWheel$Pointer;IIII)I"⟩, 4), (⟨"NorthWheel$Keeping", "keep", "(LNorthWheel$Ship;LNorthWheel$Helm;II)V"⟩, 4), (⟨"NorthWheel$Ship", "copyFrom", "(LNorthWheel$Ship;)V"⟩, 9), (⟨"NorthWheel$Helm", "copyFrom", "(LNorthWheel$Helm;)V"⟩, 4), (⟨"NorthWheel$Ship", "stopAllBut", "(I)V"⟩, 9)]
theorem lw_r2 : ∀ q ∈ lw_privs_2, lw_okq q := List.forall_mem_cons.mpr ⟨lw_p16, List.forall_mem_cons.mpr ⟨lw_p17, List.forall_mem_cons.mpr ⟨lw_p18, List.forall_mem_cons.mpr ⟨lw_p19, List.forall_mem_cons.mpr ⟨lw_p20, List.forall_mem_cons.mpr ⟨lw_p21, List.forall_mem_cons.mpr ⟨lw_p22, List.forall_mem_cons.mpr ⟨lw_p23, List.forall_mem_cons.mpr ⟨lw_p24, List.forall_mem_cons.mpr ⟨lw_p25, List.forall_mem_cons.mpr ⟨lw_p26, List.forall_mem_cons.mpr ⟨lw_p27, List.forall_mem_cons.mpr ⟨lw_p28, List.forall_mem_cons.mpr ⟨lw_p29, List.forall_mem_cons.mpr ⟨lw_p30, List.forall_mem_cons.mpr ⟨lw_p31, fun _ h => absurd h List.not_mem_nil⟩⟩⟩⟩⟩⟩⟩⟩⟩⟩⟩⟩⟩⟩⟩⟩
theorem lw_p32 : lw_okq (⟨"NorthWheel$Looks", "add", "(III)I"⟩, 2) := ⟨⟨by decide +kernel, by decide +kernel⟩, List.mem_of_getElem? (i := 243) (by decide +kernel), List.mem_of_getElem? (i := 744) (by decide +kernel), List.mem_of_getElem? (i := 745) (by decide +kernel)⟩
theorem lw_p33 : lw_okq (⟨"NorthWheel$Looks", "wrongInEach", "(I)I"⟩, 2) := ⟨⟨by decide +kernel, by decide +kernel⟩, List.mem_of_getElem? (i := 243) (by decide +kernel), List.mem_of_getElem? (i := 752) (by decide +kernel), List.mem_of_getElem? (i := 753) (by decide +kernel)⟩
theorem lw_p34 : lw_okq (⟨"NorthWheel$Looks", "wrongIn", "(II)I"⟩, 2) := ⟨⟨by decide +kernel, by decide +kernel⟩, List.mem_of_getElem? (i := 243) (by decide +kernel), List.mem_of_getElem? (i := 756) (by decide +kernel), List.mem_of_getElem? (i := 757) (by decide +kernel)⟩
theorem lw_p35 : lw_okq (⟨"NorthWheel$Looks", "wrongInSome", "(I)I"⟩, 2) := ⟨⟨by decide +kernel, by decide +kernel⟩, List.mem_of_getElem? (i := 243) (by decide +kernel), List.mem_of_getElem? (i := 761) (by decide +kernel), List.mem_of_getElem? (i := 762) (by decide +kernel)⟩
theorem lw_p36 : lw_okq (⟨"NorthWheel$TurnedAbout", "add", "(II)I"⟩, 4) := ⟨⟨by decide +kernel, by decide +kernel⟩, List.mem_of_getElem? (i := 257) (by decide +kernel), List.mem_of_getElem? (i := 769) (by decide +kernel), List.mem_of_getElem? (i := 770) (by decide +kernel)⟩
theorem lw_p37 : lw_okq (⟨"NorthWheel$Watched", "add", "(II)I"⟩, 9) := ⟨⟨by decide +kernel, by decide +kernel⟩, List.mem_of_getElem? (i := 280) (by decide +kernel), List.mem_of_getElem? (i := 785) (by decide +kernel), List.mem_of_getElem? (i := 786) (by decide +kernel)⟩
theorem lw_p38 : lw_okq (⟨"NorthWheel$Watched", "findThoseThatFit", "(I)V"⟩, 9) := ⟨⟨by decide +kernel, by decide +kernel⟩, List.mem_of_getElem? (i := 280) (by decide +kernel), List.mem_of_getElem? (i := 793) (by decide +kernel), List.mem_of_getElem? (i := 794) (by decide +kernel)⟩
theorem lw_p39 : lw_okq (⟨"NorthWheel$Watched", "follow", "(II)V"⟩, 9) := ⟨⟨by decide +kernel, by decide +kernel⟩, List.mem_of_getElem? (i := 280) (by decide +kernel), List.mem_of_getElem? (i := 797) (by decide +kernel), List.mem_of_getElem? (i := 798) (by decide +kernel)⟩
theorem lw_p40 : lw_okq (⟨"NorthWheel$Watched", "fits", "(I)Z"⟩, 9) := ⟨⟨by decide +kernel, by decide +kernel⟩, List.mem_of_getElem? (i := 280) (by decide +kernel), List.mem_of_getElem? (i := 804) (by decide +kernel), List.mem_of_getElem? (i := 805) (by decide +kernel)⟩
theorem lw_p41 : lw_okq (⟨"NorthWheel$Watched", "widen", "()V"⟩, 9) := ⟨⟨by decide +kernel, by decide +kernel⟩, List.mem_of_getElem? (i := 280) (by decide +kernel), List.mem_of_getElem? (i := 809) (by decide +kernel), List.mem_of_getElem? (i := 810) (by decide +kernel)⟩
theorem lw_p42 : lw_okq (⟨"NorthWheel$Watched", "widestTick", "()I"⟩, 9) := ⟨⟨by decide +kernel, by decide +kernel⟩, List.mem_of_getElem? (i := 280) (by decide +kernel), List.mem_of_getElem? (i := 815) (by decide +kernel), List.mem_of_getElem? (i := 816) (by decide +kernel)⟩
theorem lw_p43 : lw_okq (⟨"NorthWheelModel", "showsOf", "(II)I"⟩, 37) := ⟨⟨by decide +kernel, by decide +kernel⟩, List.mem_of_getElem? (i := 823) (by decide +kernel), List.mem_of_getElem? (i := 1016) (by decide +kernel), List.mem_of_getElem? (i := 1017) (by decide +kernel)⟩
theorem lw_p44 : lw_okq (⟨"NorthWheelModel", "ironAt", "(I)I"⟩, 37) := ⟨⟨by decide +kernel, by decide +kernel⟩, List.mem_of_getElem? (i := 823) (by decide +kernel), List.mem_of_getElem? (i := 1024) (by decide +kernel), List.mem_of_getElem? (i := 1025) (by decide +kernel)⟩
theorem lw_p45 : lw_okq (⟨"NorthWheelModel", "steer", "(II)V"⟩, 37) := ⟨⟨by decide +kernel, by decide +kernel⟩, List.mem_of_getElem? (i := 823) (by decide +kernel), List.mem_of_getElem? (i := 1056) (by decide +kernel), List.mem_of_getElem? (i := 1057) (by decide +kernel)⟩
theorem lw_p46 : lw_okq (⟨"NorthWheelModel", "tick", "(I)V"⟩, 37) := ⟨⟨by decide +kernel, by decide +kernel⟩, List.mem_of_getElem? (i := 823) (by decide +kernel), List.mem_of_getElem? (i := 1066) (by decide +kernel), List.mem_of_getElem? (i := 1067) (by decide +kernel)⟩
theorem lw_p47 : lw_okq (⟨"NorthWheelModel", "token", "()V"⟩, 37) := ⟨⟨by decide +kernel, by decide +kernel⟩, List.mem_of_getElem? (i := 823) (by decide +kernel), List.mem_of_getElem? (i := 1093) (by decide +kernel), List.mem_of_getElem? (i := 1094) (by decide +kernel)⟩
def lw_privs_3 : List (MethodName × Nat) := [(⟨"NorthWheel$Looks", "add", "(III)I"⟩, 2), (⟨"NorthWheel$Looks", "wrongInEach", "(I)I"⟩, 2), (⟨"NorthWheel$Looks", "wrongIn", "(II)I"⟩, 2), (⟨"NorthWheel$Looks", "wrongInSome", "(I)I"⟩, 2), (⟨"NorthWheel$TurnedAbout", "add", "(II)I"⟩, 4), (⟨"NorthWheel$Watched", "add", "(II)I"⟩, 9), (⟨"NorthWheel$Watched", "findThoseThatFit", "(I)V"⟩, 9), (⟨"NorthWheel$Watched", "follow", "(II)V"⟩, 9), (⟨"NorthWheel$Watched", "fits", "(I)Z"⟩, 9), (⟨"NorthWheel$Watched", "widen", "()V"⟩, 9), (⟨"NorthWheel$Watched", "widestTick", "()I"⟩, 9), (⟨"NorthWheelModel", "showsOf", "(II)I"⟩, 37), (⟨"NorthWheelModel", "ironAt", "(I)I"⟩, 37), (⟨"NorthWheelModel", "steer", "(II)V"⟩, 37), (⟨"NorthWheelModel", "tick", "(I)V"⟩, 37), (⟨"NorthWheelModel", "token", "()V"⟩, 37)]
theorem lw_r3 : ∀ q ∈ lw_privs_3, lw_okq q := List.forall_mem_cons.mpr ⟨lw_p32, List.forall_mem_cons.mpr ⟨lw_p33, List.forall_mem_cons.mpr ⟨lw_p34, List.forall_mem_cons.mpr ⟨lw_p35, List.forall_mem_cons.mpr ⟨lw_p36, List.forall_mem_cons.mpr ⟨lw_p37, List.forall_mem_cons.mpr ⟨lw_p38, List.forall_mem_cons.mpr ⟨lw_p39, List.forall_mem_cons.mpr ⟨lw_p40, List.forall_mem_cons.mpr ⟨lw_p41, List.forall_mem_cons.mpr ⟨lw_p42, List.forall_mem_cons.mpr ⟨lw_p43, List.forall_mem_cons.mpr ⟨lw_p44, List.forall_mem_cons.mpr ⟨lw_p45, List.forall_mem_cons.mpr ⟨lw_p46, List.forall_mem_cons.mpr ⟨lw_p47, fun _ h => absurd h List.not_mem_nil⟩⟩⟩⟩⟩⟩⟩⟩⟩⟩⟩⟩⟩⟩⟩⟩
theorem lw_p48 : lw_okq (⟨"NorthWheelModel", "readsLine", "()Z"⟩, 37) := ⟨⟨by decide +kernel, by decide +kernel⟩, List.mem_of_getElem? (i := 823) (by decide +kernel), List.mem_of_getElem? (i := 1100) (by decide +kernel), List.mem_of_getElem? (i := 1101) (by decide +kernel)⟩
theorem lw_p49 : lw_okq (⟨"NorthWheelModel", "isWord", "(II)Z"⟩, 37) := ⟨⟨by decide +kernel, by decide +kernel⟩, List.mem_of_getElem? (i := 823) (by decide +kernel), List.mem_of_getElem? (i := 1105) (by decide +kernel), List.mem_of_getElem? (i := 1106) (by decide +kernel)⟩
theorem lw_p50 : lw_okq (⟨"NorthWheelModel", "laySwing", "(IIZIII)V"⟩, 37) := ⟨⟨by decide +kernel, by decide +kernel⟩, List.mem_of_getElem? (i := 823) (by decide +kernel), List.mem_of_getElem? (i := 1132) (by decide +kernel), List.mem_of_getElem? (i := 1133) (by decide +kernel)⟩
theorem lw_p51 : lw_okq (⟨"NorthWheelModel", "rests", "()I"⟩, 37) := ⟨⟨by decide +kernel, by decide +kernel⟩, List.mem_of_getElem? (i := 823) (by decide +kernel), List.mem_of_getElem? (i := 1136) (by decide +kernel), List.mem_of_getElem? (i := 1137) (by decide +kernel)⟩
theorem lw_p52 : lw_okq (⟨"NorthWheelModel", "crosses", "()I"⟩, 37) := ⟨⟨by decide +kernel, by decide +kernel⟩, List.mem_of_getElem? (i := 823) (by decide +kernel), List.mem_of_getElem? (i := 1140) (by decide +kernel), List.mem_of_getElem? (i := 1141) (by decide +kernel)⟩
theorem lw_p53 : lw_okq (⟨"NorthWheelModel", "turnedOf", "(IIIII)I"⟩, 37) := ⟨⟨by decide +kernel, by decide +kernel⟩, List.mem_of_getElem? (i := 823) (by decide +kernel), List.mem_of_getElem? (i := 1156) (by decide +kernel), List.mem_of_getElem? (i := 1157) (by decide +kernel)⟩
theorem lw_p54 : lw_okq (⟨"NorthWheelModel", "keep", "(II)V"⟩, 37) := ⟨⟨by decide +kernel, by decide +kernel⟩, List.mem_of_getElem? (i := 823) (by decide +kernel), List.mem_of_getElem? (i := 1168) (by decide +kernel), List.mem_of_getElem? (i := 1169) (by decide +kernel)⟩
theorem lw_p55 : lw_okq (⟨"NorthWheelModel", "isWrong", "(III)Z"⟩, 37) := ⟨⟨by decide +kernel, by decide +kernel⟩, List.mem_of_getElem? (i := 823) (by decide +kernel), List.mem_of_getElem? (i := 1186) (by decide +kernel), List.mem_of_getElem? (i := 1187) (by decide +kernel)⟩
theorem lw_p56 : lw_okq (⟨"NorthWheelModel", "mayBe", "(III)Z"⟩, 37) := ⟨⟨by decide +kernel, by decide +kernel⟩, List.mem_of_getElem? (i := 823) (by decide +kernel), List.mem_of_getElem? (i := 1207) (by decide +kernel), List.mem_of_getElem? (i := 1208) (by decide +kernel)⟩
def lw_privs_4 : List (MethodName × Nat) := [(⟨"NorthWheelModel", "readsLine", "()Z"⟩, 37), (⟨"NorthWheelModel", "isWord", "(II)Z"⟩, 37), (⟨"NorthWheelModel", "laySwing", "(IIZIII)V"⟩, 37), (⟨"NorthWheelModel", "rests", "()I"⟩, 37), (⟨"NorthWheelModel", "crosses", "()I"⟩, 37), (⟨"NorthWheelModel", "turnedOf", "(IIIII)I"⟩, 37), (⟨"NorthWheelModel", "keep", "(II)V"⟩, 37), (⟨"NorthWheelModel", "isWrong", "(III)Z"⟩, 37), (⟨"NorthWheelModel", "mayBe", "(III)Z"⟩, 37)]
theorem lw_r4 : ∀ q ∈ lw_privs_4, lw_okq q := List.forall_mem_cons.mpr ⟨lw_p48, List.forall_mem_cons.mpr ⟨lw_p49, List.forall_mem_cons.mpr ⟨lw_p50, List.forall_mem_cons.mpr ⟨lw_p51, List.forall_mem_cons.mpr ⟨lw_p52, List.forall_mem_cons.mpr ⟨lw_p53, List.forall_mem_cons.mpr ⟨lw_p54, List.forall_mem_cons.mpr ⟨lw_p55, List.forall_mem_cons.mpr ⟨lw_p56, fun _ h => absurd h List.not_mem_nil⟩⟩⟩⟩⟩⟩⟩⟩⟩
def lw_privs : List (MethodName × Nat) := lw_privs_1 ++ (lw_privs_2 ++ (lw_privs_3 ++ (lw_privs_4)))
def lw_tbl : List Cond := k2_sels lw_privs ++ tables_1
theorem lw_privs_ok : ∀ q ∈ lw_privs, lw_okq q := by
  show ∀ q ∈ lw_privs_1 ++ (lw_privs_2 ++ (lw_privs_3 ++ (lw_privs_4))), lw_okq q
  exact List.forall_mem_append.mpr ⟨lw_r1, List.forall_mem_append.mpr ⟨lw_r2, List.forall_mem_append.mpr ⟨lw_r3, lw_r4⟩⟩⟩
end
section
def RX0 : String := "NorthWheel$Helm"
def TX0 : u_T := fun k => match k with
  | 0 => ("NorthWheel$Helm", "numbers", "[I", true)
  | 1 => ("NorthWheel$Helm", "course", "I", false)
  | 2 => ("NorthWheel$Helm", "hasLooked", "Z", false)
  | _ => ("NorthWheel$Helm", "lastShown", "I", false)
def tyX0 : Nat → FieldType := fun k => match k with
  | 0 => .array .int
  | 1 => .int
  | 2 => .boolean
  | _ => .int
abbrev wsX00 : List Cond := u_ws RX0 TX0 4
theorem nmX0 : ∀ a, a < 4 → ∀ b, b < 4 → a ≠ b → (TX0 a).2.1 ≠ (TX0 b).2.1 := by decide +kernel
theorem tyX0_ok : ∀ k, k < 4 → parseFieldDescriptor (TX0 k).2.2.1 = some (tyX0 k) := by decide +kernel
abbrev cX0_init : ByteArray := prog_2_method_1_code
def yX0_init : MethodName := ⟨RX0, "<init>", "()V"⟩
abbrev cX0_copyFrom : ByteArray := prog_2_method_2_code
def yX0_copyFrom : MethodName := ⟨RX0, "copyFrom", "(LNorthWheel$Helm;)V"⟩
abbrev cX0_become : ByteArray := prog_2_method_3_code
def yX0_become : MethodName := ⟨RX0, "become", "([I)V"⟩
abbrev cX0_steerFor : ByteArray := prog_2_method_4_code
def yX0_steerFor : MethodName := ⟨RX0, "steerFor", "(I)V"⟩
abbrev cX0_steerShip : ByteArray := prog_2_method_5_code
def yX0_steerShip : MethodName := ⟨RX0, "steerShip", "(LNorthWheel$Ship;)V"⟩
abbrev cX0_answerTo : ByteArray := prog_2_method_6_code
def yX0_answerTo : MethodName := ⟨RX0, "answerTo", "(II)I"⟩
def RX1 : String := "NorthWheel$Keeping"
def TX1 : u_T := fun k => match k with
  | 0 => ("NorthWheel$Keeping", "ship", "LNorthWheel$Ship;", true)
  | 1 => ("NorthWheel$Keeping", "helm", "LNorthWheel$Helm;", true)
  | 2 => ("NorthWheel$Keeping", "worst", "I", false)
  | _ => ("NorthWheel$Keeping", "dear", "I", false)
def tyX1 : Nat → FieldType := fun k => match k with
  | 0 => .object "NorthWheel$Ship"
  | 1 => .object "NorthWheel$Helm"
  | 2 => .int
  | _ => .int
abbrev wsX10 : List Cond := u_ws RX1 TX1 4
theorem nmX1 : ∀ a, a < 4 → ∀ b, b < 4 → a ≠ b → (TX1 a).2.1 ≠ (TX1 b).2.1 := by decide +kernel
theorem tyX1_ok : ∀ k, k < 4 → parseFieldDescriptor (TX1 k).2.2.1 = some (tyX1 k) := by decide +kernel
abbrev cX1_init : ByteArray := prog_3_method_1_code
def yX1_init : MethodName := ⟨RX1, "<init>", "(LNorthWheel$Ship;LNorthWheel$Helm;)V"⟩
abbrev cX1_keep : ByteArray := prog_3_method_2_code
def yX1_keep : MethodName := ⟨RX1, "keep", "(LNorthWheel$Ship;LNorthWheel$Helm;II)V"⟩
def RX2 : String := "NorthWheel$Looks"
def TX2 : u_T := fun k => match k with
  | 0 => ("NorthWheel$Looks", "shown", "[I", true)
  | _ => ("NorthWheel$Looks", "size", "I", false)
def tyX2 : Nat → FieldType := fun k => match k with
  | 0 => .array .int
  | _ => .int
abbrev wsX20 : List Cond := u_ws RX2 TX2 2
theorem nmX2 : ∀ a, a < 2 → ∀ b, b < 2 → a ≠ b → (TX2 a).2.1 ≠ (TX2 b).2.1 := by decide +kernel
theorem tyX2_ok : ∀ k, k < 2 → parseFieldDescriptor (TX2 k).2.2.1 = some (tyX2 k) := by decide +kernel
abbrev cX2_init : ByteArray := prog_4_method_1_code
def yX2_init : MethodName := ⟨RX2, "<init>", "()V"⟩
abbrev cX2_add : ByteArray := prog_4_method_2_code
def yX2_add : MethodName := ⟨RX2, "add", "(III)I"⟩
abbrev cX2_wrongInEach : ByteArray := prog_4_method_3_code
def yX2_wrongInEach : MethodName := ⟨RX2, "wrongInEach", "(I)I"⟩
abbrev cX2_wrongInSome : ByteArray := prog_4_method_4_code
def yX2_wrongInSome : MethodName := ⟨RX2, "wrongInSome", "(I)I"⟩
abbrev cX2_wrongIn : ByteArray := prog_4_method_5_code
def yX2_wrongIn : MethodName := ⟨RX2, "wrongIn", "(II)I"⟩
def RX3 : String := "NorthWheel$Needles"
def TX3 : u_T := fun k => match k with
  | _ => ("NorthWheel$Needles", "deviations", "[I", true)
def tyX3 : Nat → FieldType := fun k => match k with
  | _ => .array .int
abbrev wsX30 : List Cond := u_ws RX3 TX3 1
theorem nmX3 : ∀ a, a < 1 → ∀ b, b < 1 → a ≠ b → (TX3 a).2.1 ≠ (TX3 b).2.1 := by decide +kernel
theorem tyX3_ok : ∀ k, k < 1 → parseFieldDescriptor (TX3 k).2.2.1 = some (tyX3 k) := by decide +kernel
abbrev cX3_init : ByteArray := prog_5_method_1_code
def yX3_init : MethodName := ⟨RX3, "<init>", "()V"⟩
abbrev cX3_deviationAt : ByteArray := prog_5_method_2_code
def yX3_deviationAt : MethodName := ⟨RX3, "deviationAt", "(I)I"⟩
def RX4 : String := "NorthWheel$Pointer"
def TX4 : u_T := fun k => match k with
  | 0 => ("NorthWheel$Pointer", "kind", "I", false)
  | 1 => ("NorthWheel$Pointer", "pull", "I", false)
  | 2 => ("NorthWheel$Pointer", "damp", "I", false)
  | 3 => ("NorthWheel$Pointer", "kick", "I", false)
  | 4 => ("NorthWheel$Pointer", "off", "I", false)
  | 5 => ("NorthWheel$Pointer", "rate", "I", false)
  | 6 => ("NorthWheel$Pointer", "toldSpeed", "I", false)
  | _ => ("NorthWheel$Pointer", "toldPlace", "I", false)
def tyX4 : Nat → FieldType := fun k => match k with
  | 0 => .int
  | 1 => .int
  | 2 => .int
  | 3 => .int
  | 4 => .int
  | 5 => .int
  | 6 => .int
  | _ => .int
abbrev wsX40 : List Cond := u_ws RX4 TX4 8
theorem nmX4 : ∀ a, a < 8 → ∀ b, b < 8 → a ≠ b → (TX4 a).2.1 ≠ (TX4 b).2.1 := by decide +kernel
theorem tyX4_ok : ∀ k, k < 8 → parseFieldDescriptor (TX4 k).2.2.1 = some (tyX4 k) := by decide +kernel
abbrev cX4_init : ByteArray := prog_6_method_1_code
def yX4_init : MethodName := ⟨RX4, "<init>", "()V"⟩
abbrev cX4_copyFrom : ByteArray := prog_6_method_2_code
def yX4_copyFrom : MethodName := ⟨RX4, "copyFrom", "(LNorthWheel$Pointer;)V"⟩
abbrev cX4_retune : ByteArray := prog_6_method_3_code
def yX4_retune : MethodName := ⟨RX4, "retune", "(II)I"⟩
abbrev cX4_layAt : ByteArray := prog_6_method_4_code
def yX4_layAt : MethodName := ⟨RX4, "layAt", "(I)V"⟩
abbrev cX4_shownAt : ByteArray := prog_6_method_5_code
def yX4_shownAt : MethodName := ⟨RX4, "shownAt", "(ILNorthWheel$Needles;)I"⟩
abbrev cX4_tickIn : ByteArray := prog_6_method_6_code
def yX4_tickIn : MethodName := ⟨RX4, "tickIn", "(LNorthWheel$Ship;I)V"⟩
abbrev cX4_sway : ByteArray := prog_6_method_7_code
def yX4_sway : MethodName := ⟨RX4, "sway", "(IIIZ)V"⟩
def RX5 : String := "NorthWheel$Script"
def TX5 : u_T := fun k => match k with
  | 0 => ("NorthWheel$Script", "bytes", "[I", true)
  | 1 => ("NorthWheel$Script", "length", "I", false)
  | 2 => ("NorthWheel$Script", "numbers", "[I", true)
  | _ => ("NorthWheel$Script", "lines", "I", false)
def tyX5 : Nat → FieldType := fun k => match k with
  | 0 => .array .int
  | 1 => .int
  | 2 => .array .int
  | _ => .int
abbrev wsX50 : List Cond := u_ws RX5 TX5 4
theorem nmX5 : ∀ a, a < 4 → ∀ b, b < 4 → a ≠ b → (TX5 a).2.1 ≠ (TX5 b).2.1 := by decide +kernel
theorem tyX5_ok : ∀ k, k < 4 → parseFieldDescriptor (TX5 k).2.2.1 = some (tyX5 k) := by decide +kernel
abbrev cX5_init : ByteArray := prog_7_method_1_code
def yX5_init : MethodName := ⟨RX5, "<init>", "()V"⟩
abbrev cX5_append : ByteArray := prog_7_method_2_code
def yX5_append : MethodName := ⟨RX5, "append", "(JI)I"⟩
abbrev cX5_read : ByteArray := prog_7_method_3_code
def yX5_read : MethodName := ⟨RX5, "read", "()I"⟩
abbrev cX5_behindBlanks : ByteArray := prog_7_method_4_code
def yX5_behindBlanks : MethodName := ⟨RX5, "behindBlanks", "(I)I"⟩
abbrev cX5_tokenEnd : ByteArray := prog_7_method_5_code
def yX5_tokenEnd : MethodName := ⟨RX5, "tokenEnd", "(I)I"⟩
abbrev cX5_wordAt : ByteArray := prog_7_method_6_code
def yX5_wordAt : MethodName := ⟨RX5, "wordAt", "(I)I"⟩
abbrev cX5_isSpelt : ByteArray := prog_7_method_7_code
def yX5_isSpelt : MethodName := ⟨RX5, "isSpelt", "(IILjava/lang/String;)Z"⟩
abbrev cX5_numberAt : ByteArray := prog_7_method_8_code
def yX5_numberAt : MethodName := ⟨RX5, "numberAt", "(I)I"⟩
abbrev cX5_nameOf : ByteArray := prog_7_method_9_code
def yX5_nameOf : MethodName := ⟨RX5, "nameOf", "(I)Ljava/lang/String;"⟩
abbrev cX5_isLetter : ByteArray := prog_7_method_10_code
def yX5_isLetter : MethodName := ⟨RX5, "isLetter", "(I)Z"⟩
abbrev cX5_isDigit : ByteArray := prog_7_method_11_code
def yX5_isDigit : MethodName := ⟨RX5, "isDigit", "(I)Z"⟩
def RX6 : String := "NorthWheel$Seas"
def TX6 : u_T := fun k => match k with
  | 0 => ("NorthWheel$Seas", "yaws", "[I", true)
  | _ => ("NorthWheel$Seas", "size", "I", false)
def tyX6 : Nat → FieldType := fun k => match k with
  | 0 => .array .int
  | _ => .int
abbrev wsX60 : List Cond := u_ws RX6 TX6 2
theorem nmX6 : ∀ a, a < 2 → ∀ b, b < 2 → a ≠ b → (TX6 a).2.1 ≠ (TX6 b).2.1 := by decide +kernel
theorem tyX6_ok : ∀ k, k < 2 → parseFieldDescriptor (TX6 k).2.2.1 = some (tyX6 k) := by decide +kernel
abbrev cX6_init : ByteArray := prog_8_method_1_code
def yX6_init : MethodName := ⟨RX6, "<init>", "()V"⟩
abbrev cX6_add : ByteArray := prog_8_method_2_code
def yX6_add : MethodName := ⟨RX6, "add", "(I)I"⟩
abbrev cX6_yawOf : ByteArray := prog_8_method_3_code
def yX6_yawOf : MethodName := ⟨RX6, "yawOf", "(I)I"⟩
def RX7 : String := "NorthWheel$Ship"
def TX7 : u_T := fun k => match k with
  | 0 => ("NorthWheel$Ship", "seas", "LNorthWheel$Seas;", true)
  | 1 => ("NorthWheel$Ship", "needles", "LNorthWheel$Needles;", true)
  | 2 => ("NorthWheel$Ship", "pointers", "[LNorthWheel$Pointer;", true)
  | 3 => ("NorthWheel$Ship", "place", "I", false)
  | 4 => ("NorthWheel$Ship", "heading", "I", false)
  | 5 => ("NorthWheel$Ship", "speed", "I", false)
  | 6 => ("NorthWheel$Ship", "rudder", "I", false)
  | 7 => ("NorthWheel$Ship", "agile", "I", false)
  | _ => ("NorthWheel$Ship", "ticks", "I", false)
def tyX7 : Nat → FieldType := fun k => match k with
  | 0 => .object "NorthWheel$Seas"
  | 1 => .object "NorthWheel$Needles"
  | 2 => .array (.object "NorthWheel$Pointer")
  | 3 => .int
  | 4 => .int
  | 5 => .int
  | 6 => .int
  | 7 => .int
  | _ => .int
abbrev wsX70 : List Cond := u_ws RX7 TX7 9
theorem nmX7 : ∀ a, a < 9 → ∀ b, b < 9 → a ≠ b → (TX7 a).2.1 ≠ (TX7 b).2.1 := by decide +kernel
theorem tyX7_ok : ∀ k, k < 9 → parseFieldDescriptor (TX7 k).2.2.1 = some (tyX7 k) := by decide +kernel
abbrev cX7_init : ByteArray := prog_9_method_1_code
def yX7_init : MethodName := ⟨RX7, "<init>", "(LNorthWheel$Seas;LNorthWheel$Needles;)V"⟩
abbrev cX7_copyFrom : ByteArray := prog_9_method_2_code
def yX7_copyFrom : MethodName := ⟨RX7, "copyFrom", "(LNorthWheel$Ship;)V"⟩
abbrev cX7_stopAllBut : ByteArray := prog_9_method_3_code
def yX7_stopAllBut : MethodName := ⟨RX7, "stopAllBut", "(I)V"⟩
abbrev cX7_pointerAt : ByteArray := prog_9_method_4_code
def yX7_pointerAt : MethodName := ⟨RX7, "pointerAt", "(I)LNorthWheel$Pointer;"⟩
abbrev cX7_tick : ByteArray := prog_9_method_5_code
def yX7_tick : MethodName := ⟨RX7, "tick", "()V"⟩
def RX8 : String := "NorthWheel$Swings"
def TX8 : u_T := fun k => match k with
  | 0 => ("NorthWheel$Swings", "trial", "LNorthWheel$Pointer;", true)
  | 1 => ("NorthWheel$Swings", "crosses", "I", false)
  | 2 => ("NorthWheel$Swings", "beyond", "I", false)
  | _ => ("NorthWheel$Swings", "rests", "I", false)
def tyX8 : Nat → FieldType := fun k => match k with
  | 0 => .object "NorthWheel$Pointer"
  | 1 => .int
  | 2 => .int
  | _ => .int
abbrev wsX80 : List Cond := u_ws RX8 TX8 4
theorem nmX8 : ∀ a, a < 4 → ∀ b, b < 4 → a ≠ b → (TX8 a).2.1 ≠ (TX8 b).2.1 := by decide +kernel
theorem tyX8_ok : ∀ k, k < 4 → parseFieldDescriptor (TX8 k).2.2.1 = some (tyX8 k) := by decide +kernel
abbrev cX8_init : ByteArray := prog_10_method_1_code
def yX8_init : MethodName := ⟨RX8, "<init>", "()V"⟩
abbrev cX8_letSwing : ByteArray := prog_10_method_2_code
def yX8_letSwing : MethodName := ⟨RX8, "letSwing", "(LNorthWheel$Pointer;IIZ)V"⟩
abbrev cX8_noteRest : ByteArray := prog_10_method_3_code
def yX8_noteRest : MethodName := ⟨RX8, "noteRest", "(I)V"⟩
abbrev cX8_noteCrossing : ByteArray := prog_10_method_4_code
def yX8_noteCrossing : MethodName := ⟨RX8, "noteCrossing", "(II)V"⟩
abbrev cX8_firstPlaceWithoutRest : ByteArray := prog_10_method_5_code
def yX8_firstPlaceWithoutRest : MethodName := ⟨RX8, "firstPlaceWithoutRest", "(LNorthWheel$Pointer;)I"⟩
abbrev cX8_disturbed : ByteArray := prog_10_method_6_code
def yX8_disturbed : MethodName := ⟨RX8, "disturbed", "(LNorthWheel$Pointer;IIIII)I"⟩
abbrev cX8_calmestPull : ByteArray := prog_10_method_7_code
def yX8_calmestPull : MethodName := ⟨RX8, "calmestPull", "(LNorthWheel$Pointer;IIII)I"⟩
def RX9 : String := "NorthWheel$TurnedAbout"
def TX9 : u_T := fun k => match k with
  | 0 => ("NorthWheel$TurnedAbout", "sizes", "[I", true)
  | 1 => ("NorthWheel$TurnedAbout", "least", "[I", true)
  | 2 => ("NorthWheel$TurnedAbout", "greatest", "[I", true)
  | _ => ("NorthWheel$TurnedAbout", "size", "I", false)
def tyX9 : Nat → FieldType := fun k => match k with
  | 0 => .array .int
  | 1 => .array .int
  | 2 => .array .int
  | _ => .int
abbrev wsX90 : List Cond := u_ws RX9 TX9 4
theorem nmX9 : ∀ a, a < 4 → ∀ b, b < 4 → a ≠ b → (TX9 a).2.1 ≠ (TX9 b).2.1 := by decide +kernel
theorem tyX9_ok : ∀ k, k < 4 → parseFieldDescriptor (TX9 k).2.2.1 = some (tyX9 k) := by decide +kernel
abbrev cX9_init : ByteArray := prog_11_method_1_code
def yX9_init : MethodName := ⟨RX9, "<init>", "()V"⟩
abbrev cX9_add : ByteArray := prog_11_method_2_code
def yX9_add : MethodName := ⟨RX9, "add", "(II)I"⟩
def RX10 : String := "NorthWheel$Watched"
def TX10 : u_T := fun k => match k with
  | 0 => ("NorthWheel$Watched", "ticks", "[I", true)
  | 1 => ("NorthWheel$Watched", "offs", "[I", true)
  | 2 => ("NorthWheel$Watched", "size", "I", false)
  | 3 => ("NorthWheel$Watched", "trial", "LNorthWheel$Pointer;", true)
  | 4 => ("NorthWheel$Watched", "path", "[I", true)
  | 5 => ("NorthWheel$Watched", "least", "[I", true)
  | 6 => ("NorthWheel$Watched", "greatest", "[I", true)
  | 7 => ("NorthWheel$Watched", "fitting", "I", false)
  | _ => ("NorthWheel$Watched", "first", "I", false)
def tyX10 : Nat → FieldType := fun k => match k with
  | 0 => .array .int
  | 1 => .array .int
  | 2 => .int
  | 3 => .object "NorthWheel$Pointer"
  | 4 => .array .int
  | 5 => .array .int
  | 6 => .array .int
  | 7 => .int
  | _ => .int
abbrev wsX100 : List Cond := u_ws RX10 TX10 9
theorem nmX10 : ∀ a, a < 9 → ∀ b, b < 9 → a ≠ b → (TX10 a).2.1 ≠ (TX10 b).2.1 := by decide +kernel
theorem tyX10_ok : ∀ k, k < 9 → parseFieldDescriptor (TX10 k).2.2.1 = some (tyX10 k) := by decide +kernel
abbrev cX10_init : ByteArray := prog_12_method_1_code
def yX10_init : MethodName := ⟨RX10, "<init>", "()V"⟩
abbrev cX10_add : ByteArray := prog_12_method_2_code
def yX10_add : MethodName := ⟨RX10, "add", "(II)I"⟩
abbrev cX10_findThoseThatFit : ByteArray := prog_12_method_3_code
def yX10_findThoseThatFit : MethodName := ⟨RX10, "findThoseThatFit", "(I)V"⟩
abbrev cX10_follow : ByteArray := prog_12_method_4_code
def yX10_follow : MethodName := ⟨RX10, "follow", "(II)V"⟩
abbrev cX10_fits : ByteArray := prog_12_method_5_code
def yX10_fits : MethodName := ⟨RX10, "fits", "(I)Z"⟩
abbrev cX10_widen : ByteArray := prog_12_method_6_code
def yX10_widen : MethodName := ⟨RX10, "widen", "()V"⟩
abbrev cX10_widestTick : ByteArray := prog_12_method_7_code
def yX10_widestTick : MethodName := ⟨RX10, "widestTick", "()I"⟩
def RX11 : String := "NorthWheel"
def TX11 : u_T := fun k => match k with
  | 0 => ("NorthWheel", "seas", "LNorthWheel$Seas;", true)
  | 1 => ("NorthWheel", "needles", "LNorthWheel$Needles;", true)
  | 2 => ("NorthWheel", "ship", "LNorthWheel$Ship;", true)
  | 3 => ("NorthWheel", "helm", "LNorthWheel$Helm;", true)
  | 4 => ("NorthWheel", "script", "LNorthWheel$Script;", true)
  | 5 => ("NorthWheel", "swings", "LNorthWheel$Swings;", true)
  | 6 => ("NorthWheel", "keeping", "LNorthWheel$Keeping;", true)
  | 7 => ("NorthWheel", "looks", "LNorthWheel$Looks;", true)
  | 8 => ("NorthWheel", "turnedAbout", "LNorthWheel$TurnedAbout;", true)
  | _ => ("NorthWheel", "watched", "LNorthWheel$Watched;", true)
def tyX11 : Nat → FieldType := fun k => match k with
  | 0 => .object "NorthWheel$Seas"
  | 1 => .object "NorthWheel$Needles"
  | 2 => .object "NorthWheel$Ship"
  | 3 => .object "NorthWheel$Helm"
  | 4 => .object "NorthWheel$Script"
  | 5 => .object "NorthWheel$Swings"
  | 6 => .object "NorthWheel$Keeping"
  | 7 => .object "NorthWheel$Looks"
  | 8 => .object "NorthWheel$TurnedAbout"
  | _ => .object "NorthWheel$Watched"
abbrev wsX110 : List Cond := u_ws RX11 TX11 10
theorem nmX11 : ∀ a, a < 10 → ∀ b, b < 10 → a ≠ b → (TX11 a).2.1 ≠ (TX11 b).2.1 := by decide +kernel
theorem tyX11_ok : ∀ k, k < 10 → parseFieldDescriptor (TX11 k).2.2.1 = some (tyX11 k) := by decide +kernel
abbrev cX11_init : ByteArray := prog_1_method_1_code
def yX11_init : MethodName := ⟨RX11, "<init>", "()V"⟩
abbrev cX11_set : ByteArray := prog_1_method_2_code
def yX11_set : MethodName := ⟨RX11, "set", "(II)I"⟩
abbrev cX11_head : ByteArray := prog_1_method_3_code
def yX11_head : MethodName := ⟨RX11, "head", "(I)I"⟩
abbrev cX11_sea : ByteArray := prog_1_method_4_code
def yX11_sea : MethodName := ⟨RX11, "sea", "(I)I"⟩
abbrev cX11_calm : ByteArray := prog_1_method_5_code
def yX11_calm : MethodName := ⟨RX11, "calm", "()I"⟩
abbrev cX11_kind : ByteArray := prog_1_method_6_code
def yX11_kind : MethodName := ⟨RX11, "kind", "(II)I"⟩
abbrev cX11_tune : ByteArray := prog_1_method_7_code
def yX11_tune : MethodName := ⟨RX11, "tune", "(III)I"⟩
abbrev cX11_off : ByteArray := prog_1_method_8_code
def yX11_off : MethodName := ⟨RX11, "off", "(II)I"⟩
abbrev cX11_told : ByteArray := prog_1_method_9_code
def yX11_told : MethodName := ⟨RX11, "told", "(III)I"⟩
abbrev cX11_iron : ByteArray := prog_1_method_10_code
def yX11_iron : MethodName := ⟨RX11, "iron", "(II)I"⟩
abbrev cX11_shows : ByteArray := prog_1_method_11_code
def yX11_shows : MethodName := ⟨RX11, "shows", "(I)I"⟩
abbrev cX11_now : ByteArray := prog_1_method_12_code
def yX11_now : MethodName := ⟨RX11, "now", "(II)I"⟩
abbrev cX11_lean : ByteArray := prog_1_method_13_code
def yX11_lean : MethodName := ⟨RX11, "lean", "(III)I"⟩
abbrev cX11_deviation : ByteArray := prog_1_method_14_code
def yX11_deviation : MethodName := ⟨RX11, "deviation", "(I)I"⟩
abbrev cX11_run : ByteArray := prog_1_method_15_code
def yX11_run : MethodName := ⟨RX11, "run", "(IZ)I"⟩
abbrev cX11_write : ByteArray := prog_1_method_16_code
def yX11_write : MethodName := ⟨RX11, "write", "(JI)I"⟩
abbrev cX11_erase : ByteArray := prog_1_method_17_code
def yX11_erase : MethodName := ⟨RX11, "erase", "()I"⟩
abbrev cX11_fault : ByteArray := prog_1_method_18_code
def yX11_fault : MethodName := ⟨RX11, "fault", "()I"⟩
abbrev cX11_steerer : ByteArray := prog_1_method_19_code
def yX11_steerer : MethodName := ⟨RX11, "steerer", "()I"⟩
abbrev cX11_steers : ByteArray := prog_1_method_20_code
def yX11_steers : MethodName := ⟨RX11, "steers", "(I)I"⟩
abbrev cX11_course : ByteArray := prog_1_method_21_code
def yX11_course : MethodName := ⟨RX11, "course", "(I)I"⟩
abbrev cX11_swing : ByteArray := prog_1_method_22_code
def yX11_swing : MethodName := ⟨RX11, "swing", "(IIZI)I"⟩
abbrev cX11_noUse : ByteArray := prog_1_method_23_code
def yX11_noUse : MethodName := ⟨RX11, "noUse", "(I)I"⟩
abbrev cX11_turned : ByteArray := prog_1_method_24_code
def yX11_turned : MethodName := ⟨RX11, "turned", "(IIII)I"⟩
abbrev cX11_bestPull : ByteArray := prog_1_method_25_code
def yX11_bestPull : MethodName := ⟨RX11, "bestPull", "(IIII)I"⟩
abbrev cX11_kept : ByteArray := prog_1_method_26_code
def yX11_kept : MethodName := ⟨RX11, "kept", "(III)I"⟩
abbrev cX11_bestDead : ByteArray := prog_1_method_27_code
def yX11_bestDead : MethodName := ⟨RX11, "bestDead", "(II)I"⟩
abbrev cX11_look : ByteArray := prog_1_method_28_code
def yX11_look : MethodName := ⟨RX11, "look", "(III)I"⟩
abbrev cX11_wrong : ByteArray := prog_1_method_29_code
def yX11_wrong : MethodName := ⟨RX11, "wrong", "(II)I"⟩
abbrev cX11_about : ByteArray := prog_1_method_30_code
def yX11_about : MethodName := ⟨RX11, "about", "(II)I"⟩
abbrev cX11_needle : ByteArray := prog_1_method_31_code
def yX11_needle : MethodName := ⟨RX11, "needle", "(II)I"⟩
abbrev cX11_watch : ByteArray := prog_1_method_32_code
def yX11_watch : MethodName := ⟨RX11, "watch", "(II)I"⟩
abbrev cX11_may : ByteArray := prog_1_method_33_code
def yX11_may : MethodName := ⟨RX11, "may", "(II)I"⟩
abbrev cX11_count : ByteArray := prog_1_method_34_code
def yX11_count : MethodName := ⟨RX11, "count", "(I)I"⟩
abbrev cX11_isWithin : ByteArray := prog_1_method_35_code
def yX11_isWithin : MethodName := ⟨RX11, "isWithin", "(III)Z"⟩
abbrev cX11_isHeading : ByteArray := prog_1_method_36_code
def yX11_isHeading : MethodName := ⟨RX11, "isHeading", "(I)Z"⟩
abbrev cX11_isOff : ByteArray := prog_1_method_37_code
def yX11_isOff : MethodName := ⟨RX11, "isOff", "(I)Z"⟩
abbrev cX11_isPlace : ByteArray := prog_1_method_38_code
def yX11_isPlace : MethodName := ⟨RX11, "isPlace", "(I)Z"⟩
abbrev cX11_isSpeed : ByteArray := prog_1_method_39_code
def yX11_isSpeed : MethodName := ⟨RX11, "isSpeed", "(I)Z"⟩
abbrev cX11_isTurn : ByteArray := prog_1_method_40_code
def yX11_isTurn : MethodName := ⟨RX11, "isTurn", "(I)Z"⟩
abbrev cX11_isEighth : ByteArray := prog_1_method_41_code
def yX11_isEighth : MethodName := ⟨RX11, "isEighth", "(I)Z"⟩
abbrev cX11_isTrial : ByteArray := prog_1_method_42_code
def yX11_isTrial : MethodName := ⟨RX11, "isTrial", "(I)Z"⟩
abbrev cX11_isQuickTurn : ByteArray := prog_1_method_43_code
def yX11_isQuickTurn : MethodName := ⟨RX11, "isQuickTurn", "(III)Z"⟩
abbrev cX11_asHeading : ByteArray := prog_1_method_44_code
def yX11_asHeading : MethodName := ⟨RX11, "asHeading", "(I)I"⟩
abbrev cX11_asOff : ByteArray := prog_1_method_45_code
def yX11_asOff : MethodName := ⟨RX11, "asOff", "(I)I"⟩
abbrev cX11_apart : ByteArray := prog_1_method_46_code
def yX11_apart : MethodName := ⟨RX11, "apart", "(II)I"⟩
abbrev cX11_bounded : ByteArray := prog_1_method_47_code
def yX11_bounded : MethodName := ⟨RX11, "bounded", "(II)I"⟩
abbrev cX11_holdOf : ByteArray := prog_1_method_48_code
def yX11_holdOf : MethodName := ⟨RX11, "holdOf", "(I)I"⟩
abbrev cX11_leanOf : ByteArray := prog_1_method_49_code
def yX11_leanOf : MethodName := ⟨RX11, "leanOf", "(III)I"⟩
def RX12 : String := "NorthWheelModel"
def TX12 : u_T := fun k => match k with
  | 0 => ("NorthWheelModel", "ship", "[I", true)
  | 1 => ("NorthWheelModel", "heading", "[I", true)
  | 2 => ("NorthWheelModel", "ticks", "[I", true)
  | 3 => ("NorthWheelModel", "looked", "[I", true)
  | 4 => ("NorthWheelModel", "seas", "[I", true)
  | 5 => ("NorthWheelModel", "seaMany", "I", false)
  | 6 => ("NorthWheelModel", "kinds", "[I", true)
  | 7 => ("NorthWheelModel", "pulls", "[I", true)
  | 8 => ("NorthWheelModel", "damps", "[I", true)
  | 9 => ("NorthWheelModel", "kicks", "[I", true)
  | 10 => ("NorthWheelModel", "offs", "[I", true)
  | 11 => ("NorthWheelModel", "rates", "[I", true)
  | 12 => ("NorthWheelModel", "toldSpeed", "[I", true)
  | 13 => ("NorthWheelModel", "toldPlace", "[I", true)
  | 14 => ("NorthWheelModel", "irons", "[I", true)
  | 15 => ("NorthWheelModel", "text", "[I", true)
  | 16 => ("NorthWheelModel", "length", "I", false)
  | 17 => ("NorthWheelModel", "steers", "[I", true)
  | 18 => ("NorthWheelModel", "read", "[I", true)
  | 19 => ("NorthWheelModel", "readMany", "I", false)
  | 20 => ("NorthWheelModel", "course", "I", false)
  | 21 => ("NorthWheelModel", "lookRow", "[I", true)
  | 22 => ("NorthWheelModel", "lookMany", "I", false)
  | 23 => ("NorthWheelModel", "aboutAt", "[I", true)
  | 24 => ("NorthWheelModel", "aboutBy", "[I", true)
  | 25 => ("NorthWheelModel", "aboutMany", "I", false)
  | 26 => ("NorthWheelModel", "watchAt", "[I", true)
  | 27 => ("NorthWheelModel", "watchOff", "[I", true)
  | 28 => ("NorthWheelModel", "watchMany", "I", false)
  | 29 => ("NorthWheelModel", "at", "I", false)
  | 30 => ("NorthWheelModel", "place", "I", false)
  | 31 => ("NorthWheelModel", "end", "I", false)
  | 32 => ("NorthWheelModel", "path", "[I", true)
  | 33 => ("NorthWheelModel", "worst", "I", false)
  | 34 => ("NorthWheelModel", "dear", "I", false)
  | 35 => ("NorthWheelModel", "low", "[I", true)
  | _ => ("NorthWheelModel", "high", "[I", true)
def tyX12 : Nat → FieldType := fun k => match k with
  | 0 => .array .int
  | 1 => .array .int
  | 2 => .array .int
  | 3 => .array .int
  | 4 => .array .int
  | 5 => .int
  | 6 => .array .int
  | 7 => .array .int
  | 8 => .array .int
  | 9 => .array .int
  | 10 => .array .int
  | 11 => .array .int
  | 12 => .array .int
  | 13 => .array .int
  | 14 => .array .int
  | 15 => .array .int
  | 16 => .int
  | 17 => .array .int
  | 18 => .array .int
  | 19 => .int
  | 20 => .int
  | 21 => .array .int
  | 22 => .int
  | 23 => .array .int
  | 24 => .array .int
  | 25 => .int
  | 26 => .array .int
  | 27 => .array .int
  | 28 => .int
  | 29 => .int
  | 30 => .int
  | 31 => .int
  | 32 => .array .int
  | 33 => .int
  | 34 => .int
  | 35 => .array .int
  | _ => .array .int
abbrev wsX120 : List Cond := u_ws RX12 TX12 37
theorem nmX12 : ∀ a, a < 37 → ∀ b, b < 37 → a ≠ b → (TX12 a).2.1 ≠ (TX12 b).2.1 := by decide +kernel
theorem tyX12_ok : ∀ k, k < 37 → parseFieldDescriptor (TX12 k).2.2.1 = some (tyX12 k) := by decide +kernel
abbrev cX12_init : ByteArray := prog_14_method_1_code
def yX12_init : MethodName := ⟨RX12, "<init>", "()V"⟩
abbrev cX12_in : ByteArray := prog_14_method_2_code
def yX12_in : MethodName := ⟨RX12, "in", "(JJJ)Z"⟩
abbrev cX12_isPointer : ByteArray := prog_14_method_3_code
def yX12_isPointer : MethodName := ⟨RX12, "isPointer", "(I)Z"⟩
abbrev cX12_round : ByteArray := prog_14_method_4_code
def yX12_round : MethodName := ⟨RX12, "round", "(I)I"⟩
abbrev cX12_wrapped : ByteArray := prog_14_method_5_code
def yX12_wrapped : MethodName := ⟨RX12, "wrapped", "(I)I"⟩
abbrev cX12_size : ByteArray := prog_14_method_6_code
def yX12_size : MethodName := ⟨RX12, "size", "(I)I"⟩
abbrev cX12_held : ByteArray := prog_14_method_7_code
def yX12_held : MethodName := ⟨RX12, "held", "(II)I"⟩
abbrev cX12_holdOf : ByteArray := prog_14_method_8_code
def yX12_holdOf : MethodName := ⟨RX12, "holdOf", "(I)I"⟩
abbrev cX12_set : ByteArray := prog_14_method_9_code
def yX12_set : MethodName := ⟨RX12, "set", "(II)I"⟩
abbrev cX12_isHeading : ByteArray := prog_14_method_10_code
def yX12_isHeading : MethodName := ⟨RX12, "isHeading", "(I)Z"⟩
abbrev cX12_head : ByteArray := prog_14_method_11_code
def yX12_head : MethodName := ⟨RX12, "head", "(I)I"⟩
abbrev cX12_sea : ByteArray := prog_14_method_12_code
def yX12_sea : MethodName := ⟨RX12, "sea", "(I)I"⟩
abbrev cX12_calm : ByteArray := prog_14_method_13_code
def yX12_calm : MethodName := ⟨RX12, "calm", "()I"⟩
abbrev cX12_kind : ByteArray := prog_14_method_14_code
def yX12_kind : MethodName := ⟨RX12, "kind", "(II)I"⟩
abbrev cX12_tune : ByteArray := prog_14_method_15_code
def yX12_tune : MethodName := ⟨RX12, "tune", "(III)I"⟩
abbrev cX12_isOff : ByteArray := prog_14_method_16_code
def yX12_isOff : MethodName := ⟨RX12, "isOff", "(I)Z"⟩
abbrev cX12_off : ByteArray := prog_14_method_17_code
def yX12_off : MethodName := ⟨RX12, "off", "(II)I"⟩
abbrev cX12_isSpeed : ByteArray := prog_14_method_18_code
def yX12_isSpeed : MethodName := ⟨RX12, "isSpeed", "(I)Z"⟩
abbrev cX12_isPlace : ByteArray := prog_14_method_19_code
def yX12_isPlace : MethodName := ⟨RX12, "isPlace", "(I)Z"⟩
abbrev cX12_told : ByteArray := prog_14_method_20_code
def yX12_told : MethodName := ⟨RX12, "told", "(III)I"⟩
abbrev cX12_iron : ByteArray := prog_14_method_21_code
def yX12_iron : MethodName := ⟨RX12, "iron", "(II)I"⟩
abbrev cX12_leanOf : ByteArray := prog_14_method_22_code
def yX12_leanOf : MethodName := ⟨RX12, "leanOf", "(III)I"⟩
abbrev cX12_ironAt : ByteArray := prog_14_method_23_code
def yX12_ironAt : MethodName := ⟨RX12, "ironAt", "(I)I"⟩
abbrev cX12_showsOf : ByteArray := prog_14_method_24_code
def yX12_showsOf : MethodName := ⟨RX12, "showsOf", "(II)I"⟩
abbrev cX12_shows : ByteArray := prog_14_method_25_code
def yX12_shows : MethodName := ⟨RX12, "shows", "(I)I"⟩
abbrev cX12_now : ByteArray := prog_14_method_26_code
def yX12_now : MethodName := ⟨RX12, "now", "(II)I"⟩
abbrev cX12_lean : ByteArray := prog_14_method_27_code
def yX12_lean : MethodName := ⟨RX12, "lean", "(III)I"⟩
abbrev cX12_deviation : ByteArray := prog_14_method_28_code
def yX12_deviation : MethodName := ⟨RX12, "deviation", "(I)I"⟩
abbrev cX12_pulled : ByteArray := prog_14_method_29_code
def yX12_pulled : MethodName := ⟨RX12, "pulled", "(IIII)I"⟩
abbrev cX12_damped : ByteArray := prog_14_method_30_code
def yX12_damped : MethodName := ⟨RX12, "damped", "(II)I"⟩
abbrev cX12_kicked : ByteArray := prog_14_method_31_code
def yX12_kicked : MethodName := ⟨RX12, "kicked", "(III)I"⟩
abbrev cX12_tick : ByteArray := prog_14_method_32_code
def yX12_tick : MethodName := ⟨RX12, "tick", "(I)V"⟩
abbrev cX12_steer : ByteArray := prog_14_method_33_code
def yX12_steer : MethodName := ⟨RX12, "steer", "(II)V"⟩
abbrev cX12_run : ByteArray := prog_14_method_34_code
def yX12_run : MethodName := ⟨RX12, "run", "(IZ)I"⟩
abbrev cX12_write : ByteArray := prog_14_method_35_code
def yX12_write : MethodName := ⟨RX12, "write", "(JI)I"⟩
abbrev cX12_erase : ByteArray := prog_14_method_36_code
def yX12_erase : MethodName := ⟨RX12, "erase", "()I"⟩
abbrev cX12_sort : ByteArray := prog_14_method_37_code
def yX12_sort : MethodName := ⟨RX12, "sort", "(I)I"⟩
abbrev cX12_token : ByteArray := prog_14_method_38_code
def yX12_token : MethodName := ⟨RX12, "token", "()V"⟩
abbrev cX12_isWord : ByteArray := prog_14_method_39_code
def yX12_isWord : MethodName := ⟨RX12, "isWord", "(II)Z"⟩
abbrev cX12_readsLine : ByteArray := prog_14_method_40_code
def yX12_readsLine : MethodName := ⟨RX12, "readsLine", "()Z"⟩
abbrev cX12_fault : ByteArray := prog_14_method_41_code
def yX12_fault : MethodName := ⟨RX12, "fault", "()I"⟩
abbrev cX12_steerer : ByteArray := prog_14_method_42_code
def yX12_steerer : MethodName := ⟨RX12, "steerer", "()I"⟩
abbrev cX12_steers : ByteArray := prog_14_method_43_code
def yX12_steers : MethodName := ⟨RX12, "steers", "(I)I"⟩
abbrev cX12_course : ByteArray := prog_14_method_44_code
def yX12_course : MethodName := ⟨RX12, "course", "(I)I"⟩
abbrev cX12_laySwing : ByteArray := prog_14_method_45_code
def yX12_laySwing : MethodName := ⟨RX12, "laySwing", "(IIZIII)V"⟩
abbrev cX12_crosses : ByteArray := prog_14_method_46_code
def yX12_crosses : MethodName := ⟨RX12, "crosses", "()I"⟩
abbrev cX12_rests : ByteArray := prog_14_method_47_code
def yX12_rests : MethodName := ⟨RX12, "rests", "()I"⟩
abbrev cX12_swing : ByteArray := prog_14_method_48_code
def yX12_swing : MethodName := ⟨RX12, "swing", "(IIZI)I"⟩
abbrev cX12_noUse : ByteArray := prog_14_method_49_code
def yX12_noUse : MethodName := ⟨RX12, "noUse", "(I)I"⟩
abbrev cX12_turnedOf : ByteArray := prog_14_method_50_code
def yX12_turnedOf : MethodName := ⟨RX12, "turnedOf", "(IIIII)I"⟩
abbrev cX12_isTurn : ByteArray := prog_14_method_51_code
def yX12_isTurn : MethodName := ⟨RX12, "isTurn", "(III)Z"⟩
abbrev cX12_turned : ByteArray := prog_14_method_52_code
def yX12_turned : MethodName := ⟨RX12, "turned", "(IIII)I"⟩
abbrev cX12_bestPull : ByteArray := prog_14_method_53_code
def yX12_bestPull : MethodName := ⟨RX12, "bestPull", "(IIII)I"⟩
abbrev cX12_keep : ByteArray := prog_14_method_54_code
def yX12_keep : MethodName := ⟨RX12, "keep", "(II)V"⟩
abbrev cX12_kept : ByteArray := prog_14_method_55_code
def yX12_kept : MethodName := ⟨RX12, "kept", "(III)I"⟩
abbrev cX12_bestDead : ByteArray := prog_14_method_56_code
def yX12_bestDead : MethodName := ⟨RX12, "bestDead", "(II)I"⟩
abbrev cX12_look : ByteArray := prog_14_method_57_code
def yX12_look : MethodName := ⟨RX12, "look", "(III)I"⟩
abbrev cX12_isWrong : ByteArray := prog_14_method_58_code
def yX12_isWrong : MethodName := ⟨RX12, "isWrong", "(III)Z"⟩
abbrev cX12_wrong : ByteArray := prog_14_method_59_code
def yX12_wrong : MethodName := ⟨RX12, "wrong", "(II)I"⟩
abbrev cX12_about : ByteArray := prog_14_method_60_code
def yX12_about : MethodName := ⟨RX12, "about", "(II)I"⟩
abbrev cX12_needle : ByteArray := prog_14_method_61_code
def yX12_needle : MethodName := ⟨RX12, "needle", "(II)I"⟩
abbrev cX12_watch : ByteArray := prog_14_method_62_code
def yX12_watch : MethodName := ⟨RX12, "watch", "(II)I"⟩
abbrev cX12_mayBe : ByteArray := prog_14_method_63_code
def yX12_mayBe : MethodName := ⟨RX12, "mayBe", "(III)Z"⟩
abbrev cX12_may : ByteArray := prog_14_method_64_code
def yX12_may : MethodName := ⟨RX12, "may", "(II)I"⟩
abbrev cX12_count : ByteArray := prog_14_method_65_code
def yX12_count : MethodName := ⟨RX12, "count", "(I)I"⟩
def RJ9 : String := "java/lang/Math"
def TJ9 : u_T := fun k => match k with
  | _ => ("", "", "", false)
def tyJ9 : Nat → FieldType := fun k => match k with
  | _ => .int
abbrev wsJ90 : List Cond := u_ws RJ9 TJ9 0
theorem nmJ9 : ∀ a, a < 0 → ∀ b, b < 0 → a ≠ b → (TJ9 a).2.1 ≠ (TJ9 b).2.1 := by decide +kernel
theorem tyJ9_ok : ∀ k, k < 0 → parseFieldDescriptor (TJ9 k).2.2.1 = some (tyJ9 k) := by decide +kernel
abbrev cJ9_floorMod_7cf53 : ByteArray := prog_15_method_50_code
def yJ9_floorMod_7cf53 : MethodName := ⟨RJ9, "floorMod", "(II)I"⟩
abbrev cJ9_abs_0f7a4 : ByteArray := prog_15_method_59_code
def yJ9_abs_0f7a4 : MethodName := ⟨RJ9, "abs", "(I)I"⟩
abbrev cJ9_max_7cf53 : ByteArray := prog_15_method_65_code
def yJ9_max_7cf53 : MethodName := ⟨RJ9, "max", "(II)I"⟩
abbrev cJ9_min_7cf53 : ByteArray := prog_15_method_69_code
def yJ9_min_7cf53 : MethodName := ⟨RJ9, "min", "(II)I"⟩
def RJ0 : String := "java/lang/String"
def TJ0 : u_T := fun k => match k with
  | _ => ("", "", "", false)
def tyJ0 : Nat → FieldType := fun k => match k with
  | _ => .int
abbrev wsJ00 : List Cond := u_ws RJ0 TJ0 0
theorem nmJ0 : ∀ a, a < 0 → ∀ b, b < 0 → a ≠ b → (TJ0 a).2.1 ≠ (TJ0 b).2.1 := by decide +kernel
theorem tyJ0_ok : ∀ k, k < 0 → parseFieldDescriptor (TJ0 k).2.2.1 = some (tyJ0 k) := by decide +kernel
abbrev cJ0_length_8abf5 : ByteArray := prog_16_method_54_code
def yJ0_length_8abf5 : MethodName := ⟨RJ0, "length", "()I"⟩
abbrev cJ0_charAt_5068e : ByteArray := prog_16_method_56_code
def yJ0_charAt_5068e : MethodName := ⟨RJ0, "charAt", "(I)C"⟩
abbrev cJ0_coder_7d493 : ByteArray := prog_16_method_152_code
def yJ0_coder_7d493 : MethodName := ⟨RJ0, "coder", "()B"⟩
abbrev cJ0_isLatin1_aae02 : ByteArray := prog_16_method_154_code
def yJ0_isLatin1_aae02 : MethodName := ⟨RJ0, "isLatin1", "()Z"⟩
abbrev cJ0_checkIndex_df160 : ByteArray := prog_16_method_155_code
def yJ0_checkIndex_df160 : MethodName := ⟨RJ0, "checkIndex", "(II)V"⟩
def RJ1 : String := "java/lang/StringLatin1"
def TJ1 : u_T := fun k => match k with
  | _ => ("", "", "", false)
def tyJ1 : Nat → FieldType := fun k => match k with
  | _ => .int
abbrev wsJ10 : List Cond := u_ws RJ1 TJ1 0
theorem nmJ1 : ∀ a, a < 0 → ∀ b, b < 0 → a ≠ b → (TJ1 a).2.1 ≠ (TJ1 b).2.1 := by decide +kernel
theorem tyJ1_ok : ∀ k, k < 0 → parseFieldDescriptor (TJ1 k).2.2.1 = some (tyJ1 k) := by decide +kernel
abbrev cJ1_charAt_3b067 : ByteArray := prog_17_method_2_code
def yJ1_charAt_3b067 : MethodName := ⟨RJ1, "charAt", "([BI)C"⟩
def RJ2 : String := "java/lang/StringUTF16"
def TJ2 : u_T := fun k => match k with
  | _ => ("", "", "", false)
def tyJ2 : Nat → FieldType := fun k => match k with
  | _ => .int
abbrev wsJ20 : List Cond := u_ws RJ2 TJ2 0
theorem nmJ2 : ∀ a, a < 0 → ∀ b, b < 0 → a ≠ b → (TJ2 a).2.1 ≠ (TJ2 b).2.1 := by decide +kernel
theorem tyJ2_ok : ∀ k, k < 0 → parseFieldDescriptor (TJ2 k).2.2.1 = some (tyJ2 k) := by decide +kernel
abbrev cJ2_getChar_3b067 : ByteArray := prog_18_method_5_code
def yJ2_getChar_3b067 : MethodName := ⟨RJ2, "getChar", "([BI)C"⟩
abbrev cJ2_length_9d52b : ByteArray := prog_18_method_6_code
def yJ2_length_9d52b : MethodName := ⟨RJ2, "length", "([B)I"⟩
abbrev cJ2_charAt_3b067 : ByteArray := prog_18_method_83_code
def yJ2_charAt_3b067 : MethodName := ⟨RJ2, "charAt", "([BI)C"⟩
abbrev cJ2_checkIndex_2214a : ByteArray := prog_18_method_91_code
def yJ2_checkIndex_2214a : MethodName := ⟨RJ2, "checkIndex", "(I[B)V"⟩
def RJ10 : String := "java/lang/System"
def TJ10 : u_T := fun k => match k with
  | _ => ("", "", "", false)
def tyJ10 : Nat → FieldType := fun k => match k with
  | _ => .int
abbrev wsJ100 : List Cond := u_ws RJ10 TJ10 0
theorem nmJ10 : ∀ a, a < 0 → ∀ b, b < 0 → a ≠ b → (TJ10 a).2.1 ≠ (TJ10 b).2.1 := by decide +kernel
theorem tyJ10_ok : ∀ k, k < 0 → parseFieldDescriptor (TJ10 k).2.2.1 = some (tyJ10 k) := by decide +kernel
def RJ3 : String := "jdk/internal/util/Preconditions"
def TJ3 : u_T := fun k => match k with
  | _ => ("", "", "", false)
def tyJ3 : Nat → FieldType := fun k => match k with
  | _ => .int
abbrev wsJ30 : List Cond := u_ws RJ3 TJ3 0
theorem nmJ3 : ∀ a, a < 0 → ∀ b, b < 0 → a ≠ b → (TJ3 a).2.1 ≠ (TJ3 b).2.1 := by decide +kernel
theorem tyJ3_ok : ∀ k, k < 0 → parseFieldDescriptor (TJ3 k).2.2.1 = some (tyJ3 k) := by decide +kernel
abbrev cJ3_checkIndex_8e157 : ByteArray := prog_20_method_11_code
def yJ3_checkIndex_8e157 : MethodName := ⟨RJ3, "checkIndex", "(IILjava/util/function/BiFunction;)I"⟩
def RL : String := "NorthWheelLaw"
abbrev cL_law : ByteArray := code
def yL_law : MethodName := ⟨RL, "law", "([I)Z"⟩
abbrev vwCl : List vw_C := [(RX0, TX0, 4), (RX1, TX1, 4), (RX2, TX2, 2), (RX3, TX3, 1), (RX4, TX4, 8), (RX5, TX5, 4), (RX6, TX6, 2), (RX7, TX7, 9), (RX8, TX8, 4), (RX9, TX9, 4), (RX10, TX10, 9), (RX11, TX11, 10), (RX12, TX12, 37)]
end
section
theorem dX0_init_0 : decode cX0_init 0 = .ok (.aload_n 0, 1) := by decide +kernel
theorem dX0_init_1 : decode cX0_init 1 = .ok (.invokespecial 1, 3) := by decide +kernel
theorem dX0_init_4 : decode cX0_init 4 = .ok (.aload_n 0, 1) := by decide +kernel
theorem dX0_init_5 : decode cX0_init 5 = .ok (.bipush 6, 2) := by decide +kernel
theorem dX0_init_7 : decode cX0_init 7 = .ok (.newarray .int, 2) := by decide +kernel
theorem dX0_init_9 : decode cX0_init 9 = .ok (.putfield 9, 3) := by decide +kernel
theorem dX0_init_12 : decode cX0_init 12 = .ok (.getstatic 15, 3) := by decide +kernel
theorem dX0_init_15 : decode cX0_init 15 = .ok (.iconst 0, 1) := by decide +kernel
theorem dX0_init_16 : decode cX0_init 16 = .ok (.aload_n 0, 1) := by decide +kernel
theorem dX0_init_17 : decode cX0_init 17 = .ok (.getfield 9, 3) := by decide +kernel
theorem dX0_init_20 : decode cX0_init 20 = .ok (.iconst 0, 1) := by decide +kernel
theorem dX0_init_21 : decode cX0_init 21 = .ok (.bipush 6, 2) := by decide +kernel
theorem dX0_init_23 : decode cX0_init 23 = .ok (.invokestatic 18, 3) := by decide +kernel
theorem dX0_init_26 : decode cX0_init 26 = .ok (.return_, 1) := by decide +kernel
theorem dX0_copyFrom_0 : decode cX0_copyFrom 0 = .ok (.aload_n 1, 1) := by decide +kernel
theorem dX0_copyFrom_1 : decode cX0_copyFrom 1 = .ok (.getfield 9, 3) := by decide +kernel
theorem dX0_copyFrom_4 : decode cX0_copyFrom 4 = .ok (.iconst 0, 1) := by decide +kernel
theorem dX0_copyFrom_5 : decode cX0_copyFrom 5 = .ok (.aload_n 0, 1) := by decide +kernel
theorem dX0_copyFrom_6 : decode cX0_copyFrom 6 = .ok (.getfield 9, 3) := by decide +kernel
theorem dX0_copyFrom_9 : decode cX0_copyFrom 9 = .ok (.iconst 0, 1) := by decide +kernel
theorem dX0_copyFrom_10 : decode cX0_copyFrom 10 = .ok (.bipush 6, 2) := by decide +kernel
theorem dX0_copyFrom_12 : decode cX0_copyFrom 12 = .ok (.invokestatic 18, 3) := by decide +kernel
theorem dX0_copyFrom_15 : decode cX0_copyFrom 15 = .ok (.aload_n 0, 1) := by decide +kernel
theorem dX0_copyFrom_16 : decode cX0_copyFrom 16 = .ok (.aload_n 1, 1) := by decide +kernel
theorem dX0_copyFrom_17 : decode cX0_copyFrom 17 = .ok (.getfield 24, 3) := by decide +kernel
theorem dX0_copyFrom_20 : decode cX0_copyFrom 20 = .ok (.putfield 24, 3) := by decide +kernel
theorem dX0_copyFrom_23 : decode cX0_copyFrom 23 = .ok (.aload_n 0, 1) := by decide +kernel
theorem dX0_copyFrom_24 : decode cX0_copyFrom 24 = .ok (.aload_n 1, 1) := by decide +kernel
theorem dX0_copyFrom_25 : decode cX0_copyFrom 25 = .ok (.getfield 28, 3) := by decide +kernel
theorem dX0_copyFrom_28 : decode cX0_copyFrom 28 = .ok (.putfield 28, 3) := by decide +kernel
theorem dX0_copyFrom_31 : decode cX0_copyFrom 31 = .ok (.aload_n 0, 1) := by decide +kernel
theorem dX0_copyFrom_32 : decode cX0_copyFrom 32 = .ok (.aload_n 1, 1) := by decide +kernel
theorem dX0_copyFrom_33 : decode cX0_copyFrom 33 = .ok (.getfield 32, 3) := by decide +kernel
theorem dX0_copyFrom_36 : decode cX0_copyFrom 36 = .ok (.putfield 32, 3) := by decide +kernel
theorem dX0_copyFrom_39 : decode cX0_copyFrom 39 = .ok (.return_, 1) := by decide +kernel
theorem dX0_become_0 : decode cX0_become 0 = .ok (.aload_n 1, 1) := by decide +kernel
theorem dX0_become_1 : decode cX0_become 1 = .ok (.iconst 0, 1) := by decide +kernel
theorem dX0_become_2 : decode cX0_become 2 = .ok (.aload_n 0, 1) := by decide +kernel
theorem dX0_become_3 : decode cX0_become 3 = .ok (.getfield 9, 3) := by decide +kernel
theorem dX0_become_6 : decode cX0_become 6 = .ok (.iconst 0, 1) := by decide +kernel
theorem dX0_become_7 : decode cX0_become 7 = .ok (.bipush 6, 2) := by decide +kernel
theorem dX0_become_9 : decode cX0_become 9 = .ok (.invokestatic 18, 3) := by decide +kernel
theorem dX0_become_12 : decode cX0_become 12 = .ok (.aload_n 0, 1) := by decide +kernel
theorem dX0_become_13 : decode cX0_become 13 = .ok (.iconst 0, 1) := by decide +kernel
theorem dX0_become_14 : decode cX0_become 14 = .ok (.putfield 28, 3) := by decide +kernel
theorem dX0_become_17 : decode cX0_become 17 = .ok (.return_, 1) := by decide +kernel
theorem dX0_steerFor_0 : decode cX0_steerFor 0 = .ok (.aload_n 0, 1) := by decide +kernel
theorem dX0_steerFor_1 : decode cX0_steerFor 1 = .ok (.iload_n 1, 1) := by decide +kernel
theorem dX0_steerFor_2 : decode cX0_steerFor 2 = .ok (.putfield 24, 3) := by decide +kernel
theorem dX0_steerFor_5 : decode cX0_steerFor 5 = .ok (.aload_n 0, 1) := by decide +kernel
theorem dX0_steerFor_6 : decode cX0_steerFor 6 = .ok (.iconst 0, 1) := by decide +kernel
theorem dX0_steerFor_7 : decode cX0_steerFor 7 = .ok (.putfield 28, 3) := by decide +kernel
theorem dX0_steerFor_10 : decode cX0_steerFor 10 = .ok (.return_, 1) := by decide +kernel
theorem dX0_steerShip_0 : decode cX0_steerShip 0 = .ok (.aload_n 0, 1) := by decide +kernel
theorem dX0_steerShip_1 : decode cX0_steerShip 1 = .ok (.getfield 9, 3) := by decide +kernel
theorem dX0_steerShip_4 : decode cX0_steerShip 4 = .ok (.iconst 4, 1) := by decide +kernel
theorem dX0_steerShip_5 : decode cX0_steerShip 5 = .ok (.iaload, 1) := by decide +kernel
theorem dX0_steerShip_6 : decode cX0_steerShip 6 = .ok (.istore_n 2, 1) := by decide +kernel
theorem dX0_steerShip_7 : decode cX0_steerShip 7 = .ok (.aload_n 1, 1) := by decide +kernel
theorem dX0_steerShip_8 : decode cX0_steerShip 8 = .ok (.aload_n 0, 1) := by decide +kernel
theorem dX0_steerShip_9 : decode cX0_steerShip 9 = .ok (.getfield 9, 3) := by decide +kernel
theorem dX0_steerShip_12 : decode cX0_steerShip 12 = .ok (.iconst 5, 1) := by decide +kernel
theorem dX0_steerShip_13 : decode cX0_steerShip 13 = .ok (.iaload, 1) := by decide +kernel
theorem dX0_steerShip_14 : decode cX0_steerShip 14 = .ok (.invokevirtual 35, 3) := by decide +kernel
theorem dX0_steerShip_17 : decode cX0_steerShip 17 = .ok (.astore_n 3, 1) := by decide +kernel
theorem dX0_steerShip_18 : decode cX0_steerShip 18 = .ok (.iload_n 2, 1) := by decide +kernel
theorem dX0_steerShip_19 : decode cX0_steerShip 19 = .ok (.iconst 1, 1) := by decide +kernel
theorem dX0_steerShip_20 : decode cX0_steerShip 20 = .ok (.if_icmp .lt 16, 3) := by decide +kernel
theorem dX0_steerShip_23 : decode cX0_steerShip 23 = .ok (.aload_n 1, 1) := by decide +kernel
theorem dX0_steerShip_24 : decode cX0_steerShip 24 = .ok (.getfield 41, 3) := by decide +kernel
theorem dX0_steerShip_27 : decode cX0_steerShip 27 = .ok (.iload_n 2, 1) := by decide +kernel
theorem dX0_steerShip_28 : decode cX0_steerShip 28 = .ok (.irem, 1) := by decide +kernel
theorem dX0_steerShip_29 : decode cX0_steerShip 29 = .ok (.ifCond .ne 7, 3) := by decide +kernel
theorem dX0_steerShip_32 : decode cX0_steerShip 32 = .ok (.aload_n 3, 1) := by decide +kernel
theorem dX0_steerShip_33 : decode cX0_steerShip 33 = .ok (.ifnonnull 4, 3) := by decide +kernel
theorem dX0_steerShip_36 : decode cX0_steerShip 36 = .ok (.return_, 1) := by decide +kernel
theorem dX0_steerShip_37 : decode cX0_steerShip 37 = .ok (.aload_n 3, 1) := by decide +kernel
theorem dX0_steerShip_38 : decode cX0_steerShip 38 = .ok (.aload_n 1, 1) := by decide +kernel
theorem dX0_steerShip_39 : decode cX0_steerShip 39 = .ok (.getfield 44, 3) := by decide +kernel
theorem dX0_steerShip_42 : decode cX0_steerShip 42 = .ok (.aload_n 1, 1) := by decide +kernel
theorem dX0_steerShip_43 : decode cX0_steerShip 43 = .ok (.getfield 47, 3) := by decide +kernel
theorem dX0_steerShip_46 : decode cX0_steerShip 46 = .ok (.invokevirtual 51, 3) := by decide +kernel
theorem dX0_steerShip_49 : decode cX0_steerShip 49 = .ok (.istore 4, 2) := by decide +kernel
theorem dX0_steerShip_51 : decode cX0_steerShip 51 = .ok (.aload_n 0, 1) := by decide +kernel
theorem dX0_steerShip_52 : decode cX0_steerShip 52 = .ok (.getfield 24, 3) := by decide +kernel
theorem dX0_steerShip_55 : decode cX0_steerShip 55 = .ok (.iload 4, 2) := by decide +kernel
theorem dX0_steerShip_57 : decode cX0_steerShip 57 = .ok (.isub, 1) := by decide +kernel
theorem dX0_steerShip_58 : decode cX0_steerShip 58 = .ok (.invokestatic 57, 3) := by decide +kernel
theorem dX0_steerShip_61 : decode cX0_steerShip 61 = .ok (.istore 5, 2) := by decide +kernel
theorem dX0_steerShip_63 : decode cX0_steerShip 63 = .ok (.aload_n 0, 1) := by decide +kernel
theorem dX0_steerShip_64 : decode cX0_steerShip 64 = .ok (.getfield 28, 3) := by decide +kernel
theorem dX0_steerShip_67 : decode cX0_steerShip 67 = .ok (.ifCond .eq 16, 3) := by decide +kernel
theorem dX0_steerShip_70 : decode cX0_steerShip 70 = .ok (.iload 4, 2) := by decide +kernel
theorem dX0_steerShip_72 : decode cX0_steerShip 72 = .ok (.aload_n 0, 1) := by decide +kernel
theorem dX0_steerShip_73 : decode cX0_steerShip 73 = .ok (.getfield 32, 3) := by decide +kernel
theorem dX0_steerShip_76 : decode cX0_steerShip 76 = .ok (.isub, 1) := by decide +kernel
theorem dX0_steerShip_77 : decode cX0_steerShip 77 = .ok (.invokestatic 57, 3) := by decide +kernel
theorem dX0_steerShip_80 : decode cX0_steerShip 80 = .ok (.goto 4, 3) := by decide +kernel
theorem dX0_steerShip_83 : decode cX0_steerShip 83 = .ok (.iconst 0, 1) := by decide +kernel
theorem dX0_steerShip_84 : decode cX0_steerShip 84 = .ok (.istore 6, 2) := by decide +kernel
theorem dX0_steerShip_86 : decode cX0_steerShip 86 = .ok (.aload_n 0, 1) := by decide +kernel
theorem dX0_steerShip_87 : decode cX0_steerShip 87 = .ok (.iconst 1, 1) := by decide +kernel
theorem dX0_steerShip_88 : decode cX0_steerShip 88 = .ok (.putfield 28, 3) := by decide +kernel
theorem dX0_steerShip_91 : decode cX0_steerShip 91 = .ok (.aload_n 0, 1) := by decide +kernel
theorem dX0_steerShip_92 : decode cX0_steerShip 92 = .ok (.iload 4, 2) := by decide +kernel
theorem dX0_steerShip_94 : decode cX0_steerShip 94 = .ok (.putfield 32, 3) := by decide +kernel
theorem dX0_steerShip_97 : decode cX0_steerShip 97 = .ok (.aload_n 1, 1) := by decide +kernel
theorem dX0_steerShip_98 : decode cX0_steerShip 98 = .ok (.iload 5, 2) := by decide +kernel
theorem dX0_steerShip_100 : decode cX0_steerShip 100 = .ok (.invokestatic 63, 3) := by decide +kernel
theorem dX0_steerShip_103 : decode cX0_steerShip 103 = .ok (.bipush 10, 2) := by decide +kernel
theorem dX0_steerShip_105 : decode cX0_steerShip 105 = .ok (.aload_n 0, 1) := by decide +kernel
theorem dX0_steerShip_106 : decode cX0_steerShip 106 = .ok (.getfield 9, 3) := by decide +kernel
theorem dX0_steerShip_109 : decode cX0_steerShip 109 = .ok (.iconst 0, 1) := by decide +kernel
theorem dX0_steerShip_110 : decode cX0_steerShip 110 = .ok (.iaload, 1) := by decide +kernel
theorem dX0_steerShip_111 : decode cX0_steerShip 111 = .ok (.imul, 1) := by decide +kernel
theorem dX0_steerShip_112 : decode cX0_steerShip 112 = .ok (.if_icmp .gt 7, 3) := by decide +kernel
theorem dX0_steerShip_115 : decode cX0_steerShip 115 = .ok (.iconst 0, 1) := by decide +kernel
theorem dX0_steerShip_116 : decode cX0_steerShip 116 = .ok (.goto 11, 3) := by decide +kernel
theorem dX0_steerShip_119 : decode cX0_steerShip 119 = .ok (.aload_n 0, 1) := by decide +kernel
theorem dX0_steerShip_120 : decode cX0_steerShip 120 = .ok (.iload 5, 2) := by decide +kernel
theorem dX0_steerShip_122 : decode cX0_steerShip 122 = .ok (.iload 6, 2) := by decide +kernel
theorem dX0_steerShip_124 : decode cX0_steerShip 124 = .ok (.invokevirtual 68, 3) := by decide +kernel
theorem dX0_steerShip_127 : decode cX0_steerShip 127 = .ok (.putfield 72, 3) := by decide +kernel
theorem dX0_steerShip_130 : decode cX0_steerShip 130 = .ok (.return_, 1) := by decide +kernel
theorem dX0_answerTo_0 : decode cX0_answerTo 0 = .ok (.iload_n 1, 1) := by decide +kernel
theorem dX0_answerTo_1 : decode cX0_answerTo 1 = .ok (.aload_n 0, 1) := by decide +kernel
theorem dX0_answerTo_2 : decode cX0_answerTo 2 = .ok (.getfield 9, 3) := by decide +kernel
theorem dX0_answerTo_5 : decode cX0_answerTo 5 = .ok (.iconst 1, 1) := by decide +kernel
theorem dX0_answerTo_6 : decode cX0_answerTo 6 = .ok (.iaload, 1) := by decide +kernel
theorem dX0_answerTo_7 : decode cX0_answerTo 7 = .ok (.imul, 1) := by decide +kernel
theorem dX0_answerTo_8 : decode cX0_answerTo 8 = .ok (.sipush 10000, 3) := by decide +kernel
theorem dX0_answerTo_11 : decode cX0_answerTo 11 = .ok (.idiv, 1) := by decide +kernel
theorem dX0_answerTo_12 : decode cX0_answerTo 12 = .ok (.iload_n 2, 1) := by decide +kernel
theorem dX0_answerTo_13 : decode cX0_answerTo 13 = .ok (.aload_n 0, 1) := by decide +kernel
theorem dX0_answerTo_14 : decode cX0_answerTo 14 = .ok (.getfield 9, 3) := by decide +kernel
theorem dX0_answerTo_17 : decode cX0_answerTo 17 = .ok (.iconst 2, 1) := by decide +kernel
theorem dX0_answerTo_18 : decode cX0_answerTo 18 = .ok (.iaload, 1) := by decide +kernel
theorem dX0_answerTo_19 : decode cX0_answerTo 19 = .ok (.imul, 1) := by decide +kernel
theorem dX0_answerTo_20 : decode cX0_answerTo 20 = .ok (.sipush 10000, 3) := by decide +kernel
theorem dX0_answerTo_23 : decode cX0_answerTo 23 = .ok (.idiv, 1) := by decide +kernel
theorem dX0_answerTo_24 : decode cX0_answerTo 24 = .ok (.isub, 1) := by decide +kernel
theorem dX0_answerTo_25 : decode cX0_answerTo 25 = .ok (.aload_n 0, 1) := by decide +kernel
theorem dX0_answerTo_26 : decode cX0_answerTo 26 = .ok (.getfield 9, 3) := by decide +kernel
theorem dX0_answerTo_29 : decode cX0_answerTo 29 = .ok (.iconst 3, 1) := by decide +kernel
theorem dX0_answerTo_30 : decode cX0_answerTo 30 = .ok (.iaload, 1) := by decide +kernel
theorem dX0_answerTo_31 : decode cX0_answerTo 31 = .ok (.invokestatic 75, 3) := by decide +kernel
theorem dX0_answerTo_34 : decode cX0_answerTo 34 = .ok (.ireturn, 1) := by decide +kernel
theorem dX1_init_0 : decode cX1_init 0 = .ok (.aload_n 0, 1) := by decide +kernel
theorem dX1_init_1 : decode cX1_init 1 = .ok (.invokespecial 1, 3) := by decide +kernel
theorem dX1_init_4 : decode cX1_init 4 = .ok (.aload_n 0, 1) := by decide +kernel
theorem dX1_init_5 : decode cX1_init 5 = .ok (.aload_n 1, 1) := by decide +kernel
theorem dX1_init_6 : decode cX1_init 6 = .ok (.putfield 7, 3) := by decide +kernel
theorem dX1_init_9 : decode cX1_init 9 = .ok (.aload_n 0, 1) := by decide +kernel
theorem dX1_init_10 : decode cX1_init 10 = .ok (.aload_n 2, 1) := by decide +kernel
theorem dX1_init_11 : decode cX1_init 11 = .ok (.putfield 13, 3) := by decide +kernel
theorem dX1_init_14 : decode cX1_init 14 = .ok (.return_, 1) := by decide +kernel
theorem dX1_keep_0 : decode cX1_keep 0 = .ok (.aload_n 0, 1) := by decide +kernel
theorem dX1_keep_1 : decode cX1_keep 1 = .ok (.getfield 7, 3) := by decide +kernel
theorem dX1_keep_4 : decode cX1_keep 4 = .ok (.aload_n 1, 1) := by decide +kernel
theorem dX1_keep_5 : decode cX1_keep 5 = .ok (.invokevirtual 17, 3) := by decide +kernel
theorem dX1_keep_8 : decode cX1_keep 8 = .ok (.aload_n 0, 1) := by decide +kernel
theorem dX1_keep_9 : decode cX1_keep 9 = .ok (.getfield 13, 3) := by decide +kernel
theorem dX1_keep_12 : decode cX1_keep 12 = .ok (.aload_n 2, 1) := by decide +kernel
theorem dX1_keep_13 : decode cX1_keep 13 = .ok (.invokevirtual 23, 3) := by decide +kernel
theorem dX1_keep_16 : decode cX1_keep 16 = .ok (.aload_n 0, 1) := by decide +kernel
theorem dX1_keep_17 : decode cX1_keep 17 = .ok (.getfield 7, 3) := by decide +kernel
theorem dX1_keep_20 : decode cX1_keep 20 = .ok (.aload_n 0, 1) := by decide +kernel
theorem dX1_keep_21 : decode cX1_keep 21 = .ok (.getfield 13, 3) := by decide +kernel
theorem dX1_keep_24 : decode cX1_keep 24 = .ok (.getfield 28, 3) := by decide +kernel
theorem dX1_keep_27 : decode cX1_keep 27 = .ok (.iconst 5, 1) := by decide +kernel
theorem dX1_keep_28 : decode cX1_keep 28 = .ok (.iaload, 1) := by decide +kernel
theorem dX1_keep_29 : decode cX1_keep 29 = .ok (.invokevirtual 32, 3) := by decide +kernel
theorem dX1_keep_32 : decode cX1_keep 32 = .ok (.aload_n 0, 1) := by decide +kernel
theorem dX1_keep_33 : decode cX1_keep 33 = .ok (.getfield 13, 3) := by decide +kernel
theorem dX1_keep_36 : decode cX1_keep 36 = .ok (.getfield 28, 3) := by decide +kernel
theorem dX1_keep_39 : decode cX1_keep 39 = .ok (.iconst 0, 1) := by decide +kernel
theorem dX1_keep_40 : decode cX1_keep 40 = .ok (.iload 4, 2) := by decide +kernel
theorem dX1_keep_42 : decode cX1_keep 42 = .ok (.iastore, 1) := by decide +kernel
theorem dX1_keep_43 : decode cX1_keep 43 = .ok (.aload_n 0, 1) := by decide +kernel
theorem dX1_keep_44 : decode cX1_keep 44 = .ok (.iconst 0, 1) := by decide +kernel
theorem dX1_keep_45 : decode cX1_keep 45 = .ok (.putfield 36, 3) := by decide +kernel
theorem dX1_keep_48 : decode cX1_keep 48 = .ok (.aload_n 0, 1) := by decide +kernel
theorem dX1_keep_49 : decode cX1_keep 49 = .ok (.iconst 0, 1) := by decide +kernel
theorem dX1_keep_50 : decode cX1_keep 50 = .ok (.putfield 40, 3) := by decide +kernel
theorem dX1_keep_53 : decode cX1_keep 53 = .ok (.iconst 1, 1) := by decide +kernel
theorem dX1_keep_54 : decode cX1_keep 54 = .ok (.istore 5, 2) := by decide +kernel
theorem dX1_keep_56 : decode cX1_keep 56 = .ok (.iload 5, 2) := by decide +kernel
theorem dX1_keep_58 : decode cX1_keep 58 = .ok (.iload_n 3, 1) := by decide +kernel
theorem dX1_keep_59 : decode cX1_keep 59 = .ok (.if_icmp .gt 82, 3) := by decide +kernel
theorem dX1_keep_62 : decode cX1_keep 62 = .ok (.aload_n 0, 1) := by decide +kernel
theorem dX1_keep_63 : decode cX1_keep 63 = .ok (.getfield 13, 3) := by decide +kernel
theorem dX1_keep_66 : decode cX1_keep 66 = .ok (.aload_n 0, 1) := by decide +kernel
theorem dX1_keep_67 : decode cX1_keep 67 = .ok (.getfield 7, 3) := by decide +kernel
theorem dX1_keep_70 : decode cX1_keep 70 = .ok (.invokevirtual 43, 3) := by decide +kernel
theorem dX1_keep_73 : decode cX1_keep 73 = .ok (.aload_n 0, 1) := by decide +kernel
theorem dX1_keep_74 : decode cX1_keep 74 = .ok (.getfield 7, 3) := by decide +kernel
theorem dX1_keep_77 : decode cX1_keep 77 = .ok (.invokevirtual 46, 3) := by decide +kernel
theorem dX1_keep_80 : decode cX1_keep 80 = .ok (.aload_n 0, 1) := by decide +kernel
theorem dX1_keep_81 : decode cX1_keep 81 = .ok (.dup, 1) := by decide +kernel
theorem dX1_keep_82 : decode cX1_keep 82 = .ok (.getfield 40, 3) := by decide +kernel
theorem dX1_keep_85 : decode cX1_keep 85 = .ok (.aload_n 0, 1) := by decide +kernel
theorem dX1_keep_86 : decode cX1_keep 86 = .ok (.getfield 7, 3) := by decide +kernel
theorem dX1_keep_89 : decode cX1_keep 89 = .ok (.getfield 49, 3) := by decide +kernel
theorem dX1_keep_92 : decode cX1_keep 92 = .ok (.invokestatic 52, 3) := by decide +kernel
theorem dX1_keep_95 : decode cX1_keep 95 = .ok (.iadd, 1) := by decide +kernel
theorem dX1_keep_96 : decode cX1_keep 96 = .ok (.putfield 40, 3) := by decide +kernel
theorem dX1_keep_99 : decode cX1_keep 99 = .ok (.iload 5, 2) := by decide +kernel
theorem dX1_keep_101 : decode cX1_keep 101 = .ok (.iload_n 3, 1) := by decide +kernel
theorem dX1_keep_102 : decode cX1_keep 102 = .ok (.iconst 2, 1) := by decide +kernel
theorem dX1_keep_103 : decode cX1_keep 103 = .ok (.idiv, 1) := by decide +kernel
theorem dX1_keep_104 : decode cX1_keep 104 = .ok (.if_icmp .le 31, 3) := by decide +kernel
theorem dX1_keep_107 : decode cX1_keep 107 = .ok (.aload_n 0, 1) := by decide +kernel
theorem dX1_keep_108 : decode cX1_keep 108 = .ok (.aload_n 0, 1) := by decide +kernel
theorem dX1_keep_109 : decode cX1_keep 109 = .ok (.getfield 36, 3) := by decide +kernel
theorem dX1_keep_112 : decode cX1_keep 112 = .ok (.aload_n 0, 1) := by decide +kernel
theorem dX1_keep_113 : decode cX1_keep 113 = .ok (.getfield 13, 3) := by decide +kernel
theorem dX1_keep_116 : decode cX1_keep 116 = .ok (.getfield 58, 3) := by decide +kernel
theorem dX1_keep_119 : decode cX1_keep 119 = .ok (.aload_n 0, 1) := by decide +kernel
theorem dX1_keep_120 : decode cX1_keep 120 = .ok (.getfield 7, 3) := by decide +kernel
theorem dX1_keep_123 : decode cX1_keep 123 = .ok (.getfield 61, 3) := by decide +kernel
theorem dX1_keep_126 : decode cX1_keep 126 = .ok (.invokestatic 64, 3) := by decide +kernel
theorem dX1_keep_129 : decode cX1_keep 129 = .ok (.invokestatic 70, 3) := by decide +kernel
theorem dX1_keep_132 : decode cX1_keep 132 = .ok (.putfield 36, 3) := by decide +kernel
theorem dX1_keep_135 : decode cX1_keep 135 = .ok (.iinc 5 1, 3) := by decide +kernel
theorem dX1_keep_138 : decode cX1_keep 138 = .ok (.goto (-82), 3) := by decide +kernel
theorem dX1_keep_141 : decode cX1_keep 141 = .ok (.return_, 1) := by decide +kernel
theorem dX2_init_0 : decode cX2_init 0 = .ok (.aload_n 0, 1) := by decide +kernel
theorem dX2_init_1 : decode cX2_init 1 = .ok (.invokespecial 3, 3) := by decide +kernel
theorem dX2_init_4 : decode cX2_init 4 = .ok (.aload_n 0, 1) := by decide +kernel
theorem dX2_init_5 : decode cX2_init 5 = .ok (.bipush 48, 2) := by decide +kernel
theorem dX2_init_7 : decode cX2_init 7 = .ok (.newarray .int, 2) := by decide +kernel
theorem dX2_init_9 : decode cX2_init 9 = .ok (.putfield 11, 3) := by decide +kernel
theorem dX2_init_12 : decode cX2_init 12 = .ok (.return_, 1) := by decide +kernel
theorem dX2_add_0 : decode cX2_add 0 = .ok (.aload_n 0, 1) := by decide +kernel
theorem dX2_add_1 : decode cX2_add 1 = .ok (.getfield 15, 3) := by decide +kernel
theorem dX2_add_4 : decode cX2_add 4 = .ok (.bipush 16, 2) := by decide +kernel
theorem dX2_add_6 : decode cX2_add 6 = .ok (.if_icmp .lt 6, 3) := by decide +kernel
theorem dX2_add_9 : decode cX2_add 9 = .ok (.bipush (-5), 2) := by decide +kernel
theorem dX2_add_11 : decode cX2_add 11 = .ok (.ireturn, 1) := by decide +kernel
theorem dX2_add_12 : decode cX2_add 12 = .ok (.aload_n 0, 1) := by decide +kernel
theorem dX2_add_13 : decode cX2_add 13 = .ok (.getfield 15, 3) := by decide +kernel
theorem dX2_add_16 : decode cX2_add 16 = .ok (.iconst 3, 1) := by decide +kernel
theorem dX2_add_17 : decode cX2_add 17 = .ok (.imul, 1) := by decide +kernel
theorem dX2_add_18 : decode cX2_add 18 = .ok (.istore 4, 2) := by decide +kernel
theorem dX2_add_20 : decode cX2_add 20 = .ok (.aload_n 0, 1) := by decide +kernel
theorem dX2_add_21 : decode cX2_add 21 = .ok (.getfield 11, 3) := by decide +kernel
theorem dX2_add_24 : decode cX2_add 24 = .ok (.iload 4, 2) := by decide +kernel
theorem dX2_add_26 : decode cX2_add 26 = .ok (.iload_n 1, 1) := by decide +kernel
theorem dX2_add_27 : decode cX2_add 27 = .ok (.iastore, 1) := by decide +kernel
theorem dX2_add_28 : decode cX2_add 28 = .ok (.aload_n 0, 1) := by decide +kernel
theorem dX2_add_29 : decode cX2_add 29 = .ok (.getfield 11, 3) := by decide +kernel
theorem dX2_add_32 : decode cX2_add 32 = .ok (.iload 4, 2) := by decide +kernel
theorem dX2_add_34 : decode cX2_add 34 = .ok (.iconst 1, 1) := by decide +kernel
theorem dX2_add_35 : decode cX2_add 35 = .ok (.iadd, 1) := by decide +kernel
theorem dX2_add_36 : decode cX2_add 36 = .ok (.iload_n 2, 1) := by decide +kernel
theorem dX2_add_37 : decode cX2_add 37 = .ok (.iastore, 1) := by decide +kernel
theorem dX2_add_38 : decode cX2_add 38 = .ok (.aload_n 0, 1) := by decide +kernel
theorem dX2_add_39 : decode cX2_add 39 = .ok (.getfield 11, 3) := by decide +kernel
theorem dX2_add_42 : decode cX2_add 42 = .ok (.iload 4, 2) := by decide +kernel
theorem dX2_add_44 : decode cX2_add 44 = .ok (.iconst 2, 1) := by decide +kernel
theorem dX2_add_45 : decode cX2_add 45 = .ok (.iadd, 1) := by decide +kernel
theorem dX2_add_46 : decode cX2_add 46 = .ok (.iload_n 3, 1) := by decide +kernel
theorem dX2_add_47 : decode cX2_add 47 = .ok (.iastore, 1) := by decide +kernel
theorem dX2_add_48 : decode cX2_add 48 = .ok (.aload_n 0, 1) := by decide +kernel
theorem dX2_add_49 : decode cX2_add 49 = .ok (.dup, 1) := by decide +kernel
theorem dX2_add_50 : decode cX2_add 50 = .ok (.getfield 15, 3) := by decide +kernel
theorem dX2_add_53 : decode cX2_add 53 = .ok (.iconst 1, 1) := by decide +kernel
theorem dX2_add_54 : decode cX2_add 54 = .ok (.iadd, 1) := by decide +kernel
theorem dX2_add_55 : decode cX2_add 55 = .ok (.putfield 15, 3) := by decide +kernel
theorem dX2_add_58 : decode cX2_add 58 = .ok (.aload_n 0, 1) := by decide +kernel
theorem dX2_add_59 : decode cX2_add 59 = .ok (.getfield 15, 3) := by decide +kernel
theorem dX2_add_62 : decode cX2_add 62 = .ok (.ireturn, 1) := by decide +kernel
theorem dX2_wrongInEach_0 : decode cX2_wrongInEach 0 = .ok (.aload_n 0, 1) := by decide +kernel
theorem dX2_wrongInEach_1 : decode cX2_wrongInEach 1 = .ok (.getfield 15, 3) := by decide +kernel
theorem dX2_wrongInEach_4 : decode cX2_wrongInEach 4 = .ok (.ifCond .ne 7, 3) := by decide +kernel
theorem dX2_wrongInEach_7 : decode cX2_wrongInEach 7 = .ok (.iconst 0, 1) := by decide +kernel
theorem dX2_wrongInEach_8 : decode cX2_wrongInEach 8 = .ok (.goto 5, 3) := by decide +kernel
theorem dX2_wrongInEach_11 : decode cX2_wrongInEach 11 = .ok (.bipush 7, 2) := by decide +kernel
theorem dX2_wrongInEach_13 : decode cX2_wrongInEach 13 = .ok (.istore_n 2, 1) := by decide +kernel
theorem dX2_wrongInEach_14 : decode cX2_wrongInEach 14 = .ok (.iconst 0, 1) := by decide +kernel
theorem dX2_wrongInEach_15 : decode cX2_wrongInEach 15 = .ok (.istore_n 3, 1) := by decide +kernel
theorem dX2_wrongInEach_16 : decode cX2_wrongInEach 16 = .ok (.iload_n 3, 1) := by decide +kernel
theorem dX2_wrongInEach_17 : decode cX2_wrongInEach 17 = .ok (.aload_n 0, 1) := by decide +kernel
theorem dX2_wrongInEach_18 : decode cX2_wrongInEach 18 = .ok (.getfield 15, 3) := by decide +kernel
theorem dX2_wrongInEach_21 : decode cX2_wrongInEach 21 = .ok (.if_icmp .ge 18, 3) := by decide +kernel
theorem dX2_wrongInEach_24 : decode cX2_wrongInEach 24 = .ok (.iload_n 2, 1) := by decide +kernel
theorem dX2_wrongInEach_25 : decode cX2_wrongInEach 25 = .ok (.aload_n 0, 1) := by decide +kernel
theorem dX2_wrongInEach_26 : decode cX2_wrongInEach 26 = .ok (.iload_n 3, 1) := by decide +kernel
theorem dX2_wrongInEach_27 : decode cX2_wrongInEach 27 = .ok (.iload_n 1, 1) := by decide +kernel
theorem dX2_wrongInEach_28 : decode cX2_wrongInEach 28 = .ok (.invokevirtual 19, 3) := by decide +kernel
theorem dX2_wrongInEach_31 : decode cX2_wrongInEach 31 = .ok (.iand, 1) := by decide +kernel
theorem dX2_wrongInEach_32 : decode cX2_wrongInEach 32 = .ok (.istore_n 2, 1) := by decide +kernel
theorem dX2_wrongInEach_33 : decode cX2_wrongInEach 33 = .ok (.iinc 3 1, 3) := by decide +kernel
theorem dX2_wrongInEach_36 : decode cX2_wrongInEach 36 = .ok (.goto (-20), 3) := by decide +kernel
theorem dX2_wrongInEach_39 : decode cX2_wrongInEach 39 = .ok (.iload_n 2, 1) := by decide +kernel
theorem dX2_wrongInEach_40 : decode cX2_wrongInEach 40 = .ok (.ireturn, 1) := by decide +kernel
theorem dX2_wrongInSome_0 : decode cX2_wrongInSome 0 = .ok (.iconst 0, 1) := by decide +kernel
theorem dX2_wrongInSome_1 : decode cX2_wrongInSome 1 = .ok (.istore_n 2, 1) := by decide +kernel
theorem dX2_wrongInSome_2 : decode cX2_wrongInSome 2 = .ok (.iconst 0, 1) := by decide +kernel
theorem dX2_wrongInSome_3 : decode cX2_wrongInSome 3 = .ok (.istore_n 3, 1) := by decide +kernel
theorem dX2_wrongInSome_4 : decode cX2_wrongInSome 4 = .ok (.iload_n 3, 1) := by decide +kernel
theorem dX2_wrongInSome_5 : decode cX2_wrongInSome 5 = .ok (.aload_n 0, 1) := by decide +kernel
theorem dX2_wrongInSome_6 : decode cX2_wrongInSome 6 = .ok (.getfield 15, 3) := by decide +kernel
theorem dX2_wrongInSome_9 : decode cX2_wrongInSome 9 = .ok (.if_icmp .ge 18, 3) := by decide +kernel
theorem dX2_wrongInSome_12 : decode cX2_wrongInSome 12 = .ok (.iload_n 2, 1) := by decide +kernel
theorem dX2_wrongInSome_13 : decode cX2_wrongInSome 13 = .ok (.aload_n 0, 1) := by decide +kernel
theorem dX2_wrongInSome_14 : decode cX2_wrongInSome 14 = .ok (.iload_n 3, 1) := by decide +kernel
theorem dX2_wrongInSome_15 : decode cX2_wrongInSome 15 = .ok (.iload_n 1, 1) := by decide +kernel
theorem dX2_wrongInSome_16 : decode cX2_wrongInSome 16 = .ok (.invokevirtual 19, 3) := by decide +kernel
theorem dX2_wrongInSome_19 : decode cX2_wrongInSome 19 = .ok (.ior, 1) := by decide +kernel
theorem dX2_wrongInSome_20 : decode cX2_wrongInSome 20 = .ok (.istore_n 2, 1) := by decide +kernel
theorem dX2_wrongInSome_21 : decode cX2_wrongInSome 21 = .ok (.iinc 3 1, 3) := by decide +kernel
theorem dX2_wrongInSome_24 : decode cX2_wrongInSome 24 = .ok (.goto (-20), 3) := by decide +kernel
theorem dX2_wrongInSome_27 : decode cX2_wrongInSome 27 = .ok (.iload_n 2, 1) := by decide +kernel
theorem dX2_wrongInSome_28 : decode cX2_wrongInSome 28 = .ok (.ireturn, 1) := by decide +kernel
theorem dX2_wrongIn_0 : decode cX2_wrongIn 0 = .ok (.iload_n 1, 1) := by decide +kernel
theorem dX2_wrongIn_1 : decode cX2_wrongIn 1 = .ok (.iconst 3, 1) := by decide +kernel
theorem dX2_wrongIn_2 : decode cX2_wrongIn 2 = .ok (.imul, 1) := by decide +kernel
theorem dX2_wrongIn_3 : decode cX2_wrongIn 3 = .ok (.istore_n 3, 1) := by decide +kernel
theorem dX2_wrongIn_4 : decode cX2_wrongIn 4 = .ok (.aload_n 0, 1) := by decide +kernel
theorem dX2_wrongIn_5 : decode cX2_wrongIn 5 = .ok (.getfield 11, 3) := by decide +kernel
theorem dX2_wrongIn_8 : decode cX2_wrongIn 8 = .ok (.iload_n 3, 1) := by decide +kernel
theorem dX2_wrongIn_9 : decode cX2_wrongIn 9 = .ok (.iaload, 1) := by decide +kernel
theorem dX2_wrongIn_10 : decode cX2_wrongIn 10 = .ok (.aload_n 0, 1) := by decide +kernel
theorem dX2_wrongIn_11 : decode cX2_wrongIn 11 = .ok (.getfield 11, 3) := by decide +kernel
theorem dX2_wrongIn_14 : decode cX2_wrongIn 14 = .ok (.iload_n 3, 1) := by decide +kernel
theorem dX2_wrongIn_15 : decode cX2_wrongIn 15 = .ok (.iconst 1, 1) := by decide +kernel
theorem dX2_wrongIn_16 : decode cX2_wrongIn 16 = .ok (.iadd, 1) := by decide +kernel
theorem dX2_wrongIn_17 : decode cX2_wrongIn 17 = .ok (.iaload, 1) := by decide +kernel
theorem dX2_wrongIn_18 : decode cX2_wrongIn 18 = .ok (.invokestatic 23, 3) := by decide +kernel
theorem dX2_wrongIn_21 : decode cX2_wrongIn 21 = .ok (.iload_n 2, 1) := by decide +kernel
theorem dX2_wrongIn_22 : decode cX2_wrongIn 22 = .ok (.if_icmp .le 7, 3) := by decide +kernel
theorem dX2_wrongIn_25 : decode cX2_wrongIn 25 = .ok (.iconst 1, 1) := by decide +kernel
theorem dX2_wrongIn_26 : decode cX2_wrongIn 26 = .ok (.goto 4, 3) := by decide +kernel
theorem dX2_wrongIn_29 : decode cX2_wrongIn 29 = .ok (.iconst 0, 1) := by decide +kernel
theorem dX2_wrongIn_30 : decode cX2_wrongIn 30 = .ok (.istore 4, 2) := by decide +kernel
theorem dX2_wrongIn_32 : decode cX2_wrongIn 32 = .ok (.aload_n 0, 1) := by decide +kernel
theorem dX2_wrongIn_33 : decode cX2_wrongIn 33 = .ok (.getfield 11, 3) := by decide +kernel
theorem dX2_wrongIn_36 : decode cX2_wrongIn 36 = .ok (.iload_n 3, 1) := by decide +kernel
theorem dX2_wrongIn_37 : decode cX2_wrongIn 37 = .ok (.iconst 1, 1) := by decide +kernel
theorem dX2_wrongIn_38 : decode cX2_wrongIn 38 = .ok (.iadd, 1) := by decide +kernel
theorem dX2_wrongIn_39 : decode cX2_wrongIn 39 = .ok (.iaload, 1) := by decide +kernel
theorem dX2_wrongIn_40 : decode cX2_wrongIn 40 = .ok (.aload_n 0, 1) := by decide +kernel
theorem dX2_wrongIn_41 : decode cX2_wrongIn 41 = .ok (.getfield 11, 3) := by decide +kernel
theorem dX2_wrongIn_44 : decode cX2_wrongIn 44 = .ok (.iload_n 3, 1) := by decide +kernel
theorem dX2_wrongIn_45 : decode cX2_wrongIn 45 = .ok (.iconst 2, 1) := by decide +kernel
theorem dX2_wrongIn_46 : decode cX2_wrongIn 46 = .ok (.iadd, 1) := by decide +kernel
theorem dX2_wrongIn_47 : decode cX2_wrongIn 47 = .ok (.iaload, 1) := by decide +kernel
theorem dX2_wrongIn_48 : decode cX2_wrongIn 48 = .ok (.invokestatic 23, 3) := by decide +kernel
theorem dX2_wrongIn_51 : decode cX2_wrongIn 51 = .ok (.iload_n 2, 1) := by decide +kernel
theorem dX2_wrongIn_52 : decode cX2_wrongIn 52 = .ok (.if_icmp .le 7, 3) := by decide +kernel
theorem dX2_wrongIn_55 : decode cX2_wrongIn 55 = .ok (.iconst 1, 1) := by decide +kernel
theorem dX2_wrongIn_56 : decode cX2_wrongIn 56 = .ok (.goto 4, 3) := by decide +kernel
theorem dX2_wrongIn_59 : decode cX2_wrongIn 59 = .ok (.iconst 0, 1) := by decide +kernel
theorem dX2_wrongIn_60 : decode cX2_wrongIn 60 = .ok (.istore 5, 2) := by decide +kernel
theorem dX2_wrongIn_62 : decode cX2_wrongIn 62 = .ok (.aload_n 0, 1) := by decide +kernel
theorem dX2_wrongIn_63 : decode cX2_wrongIn 63 = .ok (.getfield 11, 3) := by decide +kernel
theorem dX2_wrongIn_66 : decode cX2_wrongIn 66 = .ok (.iload_n 3, 1) := by decide +kernel
theorem dX2_wrongIn_67 : decode cX2_wrongIn 67 = .ok (.iconst 2, 1) := by decide +kernel
theorem dX2_wrongIn_68 : decode cX2_wrongIn 68 = .ok (.iadd, 1) := by decide +kernel
theorem dX2_wrongIn_69 : decode cX2_wrongIn 69 = .ok (.iaload, 1) := by decide +kernel
theorem dX2_wrongIn_70 : decode cX2_wrongIn 70 = .ok (.aload_n 0, 1) := by decide +kernel
theorem dX2_wrongIn_71 : decode cX2_wrongIn 71 = .ok (.getfield 11, 3) := by decide +kernel
theorem dX2_wrongIn_74 : decode cX2_wrongIn 74 = .ok (.iload_n 3, 1) := by decide +kernel
theorem dX2_wrongIn_75 : decode cX2_wrongIn 75 = .ok (.iaload, 1) := by decide +kernel
theorem dX2_wrongIn_76 : decode cX2_wrongIn 76 = .ok (.invokestatic 23, 3) := by decide +kernel
theorem dX2_wrongIn_79 : decode cX2_wrongIn 79 = .ok (.iload_n 2, 1) := by decide +kernel
theorem dX2_wrongIn_80 : decode cX2_wrongIn 80 = .ok (.if_icmp .le 7, 3) := by decide +kernel
theorem dX2_wrongIn_83 : decode cX2_wrongIn 83 = .ok (.iconst 1, 1) := by decide +kernel
theorem dX2_wrongIn_84 : decode cX2_wrongIn 84 = .ok (.goto 4, 3) := by decide +kernel
theorem dX2_wrongIn_87 : decode cX2_wrongIn 87 = .ok (.iconst 0, 1) := by decide +kernel
theorem dX2_wrongIn_88 : decode cX2_wrongIn 88 = .ok (.istore 6, 2) := by decide +kernel
theorem dX2_wrongIn_90 : decode cX2_wrongIn 90 = .ok (.iload 4, 2) := by decide +kernel
theorem dX2_wrongIn_92 : decode cX2_wrongIn 92 = .ok (.ifCond .eq 15, 3) := by decide +kernel
theorem dX2_wrongIn_95 : decode cX2_wrongIn 95 = .ok (.iload 6, 2) := by decide +kernel
theorem dX2_wrongIn_97 : decode cX2_wrongIn 97 = .ok (.ifCond .eq 10, 3) := by decide +kernel
theorem dX2_wrongIn_100 : decode cX2_wrongIn 100 = .ok (.iload 5, 2) := by decide +kernel
theorem dX2_wrongIn_102 : decode cX2_wrongIn 102 = .ok (.ifCond .ne 5, 3) := by decide +kernel
theorem dX2_wrongIn_105 : decode cX2_wrongIn 105 = .ok (.iconst 1, 1) := by decide +kernel
theorem dX2_wrongIn_106 : decode cX2_wrongIn 106 = .ok (.ireturn, 1) := by decide +kernel
theorem dX2_wrongIn_107 : decode cX2_wrongIn 107 = .ok (.iload 4, 2) := by decide +kernel
theorem dX2_wrongIn_109 : decode cX2_wrongIn 109 = .ok (.ifCond .eq 15, 3) := by decide +kernel
theorem dX2_wrongIn_112 : decode cX2_wrongIn 112 = .ok (.iload 5, 2) := by decide +kernel
theorem dX2_wrongIn_114 : decode cX2_wrongIn 114 = .ok (.ifCond .eq 10, 3) := by decide +kernel
theorem dX2_wrongIn_117 : decode cX2_wrongIn 117 = .ok (.iload 6, 2) := by decide +kernel
theorem dX2_wrongIn_119 : decode cX2_wrongIn 119 = .ok (.ifCond .ne 5, 3) := by decide +kernel
theorem dX2_wrongIn_122 : decode cX2_wrongIn 122 = .ok (.iconst 2, 1) := by decide +kernel
theorem dX2_wrongIn_123 : decode cX2_wrongIn 123 = .ok (.ireturn, 1) := by decide +kernel
theorem dX2_wrongIn_124 : decode cX2_wrongIn 124 = .ok (.iload 5, 2) := by decide +kernel
theorem dX2_wrongIn_126 : decode cX2_wrongIn 126 = .ok (.ifCond .eq 17, 3) := by decide +kernel
theorem dX2_wrongIn_129 : decode cX2_wrongIn 129 = .ok (.iload 6, 2) := by decide +kernel
theorem dX2_wrongIn_131 : decode cX2_wrongIn 131 = .ok (.ifCond .eq 12, 3) := by decide +kernel
theorem dX2_wrongIn_134 : decode cX2_wrongIn 134 = .ok (.iload 4, 2) := by decide +kernel
theorem dX2_wrongIn_136 : decode cX2_wrongIn 136 = .ok (.ifCond .ne 7, 3) := by decide +kernel
theorem dX2_wrongIn_139 : decode cX2_wrongIn 139 = .ok (.iconst 4, 1) := by decide +kernel
theorem dX2_wrongIn_140 : decode cX2_wrongIn 140 = .ok (.goto 4, 3) := by decide +kernel
theorem dX2_wrongIn_143 : decode cX2_wrongIn 143 = .ok (.iconst 0, 1) := by decide +kernel
theorem dX2_wrongIn_144 : decode cX2_wrongIn 144 = .ok (.ireturn, 1) := by decide +kernel
theorem dX3_init_0 : decode cX3_init 0 = .ok (.aload_n 0, 1) := by decide +kernel
theorem dX3_init_1 : decode cX3_init 1 = .ok (.invokespecial 3, 3) := by decide +kernel
theorem dX3_init_4 : decode cX3_init 4 = .ok (.aload_n 0, 1) := by decide +kernel
theorem dX3_init_5 : decode cX3_init 5 = .ok (.bipush 8, 2) := by decide +kernel
theorem dX3_init_7 : decode cX3_init 7 = .ok (.newarray .int, 2) := by decide +kernel
theorem dX3_init_9 : decode cX3_init 9 = .ok (.putfield 9, 3) := by decide +kernel
theorem dX3_init_12 : decode cX3_init 12 = .ok (.return_, 1) := by decide +kernel
theorem dX3_deviationAt_0 : decode cX3_deviationAt 0 = .ok (.iload_n 1, 1) := by decide +kernel
theorem dX3_deviationAt_1 : decode cX3_deviationAt 1 = .ok (.sipush 4500, 3) := by decide +kernel
theorem dX3_deviationAt_4 : decode cX3_deviationAt 4 = .ok (.idiv, 1) := by decide +kernel
theorem dX3_deviationAt_5 : decode cX3_deviationAt 5 = .ok (.bipush 8, 2) := by decide +kernel
theorem dX3_deviationAt_7 : decode cX3_deviationAt 7 = .ok (.invokestatic 15, 3) := by decide +kernel
theorem dX3_deviationAt_10 : decode cX3_deviationAt 10 = .ok (.istore_n 2, 1) := by decide +kernel
theorem dX3_deviationAt_11 : decode cX3_deviationAt 11 = .ok (.aload_n 0, 1) := by decide +kernel
theorem dX3_deviationAt_12 : decode cX3_deviationAt 12 = .ok (.getfield 9, 3) := by decide +kernel
theorem dX3_deviationAt_15 : decode cX3_deviationAt 15 = .ok (.iload_n 2, 1) := by decide +kernel
theorem dX3_deviationAt_16 : decode cX3_deviationAt 16 = .ok (.iaload, 1) := by decide +kernel
theorem dX3_deviationAt_17 : decode cX3_deviationAt 17 = .ok (.istore_n 3, 1) := by decide +kernel
theorem dX3_deviationAt_18 : decode cX3_deviationAt 18 = .ok (.aload_n 0, 1) := by decide +kernel
theorem dX3_deviationAt_19 : decode cX3_deviationAt 19 = .ok (.getfield 9, 3) := by decide +kernel
theorem dX3_deviationAt_22 : decode cX3_deviationAt 22 = .ok (.iload_n 2, 1) := by decide +kernel
theorem dX3_deviationAt_23 : decode cX3_deviationAt 23 = .ok (.iconst 1, 1) := by decide +kernel
theorem dX3_deviationAt_24 : decode cX3_deviationAt 24 = .ok (.iadd, 1) := by decide +kernel
theorem dX3_deviationAt_25 : decode cX3_deviationAt 25 = .ok (.bipush 8, 2) := by decide +kernel
theorem dX3_deviationAt_27 : decode cX3_deviationAt 27 = .ok (.irem, 1) := by decide +kernel
theorem dX3_deviationAt_28 : decode cX3_deviationAt 28 = .ok (.iaload, 1) := by decide +kernel
theorem dX3_deviationAt_29 : decode cX3_deviationAt 29 = .ok (.istore 4, 2) := by decide +kernel
theorem dX3_deviationAt_31 : decode cX3_deviationAt 31 = .ok (.iload_n 3, 1) := by decide +kernel
theorem dX3_deviationAt_32 : decode cX3_deviationAt 32 = .ok (.iload 4, 2) := by decide +kernel
theorem dX3_deviationAt_34 : decode cX3_deviationAt 34 = .ok (.iload_n 3, 1) := by decide +kernel
theorem dX3_deviationAt_35 : decode cX3_deviationAt 35 = .ok (.isub, 1) := by decide +kernel
theorem dX3_deviationAt_36 : decode cX3_deviationAt 36 = .ok (.iload_n 1, 1) := by decide +kernel
theorem dX3_deviationAt_37 : decode cX3_deviationAt 37 = .ok (.sipush 4500, 3) := by decide +kernel
theorem dX3_deviationAt_40 : decode cX3_deviationAt 40 = .ok (.irem, 1) := by decide +kernel
theorem dX3_deviationAt_41 : decode cX3_deviationAt 41 = .ok (.imul, 1) := by decide +kernel
theorem dX3_deviationAt_42 : decode cX3_deviationAt 42 = .ok (.sipush 4500, 3) := by decide +kernel
theorem dX3_deviationAt_45 : decode cX3_deviationAt 45 = .ok (.idiv, 1) := by decide +kernel
theorem dX3_deviationAt_46 : decode cX3_deviationAt 46 = .ok (.iadd, 1) := by decide +kernel
theorem dX3_deviationAt_47 : decode cX3_deviationAt 47 = .ok (.ireturn, 1) := by decide +kernel
theorem dX4_init_0 : decode cX4_init 0 = .ok (.aload_n 0, 1) := by decide +kernel
theorem dX4_init_1 : decode cX4_init 1 = .ok (.invokespecial 3, 3) := by decide +kernel
theorem dX4_init_4 : decode cX4_init 4 = .ok (.aload_n 0, 1) := by decide +kernel
theorem dX4_init_5 : decode cX4_init 5 = .ok (.iconst 0, 1) := by decide +kernel
theorem dX4_init_6 : decode cX4_init 6 = .ok (.putfield 9, 3) := by decide +kernel
theorem dX4_init_9 : decode cX4_init 9 = .ok (.aload_n 0, 1) := by decide +kernel
theorem dX4_init_10 : decode cX4_init 10 = .ok (.bipush 10, 2) := by decide +kernel
theorem dX4_init_12 : decode cX4_init 12 = .ok (.putfield 15, 3) := by decide +kernel
theorem dX4_init_15 : decode cX4_init 15 = .ok (.aload_n 0, 1) := by decide +kernel
theorem dX4_init_16 : decode cX4_init 16 = .ok (.bipush 20, 2) := by decide +kernel
theorem dX4_init_18 : decode cX4_init 18 = .ok (.putfield 18, 3) := by decide +kernel
theorem dX4_init_21 : decode cX4_init 21 = .ok (.return_, 1) := by decide +kernel
theorem dX4_copyFrom_0 : decode cX4_copyFrom 0 = .ok (.aload_n 0, 1) := by decide +kernel
theorem dX4_copyFrom_1 : decode cX4_copyFrom 1 = .ok (.aload_n 1, 1) := by decide +kernel
theorem dX4_copyFrom_2 : decode cX4_copyFrom 2 = .ok (.getfield 9, 3) := by decide +kernel
theorem dX4_copyFrom_5 : decode cX4_copyFrom 5 = .ok (.putfield 9, 3) := by decide +kernel
theorem dX4_copyFrom_8 : decode cX4_copyFrom 8 = .ok (.aload_n 0, 1) := by decide +kernel
theorem dX4_copyFrom_9 : decode cX4_copyFrom 9 = .ok (.aload_n 1, 1) := by decide +kernel
theorem dX4_copyFrom_10 : decode cX4_copyFrom 10 = .ok (.getfield 15, 3) := by decide +kernel
theorem dX4_copyFrom_13 : decode cX4_copyFrom 13 = .ok (.putfield 15, 3) := by decide +kernel
theorem dX4_copyFrom_16 : decode cX4_copyFrom 16 = .ok (.aload_n 0, 1) := by decide +kernel
theorem dX4_copyFrom_17 : decode cX4_copyFrom 17 = .ok (.aload_n 1, 1) := by decide +kernel
theorem dX4_copyFrom_18 : decode cX4_copyFrom 18 = .ok (.getfield 18, 3) := by decide +kernel
theorem dX4_copyFrom_21 : decode cX4_copyFrom 21 = .ok (.putfield 18, 3) := by decide +kernel
theorem dX4_copyFrom_24 : decode cX4_copyFrom 24 = .ok (.aload_n 0, 1) := by decide +kernel
theorem dX4_copyFrom_25 : decode cX4_copyFrom 25 = .ok (.aload_n 1, 1) := by decide +kernel
theorem dX4_copyFrom_26 : decode cX4_copyFrom 26 = .ok (.getfield 21, 3) := by decide +kernel
theorem dX4_copyFrom_29 : decode cX4_copyFrom 29 = .ok (.putfield 21, 3) := by decide +kernel
theorem dX4_copyFrom_32 : decode cX4_copyFrom 32 = .ok (.aload_n 0, 1) := by decide +kernel
theorem dX4_copyFrom_33 : decode cX4_copyFrom 33 = .ok (.aload_n 1, 1) := by decide +kernel
theorem dX4_copyFrom_34 : decode cX4_copyFrom 34 = .ok (.getfield 24, 3) := by decide +kernel
theorem dX4_copyFrom_37 : decode cX4_copyFrom 37 = .ok (.putfield 24, 3) := by decide +kernel
theorem dX4_copyFrom_40 : decode cX4_copyFrom 40 = .ok (.aload_n 0, 1) := by decide +kernel
theorem dX4_copyFrom_41 : decode cX4_copyFrom 41 = .ok (.aload_n 1, 1) := by decide +kernel
theorem dX4_copyFrom_42 : decode cX4_copyFrom 42 = .ok (.getfield 27, 3) := by decide +kernel
theorem dX4_copyFrom_45 : decode cX4_copyFrom 45 = .ok (.putfield 27, 3) := by decide +kernel
theorem dX4_copyFrom_48 : decode cX4_copyFrom 48 = .ok (.aload_n 0, 1) := by decide +kernel
theorem dX4_copyFrom_49 : decode cX4_copyFrom 49 = .ok (.aload_n 1, 1) := by decide +kernel
theorem dX4_copyFrom_50 : decode cX4_copyFrom 50 = .ok (.getfield 30, 3) := by decide +kernel
theorem dX4_copyFrom_53 : decode cX4_copyFrom 53 = .ok (.putfield 30, 3) := by decide +kernel
theorem dX4_copyFrom_56 : decode cX4_copyFrom 56 = .ok (.aload_n 0, 1) := by decide +kernel
theorem dX4_copyFrom_57 : decode cX4_copyFrom 57 = .ok (.aload_n 1, 1) := by decide +kernel
theorem dX4_copyFrom_58 : decode cX4_copyFrom 58 = .ok (.getfield 33, 3) := by decide +kernel
theorem dX4_copyFrom_61 : decode cX4_copyFrom 61 = .ok (.putfield 33, 3) := by decide +kernel
theorem dX4_copyFrom_64 : decode cX4_copyFrom 64 = .ok (.return_, 1) := by decide +kernel
theorem dX4_retune_0 : decode cX4_retune 0 = .ok (.iload_n 1, 1) := by decide +kernel
theorem dX4_retune_1 : decode cX4_retune 1 = .ok (.ifCond .ne 16, 3) := by decide +kernel
theorem dX4_retune_4 : decode cX4_retune 4 = .ok (.aload_n 0, 1) := by decide +kernel
theorem dX4_retune_5 : decode cX4_retune 5 = .ok (.getfield 15, 3) := by decide +kernel
theorem dX4_retune_8 : decode cX4_retune 8 = .ok (.istore_n 3, 1) := by decide +kernel
theorem dX4_retune_9 : decode cX4_retune 9 = .ok (.aload_n 0, 1) := by decide +kernel
theorem dX4_retune_10 : decode cX4_retune 10 = .ok (.iload_n 2, 1) := by decide +kernel
theorem dX4_retune_11 : decode cX4_retune 11 = .ok (.putfield 15, 3) := by decide +kernel
theorem dX4_retune_14 : decode cX4_retune 14 = .ok (.goto 31, 3) := by decide +kernel
theorem dX4_retune_17 : decode cX4_retune 17 = .ok (.iload_n 1, 1) := by decide +kernel
theorem dX4_retune_18 : decode cX4_retune 18 = .ok (.iconst 1, 1) := by decide +kernel
theorem dX4_retune_19 : decode cX4_retune 19 = .ok (.if_icmp .ne 16, 3) := by decide +kernel
theorem dX4_retune_22 : decode cX4_retune 22 = .ok (.aload_n 0, 1) := by decide +kernel
theorem dX4_retune_23 : decode cX4_retune 23 = .ok (.getfield 18, 3) := by decide +kernel
theorem dX4_retune_26 : decode cX4_retune 26 = .ok (.istore_n 3, 1) := by decide +kernel
theorem dX4_retune_27 : decode cX4_retune 27 = .ok (.aload_n 0, 1) := by decide +kernel
theorem dX4_retune_28 : decode cX4_retune 28 = .ok (.iload_n 2, 1) := by decide +kernel
theorem dX4_retune_29 : decode cX4_retune 29 = .ok (.putfield 18, 3) := by decide +kernel
theorem dX4_retune_32 : decode cX4_retune 32 = .ok (.goto 13, 3) := by decide +kernel
theorem dX4_retune_35 : decode cX4_retune 35 = .ok (.aload_n 0, 1) := by decide +kernel
theorem dX4_retune_36 : decode cX4_retune 36 = .ok (.getfield 21, 3) := by decide +kernel
theorem dX4_retune_39 : decode cX4_retune 39 = .ok (.istore_n 3, 1) := by decide +kernel
theorem dX4_retune_40 : decode cX4_retune 40 = .ok (.aload_n 0, 1) := by decide +kernel
theorem dX4_retune_41 : decode cX4_retune 41 = .ok (.iload_n 2, 1) := by decide +kernel
theorem dX4_retune_42 : decode cX4_retune 42 = .ok (.putfield 21, 3) := by decide +kernel
theorem dX4_retune_45 : decode cX4_retune 45 = .ok (.iload_n 3, 1) := by decide +kernel
theorem dX4_retune_46 : decode cX4_retune 46 = .ok (.ireturn, 1) := by decide +kernel
theorem dX4_layAt_0 : decode cX4_layAt 0 = .ok (.aload_n 0, 1) := by decide +kernel
theorem dX4_layAt_1 : decode cX4_layAt 1 = .ok (.iload_n 1, 1) := by decide +kernel
theorem dX4_layAt_2 : decode cX4_layAt 2 = .ok (.putfield 24, 3) := by decide +kernel
theorem dX4_layAt_5 : decode cX4_layAt 5 = .ok (.aload_n 0, 1) := by decide +kernel
theorem dX4_layAt_6 : decode cX4_layAt 6 = .ok (.iconst 0, 1) := by decide +kernel
theorem dX4_layAt_7 : decode cX4_layAt 7 = .ok (.putfield 27, 3) := by decide +kernel
theorem dX4_layAt_10 : decode cX4_layAt 10 = .ok (.return_, 1) := by decide +kernel
theorem dX4_shownAt_0 : decode cX4_shownAt 0 = .ok (.aload_n 0, 1) := by decide +kernel
theorem dX4_shownAt_1 : decode cX4_shownAt 1 = .ok (.getfield 9, 3) := by decide +kernel
theorem dX4_shownAt_4 : decode cX4_shownAt 4 = .ok (.ifCond .ne 5, 3) := by decide +kernel
theorem dX4_shownAt_7 : decode cX4_shownAt 7 = .ok (.iconst 0, 1) := by decide +kernel
theorem dX4_shownAt_8 : decode cX4_shownAt 8 = .ok (.ireturn, 1) := by decide +kernel
theorem dX4_shownAt_9 : decode cX4_shownAt 9 = .ok (.aload_n 0, 1) := by decide +kernel
theorem dX4_shownAt_10 : decode cX4_shownAt 10 = .ok (.getfield 9, 3) := by decide +kernel
theorem dX4_shownAt_13 : decode cX4_shownAt 13 = .ok (.iconst 5, 1) := by decide +kernel
theorem dX4_shownAt_14 : decode cX4_shownAt 14 = .ok (.if_icmp .ne 14, 3) := by decide +kernel
theorem dX4_shownAt_17 : decode cX4_shownAt 17 = .ok (.iload_n 1, 1) := by decide +kernel
theorem dX4_shownAt_18 : decode cX4_shownAt 18 = .ok (.aload_n 2, 1) := by decide +kernel
theorem dX4_shownAt_19 : decode cX4_shownAt 19 = .ok (.iload_n 1, 1) := by decide +kernel
theorem dX4_shownAt_20 : decode cX4_shownAt 20 = .ok (.invokevirtual 36, 3) := by decide +kernel
theorem dX4_shownAt_23 : decode cX4_shownAt 23 = .ok (.isub, 1) := by decide +kernel
theorem dX4_shownAt_24 : decode cX4_shownAt 24 = .ok (.invokestatic 42, 3) := by decide +kernel
theorem dX4_shownAt_27 : decode cX4_shownAt 27 = .ok (.ireturn, 1) := by decide +kernel
theorem dX4_shownAt_28 : decode cX4_shownAt 28 = .ok (.iload_n 1, 1) := by decide +kernel
theorem dX4_shownAt_29 : decode cX4_shownAt 29 = .ok (.aload_n 0, 1) := by decide +kernel
theorem dX4_shownAt_30 : decode cX4_shownAt 30 = .ok (.getfield 24, 3) := by decide +kernel
theorem dX4_shownAt_33 : decode cX4_shownAt 33 = .ok (.isub, 1) := by decide +kernel
theorem dX4_shownAt_34 : decode cX4_shownAt 34 = .ok (.invokestatic 42, 3) := by decide +kernel
theorem dX4_shownAt_37 : decode cX4_shownAt 37 = .ok (.istore_n 3, 1) := by decide +kernel
theorem dX4_shownAt_38 : decode cX4_shownAt 38 = .ok (.aload_n 0, 1) := by decide +kernel
theorem dX4_shownAt_39 : decode cX4_shownAt 39 = .ok (.getfield 9, 3) := by decide +kernel
theorem dX4_shownAt_42 : decode cX4_shownAt 42 = .ok (.iconst 4, 1) := by decide +kernel
theorem dX4_shownAt_43 : decode cX4_shownAt 43 = .ok (.if_icmp .ne 23, 3) := by decide +kernel
theorem dX4_shownAt_46 : decode cX4_shownAt 46 = .ok (.iload_n 3, 1) := by decide +kernel
theorem dX4_shownAt_47 : decode cX4_shownAt 47 = .ok (.aload_n 0, 1) := by decide +kernel
theorem dX4_shownAt_48 : decode cX4_shownAt 48 = .ok (.getfield 30, 3) := by decide +kernel
theorem dX4_shownAt_51 : decode cX4_shownAt 51 = .ok (.aload_n 0, 1) := by decide +kernel
theorem dX4_shownAt_52 : decode cX4_shownAt 52 = .ok (.getfield 33, 3) := by decide +kernel
theorem dX4_shownAt_55 : decode cX4_shownAt 55 = .ok (.iload_n 3, 1) := by decide +kernel
theorem dX4_shownAt_56 : decode cX4_shownAt 56 = .ok (.invokestatic 45, 3) := by decide +kernel
theorem dX4_shownAt_59 : decode cX4_shownAt 59 = .ok (.iadd, 1) := by decide +kernel
theorem dX4_shownAt_60 : decode cX4_shownAt 60 = .ok (.invokestatic 42, 3) := by decide +kernel
theorem dX4_shownAt_63 : decode cX4_shownAt 63 = .ok (.goto 4, 3) := by decide +kernel
theorem dX4_shownAt_66 : decode cX4_shownAt 66 = .ok (.iload_n 3, 1) := by decide +kernel
theorem dX4_shownAt_67 : decode cX4_shownAt 67 = .ok (.ireturn, 1) := by decide +kernel
theorem dX4_tickIn_0 : decode cX4_tickIn 0 = .ok (.aload_n 0, 1) := by decide +kernel
theorem dX4_tickIn_1 : decode cX4_tickIn 1 = .ok (.getfield 9, 3) := by decide +kernel
theorem dX4_tickIn_4 : decode cX4_tickIn 4 = .ok (.iconst 1, 1) := by decide +kernel
theorem dX4_tickIn_5 : decode cX4_tickIn 5 = .ok (.if_icmp .ne 28, 3) := by decide +kernel
theorem dX4_tickIn_8 : decode cX4_tickIn 8 = .ok (.aload_n 0, 1) := by decide +kernel
theorem dX4_tickIn_9 : decode cX4_tickIn 9 = .ok (.aload_n 0, 1) := by decide +kernel
theorem dX4_tickIn_10 : decode cX4_tickIn 10 = .ok (.getfield 24, 3) := by decide +kernel
theorem dX4_tickIn_13 : decode cX4_tickIn 13 = .ok (.bipush 25, 2) := by decide +kernel
theorem dX4_tickIn_15 : decode cX4_tickIn 15 = .ok (.aload_n 1, 1) := by decide +kernel
theorem dX4_tickIn_16 : decode cX4_tickIn 16 = .ok (.getfield 49, 3) := by decide +kernel
theorem dX4_tickIn_19 : decode cX4_tickIn 19 = .ok (.imul, 1) := by decide +kernel
theorem dX4_tickIn_20 : decode cX4_tickIn 20 = .ok (.bipush 90, 2) := by decide +kernel
theorem dX4_tickIn_22 : decode cX4_tickIn 22 = .ok (.idiv, 1) := by decide +kernel
theorem dX4_tickIn_23 : decode cX4_tickIn 23 = .ok (.isub, 1) := by decide +kernel
theorem dX4_tickIn_24 : decode cX4_tickIn 24 = .ok (.invokestatic 54, 3) := by decide +kernel
theorem dX4_tickIn_27 : decode cX4_tickIn 27 = .ok (.putfield 24, 3) := by decide +kernel
theorem dX4_tickIn_30 : decode cX4_tickIn 30 = .ok (.goto 85, 3) := by decide +kernel
theorem dX4_tickIn_33 : decode cX4_tickIn 33 = .ok (.aload_n 0, 1) := by decide +kernel
theorem dX4_tickIn_34 : decode cX4_tickIn 34 = .ok (.getfield 9, 3) := by decide +kernel
theorem dX4_tickIn_37 : decode cX4_tickIn 37 = .ok (.iconst 2, 1) := by decide +kernel
theorem dX4_tickIn_38 : decode cX4_tickIn 38 = .ok (.if_icmp .ne 23, 3) := by decide +kernel
theorem dX4_tickIn_41 : decode cX4_tickIn 41 = .ok (.aload_n 0, 1) := by decide +kernel
theorem dX4_tickIn_42 : decode cX4_tickIn 42 = .ok (.aload_n 1, 1) := by decide +kernel
theorem dX4_tickIn_43 : decode cX4_tickIn 43 = .ok (.getfield 49, 3) := by decide +kernel
theorem dX4_tickIn_46 : decode cX4_tickIn 46 = .ok (.invokestatic 57, 3) := by decide +kernel
theorem dX4_tickIn_49 : decode cX4_tickIn 49 = .ok (.aload_n 0, 1) := by decide +kernel
theorem dX4_tickIn_50 : decode cX4_tickIn 50 = .ok (.getfield 24, 3) := by decide +kernel
theorem dX4_tickIn_53 : decode cX4_tickIn 53 = .ok (.iload_n 2, 1) := by decide +kernel
theorem dX4_tickIn_54 : decode cX4_tickIn 54 = .ok (.iconst 0, 1) := by decide +kernel
theorem dX4_tickIn_55 : decode cX4_tickIn 55 = .ok (.invokevirtual 60, 3) := by decide +kernel
theorem dX4_tickIn_58 : decode cX4_tickIn 58 = .ok (.goto 57, 3) := by decide +kernel
theorem dX4_tickIn_61 : decode cX4_tickIn 61 = .ok (.aload_n 0, 1) := by decide +kernel
theorem dX4_tickIn_62 : decode cX4_tickIn 62 = .ok (.getfield 9, 3) := by decide +kernel
theorem dX4_tickIn_65 : decode cX4_tickIn 65 = .ok (.iconst 3, 1) := by decide +kernel
theorem dX4_tickIn_66 : decode cX4_tickIn 66 = .ok (.if_icmp .eq 11, 3) := by decide +kernel
theorem dX4_tickIn_69 : decode cX4_tickIn 69 = .ok (.aload_n 0, 1) := by decide +kernel
theorem dX4_tickIn_70 : decode cX4_tickIn 70 = .ok (.getfield 9, 3) := by decide +kernel
theorem dX4_tickIn_73 : decode cX4_tickIn 73 = .ok (.iconst 4, 1) := by decide +kernel
theorem dX4_tickIn_74 : decode cX4_tickIn 74 = .ok (.if_icmp .ne 41, 3) := by decide +kernel
theorem dX4_tickIn_77 : decode cX4_tickIn 77 = .ok (.aload_n 1, 1) := by decide +kernel
theorem dX4_tickIn_78 : decode cX4_tickIn 78 = .ok (.getfield 64, 3) := by decide +kernel
theorem dX4_tickIn_81 : decode cX4_tickIn 81 = .ok (.aload_n 1, 1) := by decide +kernel
theorem dX4_tickIn_82 : decode cX4_tickIn 82 = .ok (.getfield 49, 3) := by decide +kernel
theorem dX4_tickIn_85 : decode cX4_tickIn 85 = .ok (.aload_n 1, 1) := by decide +kernel
theorem dX4_tickIn_86 : decode cX4_tickIn 86 = .ok (.getfield 67, 3) := by decide +kernel
theorem dX4_tickIn_89 : decode cX4_tickIn 89 = .ok (.invokestatic 45, 3) := by decide +kernel
theorem dX4_tickIn_92 : decode cX4_tickIn 92 = .ok (.istore_n 3, 1) := by decide +kernel
theorem dX4_tickIn_93 : decode cX4_tickIn 93 = .ok (.aload_n 0, 1) := by decide +kernel
theorem dX4_tickIn_94 : decode cX4_tickIn 94 = .ok (.aload_n 1, 1) := by decide +kernel
theorem dX4_tickIn_95 : decode cX4_tickIn 95 = .ok (.getfield 49, 3) := by decide +kernel
theorem dX4_tickIn_98 : decode cX4_tickIn 98 = .ok (.invokestatic 57, 3) := by decide +kernel
theorem dX4_tickIn_101 : decode cX4_tickIn 101 = .ok (.aload_n 0, 1) := by decide +kernel
theorem dX4_tickIn_102 : decode cX4_tickIn 102 = .ok (.getfield 24, 3) := by decide +kernel
theorem dX4_tickIn_105 : decode cX4_tickIn 105 = .ok (.iload_n 3, 1) := by decide +kernel
theorem dX4_tickIn_106 : decode cX4_tickIn 106 = .ok (.isub, 1) := by decide +kernel
theorem dX4_tickIn_107 : decode cX4_tickIn 107 = .ok (.invokestatic 54, 3) := by decide +kernel
theorem dX4_tickIn_110 : decode cX4_tickIn 110 = .ok (.iload_n 2, 1) := by decide +kernel
theorem dX4_tickIn_111 : decode cX4_tickIn 111 = .ok (.iconst 1, 1) := by decide +kernel
theorem dX4_tickIn_112 : decode cX4_tickIn 112 = .ok (.invokevirtual 60, 3) := by decide +kernel
theorem dX4_tickIn_115 : decode cX4_tickIn 115 = .ok (.return_, 1) := by decide +kernel
theorem dX4_sway_0 : decode cX4_sway 0 = .ok (.aload_n 0, 1) := by decide +kernel
theorem dX4_sway_1 : decode cX4_sway 1 = .ok (.dup, 1) := by decide +kernel
theorem dX4_sway_2 : decode cX4_sway 2 = .ok (.getfield 27, 3) := by decide +kernel
theorem dX4_sway_5 : decode cX4_sway 5 = .ok (.aload_n 0, 1) := by decide +kernel
theorem dX4_sway_6 : decode cX4_sway 6 = .ok (.getfield 15, 3) := by decide +kernel
theorem dX4_sway_9 : decode cX4_sway 9 = .ok (.iload_n 1, 1) := by decide +kernel
theorem dX4_sway_10 : decode cX4_sway 10 = .ok (.imul, 1) := by decide +kernel
theorem dX4_sway_11 : decode cX4_sway 11 = .ok (.iload_n 2, 1) := by decide +kernel
theorem dX4_sway_12 : decode cX4_sway 12 = .ok (.imul, 1) := by decide +kernel
theorem dX4_sway_13 : decode cX4_sway 13 = .ok (.sipush 9000, 3) := by decide +kernel
theorem dX4_sway_16 : decode cX4_sway 16 = .ok (.idiv, 1) := by decide +kernel
theorem dX4_sway_17 : decode cX4_sway 17 = .ok (.isub, 1) := by decide +kernel
theorem dX4_sway_18 : decode cX4_sway 18 = .ok (.putfield 27, 3) := by decide +kernel
theorem dX4_sway_21 : decode cX4_sway 21 = .ok (.iload 4, 2) := by decide +kernel
theorem dX4_sway_23 : decode cX4_sway 23 = .ok (.ifCond .eq 42, 3) := by decide +kernel
theorem dX4_sway_26 : decode cX4_sway 26 = .ok (.aload_n 0, 1) := by decide +kernel
theorem dX4_sway_27 : decode cX4_sway 27 = .ok (.dup, 1) := by decide +kernel
theorem dX4_sway_28 : decode cX4_sway 28 = .ok (.getfield 27, 3) := by decide +kernel
theorem dX4_sway_31 : decode cX4_sway 31 = .ok (.aload_n 0, 1) := by decide +kernel
theorem dX4_sway_32 : decode cX4_sway 32 = .ok (.getfield 27, 3) := by decide +kernel
theorem dX4_sway_35 : decode cX4_sway 35 = .ok (.aload_n 0, 1) := by decide +kernel
theorem dX4_sway_36 : decode cX4_sway 36 = .ok (.getfield 18, 3) := by decide +kernel
theorem dX4_sway_39 : decode cX4_sway 39 = .ok (.imul, 1) := by decide +kernel
theorem dX4_sway_40 : decode cX4_sway 40 = .ok (.bipush 100, 2) := by decide +kernel
theorem dX4_sway_42 : decode cX4_sway 42 = .ok (.idiv, 1) := by decide +kernel
theorem dX4_sway_43 : decode cX4_sway 43 = .ok (.isub, 1) := by decide +kernel
theorem dX4_sway_44 : decode cX4_sway 44 = .ok (.putfield 27, 3) := by decide +kernel
theorem dX4_sway_47 : decode cX4_sway 47 = .ok (.aload_n 0, 1) := by decide +kernel
theorem dX4_sway_48 : decode cX4_sway 48 = .ok (.dup, 1) := by decide +kernel
theorem dX4_sway_49 : decode cX4_sway 49 = .ok (.getfield 27, 3) := by decide +kernel
theorem dX4_sway_52 : decode cX4_sway 52 = .ok (.iload_n 3, 1) := by decide +kernel
theorem dX4_sway_53 : decode cX4_sway 53 = .ok (.aload_n 0, 1) := by decide +kernel
theorem dX4_sway_54 : decode cX4_sway 54 = .ok (.getfield 21, 3) := by decide +kernel
theorem dX4_sway_57 : decode cX4_sway 57 = .ok (.imul, 1) := by decide +kernel
theorem dX4_sway_58 : decode cX4_sway 58 = .ok (.bipush 100, 2) := by decide +kernel
theorem dX4_sway_60 : decode cX4_sway 60 = .ok (.idiv, 1) := by decide +kernel
theorem dX4_sway_61 : decode cX4_sway 61 = .ok (.iadd, 1) := by decide +kernel
theorem dX4_sway_62 : decode cX4_sway 62 = .ok (.putfield 27, 3) := by decide +kernel
theorem dX4_sway_65 : decode cX4_sway 65 = .ok (.aload_n 0, 1) := by decide +kernel
theorem dX4_sway_66 : decode cX4_sway 66 = .ok (.aload_n 0, 1) := by decide +kernel
theorem dX4_sway_67 : decode cX4_sway 67 = .ok (.getfield 27, 3) := by decide +kernel
theorem dX4_sway_70 : decode cX4_sway 70 = .ok (.sipush 9999, 3) := by decide +kernel
theorem dX4_sway_73 : decode cX4_sway 73 = .ok (.invokestatic 70, 3) := by decide +kernel
theorem dX4_sway_76 : decode cX4_sway 76 = .ok (.putfield 27, 3) := by decide +kernel
theorem dX4_sway_79 : decode cX4_sway 79 = .ok (.aload_n 0, 1) := by decide +kernel
theorem dX4_sway_80 : decode cX4_sway 80 = .ok (.aload_n 0, 1) := by decide +kernel
theorem dX4_sway_81 : decode cX4_sway 81 = .ok (.getfield 24, 3) := by decide +kernel
theorem dX4_sway_84 : decode cX4_sway 84 = .ok (.aload_n 0, 1) := by decide +kernel
theorem dX4_sway_85 : decode cX4_sway 85 = .ok (.getfield 27, 3) := by decide +kernel
theorem dX4_sway_88 : decode cX4_sway 88 = .ok (.iadd, 1) := by decide +kernel
theorem dX4_sway_89 : decode cX4_sway 89 = .ok (.invokestatic 54, 3) := by decide +kernel
theorem dX4_sway_92 : decode cX4_sway 92 = .ok (.putfield 24, 3) := by decide +kernel
theorem dX4_sway_95 : decode cX4_sway 95 = .ok (.return_, 1) := by decide +kernel
theorem dX5_init_0 : decode cX5_init 0 = .ok (.aload_n 0, 1) := by decide +kernel
theorem dX5_init_1 : decode cX5_init 1 = .ok (.invokespecial 3, 3) := by decide +kernel
theorem dX5_init_4 : decode cX5_init 4 = .ok (.aload_n 0, 1) := by decide +kernel
theorem dX5_init_5 : decode cX5_init 5 = .ok (.sipush 160, 3) := by decide +kernel
theorem dX5_init_8 : decode cX5_init 8 = .ok (.newarray .int, 2) := by decide +kernel
theorem dX5_init_10 : decode cX5_init 10 = .ok (.putfield 11, 3) := by decide +kernel
theorem dX5_init_13 : decode cX5_init 13 = .ok (.aload_n 0, 1) := by decide +kernel
theorem dX5_init_14 : decode cX5_init 14 = .ok (.bipush 6, 2) := by decide +kernel
theorem dX5_init_16 : decode cX5_init 16 = .ok (.newarray .int, 2) := by decide +kernel
theorem dX5_init_18 : decode cX5_init 18 = .ok (.putfield 15, 3) := by decide +kernel
theorem dX5_init_21 : decode cX5_init 21 = .ok (.return_, 1) := by decide +kernel
theorem dX5_append_0 : decode cX5_append 0 = .ok (.aload_n 0, 1) := by decide +kernel
theorem dX5_append_1 : decode cX5_append 1 = .ok (.getfield 18, 3) := by decide +kernel
theorem dX5_append_4 : decode cX5_append 4 = .ok (.iload_n 3, 1) := by decide +kernel
theorem dX5_append_5 : decode cX5_append 5 = .ok (.iadd, 1) := by decide +kernel
theorem dX5_append_6 : decode cX5_append 6 = .ok (.sipush 160, 3) := by decide +kernel
theorem dX5_append_9 : decode cX5_append 9 = .ok (.if_icmp .le 6, 3) := by decide +kernel
theorem dX5_append_12 : decode cX5_append 12 = .ok (.bipush (-5), 2) := by decide +kernel
theorem dX5_append_14 : decode cX5_append 14 = .ok (.ireturn, 1) := by decide +kernel
theorem dX5_append_15 : decode cX5_append 15 = .ok (.iconst 0, 1) := by decide +kernel
theorem dX5_append_16 : decode cX5_append 16 = .ok (.istore 4, 2) := by decide +kernel
theorem dX5_append_18 : decode cX5_append 18 = .ok (.iload 4, 2) := by decide +kernel
theorem dX5_append_20 : decode cX5_append 20 = .ok (.iload_n 3, 1) := by decide +kernel
theorem dX5_append_21 : decode cX5_append 21 = .ok (.if_icmp .ge 33, 3) := by decide +kernel
theorem dX5_append_24 : decode cX5_append 24 = .ok (.aload_n 0, 1) := by decide +kernel
theorem dX5_append_25 : decode cX5_append 25 = .ok (.getfield 11, 3) := by decide +kernel
theorem dX5_append_28 : decode cX5_append 28 = .ok (.aload_n 0, 1) := by decide +kernel
theorem dX5_append_29 : decode cX5_append 29 = .ok (.getfield 18, 3) := by decide +kernel
theorem dX5_append_32 : decode cX5_append 32 = .ok (.iload 4, 2) := by decide +kernel
theorem dX5_append_34 : decode cX5_append 34 = .ok (.iadd, 1) := by decide +kernel
theorem dX5_append_35 : decode cX5_append 35 = .ok (.lload_n 1, 1) := by decide +kernel
theorem dX5_append_36 : decode cX5_append 36 = .ok (.bipush 8, 2) := by decide +kernel
theorem dX5_append_38 : decode cX5_append 38 = .ok (.iload 4, 2) := by decide +kernel
theorem dX5_append_40 : decode cX5_append 40 = .ok (.imul, 1) := by decide +kernel
theorem dX5_append_41 : decode cX5_append 41 = .ok (.lshr, 1) := by decide +kernel
theorem dX5_append_42 : decode cX5_append 42 = .ok (.ldc2_w 22, 3) := by decide +kernel
theorem dX5_append_45 : decode cX5_append 45 = .ok (.land, 1) := by decide +kernel
theorem dX5_append_46 : decode cX5_append 46 = .ok (.l2i, 1) := by decide +kernel
theorem dX5_append_47 : decode cX5_append 47 = .ok (.iastore, 1) := by decide +kernel
theorem dX5_append_48 : decode cX5_append 48 = .ok (.iinc 4 1, 3) := by decide +kernel
theorem dX5_append_51 : decode cX5_append 51 = .ok (.goto (-33), 3) := by decide +kernel
theorem dX5_append_54 : decode cX5_append 54 = .ok (.aload_n 0, 1) := by decide +kernel
theorem dX5_append_55 : decode cX5_append 55 = .ok (.dup, 1) := by decide +kernel
theorem dX5_append_56 : decode cX5_append 56 = .ok (.getfield 18, 3) := by decide +kernel
theorem dX5_append_59 : decode cX5_append 59 = .ok (.iload_n 3, 1) := by decide +kernel
theorem dX5_append_60 : decode cX5_append 60 = .ok (.iadd, 1) := by decide +kernel
theorem dX5_append_61 : decode cX5_append 61 = .ok (.putfield 18, 3) := by decide +kernel
theorem dX5_append_64 : decode cX5_append 64 = .ok (.aload_n 0, 1) := by decide +kernel
theorem dX5_append_65 : decode cX5_append 65 = .ok (.getfield 18, 3) := by decide +kernel
theorem dX5_append_68 : decode cX5_append 68 = .ok (.ireturn, 1) := by decide +kernel
theorem dX5_read_0 : decode cX5_read 0 = .ok (.getstatic 24, 3) := by decide +kernel
theorem dX5_read_3 : decode cX5_read 3 = .ok (.iconst 0, 1) := by decide +kernel
theorem dX5_read_4 : decode cX5_read 4 = .ok (.aload_n 0, 1) := by decide +kernel
theorem dX5_read_5 : decode cX5_read 5 = .ok (.getfield 15, 3) := by decide +kernel
theorem dX5_read_8 : decode cX5_read 8 = .ok (.iconst 0, 1) := by decide +kernel
theorem dX5_read_9 : decode cX5_read 9 = .ok (.bipush 6, 2) := by decide +kernel
theorem dX5_read_11 : decode cX5_read 11 = .ok (.invokestatic 27, 3) := by decide +kernel
theorem dX5_read_14 : decode cX5_read 14 = .ok (.iconst 0, 1) := by decide +kernel
theorem dX5_read_15 : decode cX5_read 15 = .ok (.istore_n 1, 1) := by decide +kernel
theorem dX5_read_16 : decode cX5_read 16 = .ok (.iconst 1, 1) := by decide +kernel
theorem dX5_read_17 : decode cX5_read 17 = .ok (.istore_n 2, 1) := by decide +kernel
theorem dX5_read_18 : decode cX5_read 18 = .ok (.iload_n 2, 1) := by decide +kernel
theorem dX5_read_19 : decode cX5_read 19 = .ok (.bipush 8, 2) := by decide +kernel
theorem dX5_read_21 : decode cX5_read 21 = .ok (.if_icmp .gt 129, 3) := by decide +kernel
theorem dX5_read_24 : decode cX5_read 24 = .ok (.aload_n 0, 1) := by decide +kernel
theorem dX5_read_25 : decode cX5_read 25 = .ok (.iload_n 1, 1) := by decide +kernel
theorem dX5_read_26 : decode cX5_read 26 = .ok (.invokevirtual 33, 3) := by decide +kernel
theorem dX5_read_29 : decode cX5_read 29 = .ok (.istore_n 3, 1) := by decide +kernel
theorem dX5_read_30 : decode cX5_read 30 = .ok (.aload_n 0, 1) := by decide +kernel
theorem dX5_read_31 : decode cX5_read 31 = .ok (.iload_n 3, 1) := by decide +kernel
theorem dX5_read_32 : decode cX5_read 32 = .ok (.invokevirtual 37, 3) := by decide +kernel
theorem dX5_read_35 : decode cX5_read 35 = .ok (.istore 4, 2) := by decide +kernel
theorem dX5_read_37 : decode cX5_read 37 = .ok (.iload 4, 2) := by decide +kernel
theorem dX5_read_39 : decode cX5_read 39 = .ok (.iconst (-1), 1) := by decide +kernel
theorem dX5_read_40 : decode cX5_read 40 = .ok (.if_icmp .ne 5, 3) := by decide +kernel
theorem dX5_read_43 : decode cX5_read 43 = .ok (.iload_n 3, 1) := by decide +kernel
theorem dX5_read_44 : decode cX5_read 44 = .ok (.ireturn, 1) := by decide +kernel
theorem dX5_read_45 : decode cX5_read 45 = .ok (.aload_n 0, 1) := by decide +kernel
theorem dX5_read_46 : decode cX5_read 46 = .ok (.aload_n 0, 1) := by decide +kernel
theorem dX5_read_47 : decode cX5_read 47 = .ok (.iload_n 3, 1) := by decide +kernel
theorem dX5_read_48 : decode cX5_read 48 = .ok (.invokevirtual 40, 3) := by decide +kernel
theorem dX5_read_51 : decode cX5_read 51 = .ok (.invokevirtual 33, 3) := by decide +kernel
theorem dX5_read_54 : decode cX5_read 54 = .ok (.istore 5, 2) := by decide +kernel
theorem dX5_read_56 : decode cX5_read 56 = .ok (.aload_n 0, 1) := by decide +kernel
theorem dX5_read_57 : decode cX5_read 57 = .ok (.iload 5, 2) := by decide +kernel
theorem dX5_read_59 : decode cX5_read 59 = .ok (.invokevirtual 43, 3) := by decide +kernel
theorem dX5_read_62 : decode cX5_read 62 = .ok (.istore 6, 2) := by decide +kernel
theorem dX5_read_64 : decode cX5_read 64 = .ok (.iload 6, 2) := by decide +kernel
theorem dX5_read_66 : decode cX5_read 66 = .ok (.getstatic 46, 3) := by decide +kernel
theorem dX5_read_69 : decode cX5_read 69 = .ok (.iload 4, 2) := by decide +kernel
theorem dX5_read_71 : decode cX5_read 71 = .ok (.iaload, 1) := by decide +kernel
theorem dX5_read_72 : decode cX5_read 72 = .ok (.getstatic 49, 3) := by decide +kernel
theorem dX5_read_75 : decode cX5_read 75 = .ok (.iload 4, 2) := by decide +kernel
theorem dX5_read_77 : decode cX5_read 77 = .ok (.iaload, 1) := by decide +kernel
theorem dX5_read_78 : decode cX5_read 78 = .ok (.invokestatic 52, 3) := by decide +kernel
theorem dX5_read_81 : decode cX5_read 81 = .ok (.ifCond .ne 6, 3) := by decide +kernel
theorem dX5_read_84 : decode cX5_read 84 = .ok (.iload 5, 2) := by decide +kernel
theorem dX5_read_86 : decode cX5_read 86 = .ok (.ireturn, 1) := by decide +kernel
theorem dX5_read_87 : decode cX5_read 87 = .ok (.aload_n 0, 1) := by decide +kernel
theorem dX5_read_88 : decode cX5_read 88 = .ok (.getfield 15, 3) := by decide +kernel
theorem dX5_read_91 : decode cX5_read 91 = .ok (.iload 4, 2) := by decide +kernel
theorem dX5_read_93 : decode cX5_read 93 = .ok (.iload 6, 2) := by decide +kernel
theorem dX5_read_95 : decode cX5_read 95 = .ok (.iastore, 1) := by decide +kernel
theorem dX5_read_96 : decode cX5_read 96 = .ok (.aload_n 0, 1) := by decide +kernel
theorem dX5_read_97 : decode cX5_read 97 = .ok (.iload_n 2, 1) := by decide +kernel
theorem dX5_read_98 : decode cX5_read 98 = .ok (.putfield 56, 3) := by decide +kernel
theorem dX5_read_101 : decode cX5_read 101 = .ok (.aload_n 0, 1) := by decide +kernel
theorem dX5_read_102 : decode cX5_read 102 = .ok (.aload_n 0, 1) := by decide +kernel
theorem dX5_read_103 : decode cX5_read 103 = .ok (.iload 5, 2) := by decide +kernel
theorem dX5_read_105 : decode cX5_read 105 = .ok (.invokevirtual 40, 3) := by decide +kernel
theorem dX5_read_108 : decode cX5_read 108 = .ok (.invokevirtual 33, 3) := by decide +kernel
theorem dX5_read_111 : decode cX5_read 111 = .ok (.istore_n 1, 1) := by decide +kernel
theorem dX5_read_112 : decode cX5_read 112 = .ok (.iload_n 1, 1) := by decide +kernel
theorem dX5_read_113 : decode cX5_read 113 = .ok (.aload_n 0, 1) := by decide +kernel
theorem dX5_read_114 : decode cX5_read 114 = .ok (.getfield 18, 3) := by decide +kernel
theorem dX5_read_117 : decode cX5_read 117 = .ok (.if_icmp .lt 5, 3) := by decide +kernel
theorem dX5_read_120 : decode cX5_read 120 = .ok (.iconst (-1), 1) := by decide +kernel
theorem dX5_read_121 : decode cX5_read 121 = .ok (.ireturn, 1) := by decide +kernel
theorem dX5_read_122 : decode cX5_read 122 = .ok (.aload_n 0, 1) := by decide +kernel
theorem dX5_read_123 : decode cX5_read 123 = .ok (.getfield 11, 3) := by decide +kernel
theorem dX5_read_126 : decode cX5_read 126 = .ok (.iload_n 1, 1) := by decide +kernel
theorem dX5_read_127 : decode cX5_read 127 = .ok (.iaload, 1) := by decide +kernel
theorem dX5_read_128 : decode cX5_read 128 = .ok (.bipush 59, 2) := by decide +kernel
theorem dX5_read_130 : decode cX5_read 130 = .ok (.if_icmp .ne 9, 3) := by decide +kernel
theorem dX5_read_133 : decode cX5_read 133 = .ok (.iload_n 2, 1) := by decide +kernel
theorem dX5_read_134 : decode cX5_read 134 = .ok (.bipush 8, 2) := by decide +kernel
theorem dX5_read_136 : decode cX5_read 136 = .ok (.if_icmp .ne 5, 3) := by decide +kernel
theorem dX5_read_139 : decode cX5_read 139 = .ok (.iload_n 1, 1) := by decide +kernel
theorem dX5_read_140 : decode cX5_read 140 = .ok (.ireturn, 1) := by decide +kernel
theorem dX5_read_141 : decode cX5_read 141 = .ok (.iinc 1 1, 3) := by decide +kernel
theorem dX5_read_144 : decode cX5_read 144 = .ok (.iinc 2 1, 3) := by decide +kernel
theorem dX5_read_147 : decode cX5_read 147 = .ok (.goto (-129), 3) := by decide +kernel
theorem dX5_read_150 : decode cX5_read 150 = .ok (.iload_n 1, 1) := by decide +kernel
theorem dX5_read_151 : decode cX5_read 151 = .ok (.ireturn, 1) := by decide +kernel
theorem dX5_behindBlanks_0 : decode cX5_behindBlanks 0 = .ok (.iload_n 1, 1) := by decide +kernel
theorem dX5_behindBlanks_1 : decode cX5_behindBlanks 1 = .ok (.istore_n 2, 1) := by decide +kernel
theorem dX5_behindBlanks_2 : decode cX5_behindBlanks 2 = .ok (.iload_n 2, 1) := by decide +kernel
theorem dX5_behindBlanks_3 : decode cX5_behindBlanks 3 = .ok (.aload_n 0, 1) := by decide +kernel
theorem dX5_behindBlanks_4 : decode cX5_behindBlanks 4 = .ok (.getfield 18, 3) := by decide +kernel
theorem dX5_behindBlanks_7 : decode cX5_behindBlanks 7 = .ok (.if_icmp .ge 20, 3) := by decide +kernel
theorem dX5_behindBlanks_10 : decode cX5_behindBlanks 10 = .ok (.aload_n 0, 1) := by decide +kernel
theorem dX5_behindBlanks_11 : decode cX5_behindBlanks 11 = .ok (.getfield 11, 3) := by decide +kernel
theorem dX5_behindBlanks_14 : decode cX5_behindBlanks 14 = .ok (.iload_n 2, 1) := by decide +kernel
theorem dX5_behindBlanks_15 : decode cX5_behindBlanks 15 = .ok (.iaload, 1) := by decide +kernel
theorem dX5_behindBlanks_16 : decode cX5_behindBlanks 16 = .ok (.bipush 32, 2) := by decide +kernel
theorem dX5_behindBlanks_18 : decode cX5_behindBlanks 18 = .ok (.if_icmp .ne 9, 3) := by decide +kernel
theorem dX5_behindBlanks_21 : decode cX5_behindBlanks 21 = .ok (.iinc 2 1, 3) := by decide +kernel
theorem dX5_behindBlanks_24 : decode cX5_behindBlanks 24 = .ok (.goto (-22), 3) := by decide +kernel
theorem dX5_behindBlanks_27 : decode cX5_behindBlanks 27 = .ok (.iload_n 2, 1) := by decide +kernel
theorem dX5_behindBlanks_28 : decode cX5_behindBlanks 28 = .ok (.ireturn, 1) := by decide +kernel
theorem dX5_tokenEnd_0 : decode cX5_tokenEnd 0 = .ok (.iload_n 1, 1) := by decide +kernel
theorem dX5_tokenEnd_1 : decode cX5_tokenEnd 1 = .ok (.aload_n 0, 1) := by decide +kernel
theorem dX5_tokenEnd_2 : decode cX5_tokenEnd 2 = .ok (.getfield 18, 3) := by decide +kernel
theorem dX5_tokenEnd_5 : decode cX5_tokenEnd 5 = .ok (.if_icmp .lt 8, 3) := by decide +kernel
theorem dX5_tokenEnd_8 : decode cX5_tokenEnd 8 = .ok (.aload_n 0, 1) := by decide +kernel
theorem dX5_tokenEnd_9 : decode cX5_tokenEnd 9 = .ok (.getfield 18, 3) := by decide +kernel
theorem dX5_tokenEnd_12 : decode cX5_tokenEnd 12 = .ok (.ireturn, 1) := by decide +kernel
theorem dX5_tokenEnd_13 : decode cX5_tokenEnd 13 = .ok (.aload_n 0, 1) := by decide +kernel
theorem dX5_tokenEnd_14 : decode cX5_tokenEnd 14 = .ok (.getfield 11, 3) := by decide +kernel
theorem dX5_tokenEnd_17 : decode cX5_tokenEnd 17 = .ok (.iload_n 1, 1) := by decide +kernel
theorem dX5_tokenEnd_18 : decode cX5_tokenEnd 18 = .ok (.iaload, 1) := by decide +kernel
theorem dX5_tokenEnd_19 : decode cX5_tokenEnd 19 = .ok (.invokestatic 59, 3) := by decide +kernel
theorem dX5_tokenEnd_22 : decode cX5_tokenEnd 22 = .ok (.istore_n 2, 1) := by decide +kernel
theorem dX5_tokenEnd_23 : decode cX5_tokenEnd 23 = .ok (.aload_n 0, 1) := by decide +kernel
theorem dX5_tokenEnd_24 : decode cX5_tokenEnd 24 = .ok (.getfield 11, 3) := by decide +kernel
theorem dX5_tokenEnd_27 : decode cX5_tokenEnd 27 = .ok (.iload_n 1, 1) := by decide +kernel
theorem dX5_tokenEnd_28 : decode cX5_tokenEnd 28 = .ok (.iaload, 1) := by decide +kernel
theorem dX5_tokenEnd_29 : decode cX5_tokenEnd 29 = .ok (.invokestatic 63, 3) := by decide +kernel
theorem dX5_tokenEnd_32 : decode cX5_tokenEnd 32 = .ok (.istore_n 3, 1) := by decide +kernel
theorem dX5_tokenEnd_33 : decode cX5_tokenEnd 33 = .ok (.iload_n 1, 1) := by decide +kernel
theorem dX5_tokenEnd_34 : decode cX5_tokenEnd 34 = .ok (.iconst 1, 1) := by decide +kernel
theorem dX5_tokenEnd_35 : decode cX5_tokenEnd 35 = .ok (.iadd, 1) := by decide +kernel
theorem dX5_tokenEnd_36 : decode cX5_tokenEnd 36 = .ok (.istore 4, 2) := by decide +kernel
theorem dX5_tokenEnd_38 : decode cX5_tokenEnd 38 = .ok (.iload 4, 2) := by decide +kernel
theorem dX5_tokenEnd_40 : decode cX5_tokenEnd 40 = .ok (.aload_n 0, 1) := by decide +kernel
theorem dX5_tokenEnd_41 : decode cX5_tokenEnd 41 = .ok (.getfield 18, 3) := by decide +kernel
theorem dX5_tokenEnd_44 : decode cX5_tokenEnd 44 = .ok (.if_icmp .ge 43, 3) := by decide +kernel
theorem dX5_tokenEnd_47 : decode cX5_tokenEnd 47 = .ok (.iload_n 2, 1) := by decide +kernel
theorem dX5_tokenEnd_48 : decode cX5_tokenEnd 48 = .ok (.ifCond .eq 16, 3) := by decide +kernel
theorem dX5_tokenEnd_51 : decode cX5_tokenEnd 51 = .ok (.aload_n 0, 1) := by decide +kernel
theorem dX5_tokenEnd_52 : decode cX5_tokenEnd 52 = .ok (.getfield 11, 3) := by decide +kernel
theorem dX5_tokenEnd_55 : decode cX5_tokenEnd 55 = .ok (.iload 4, 2) := by decide +kernel
theorem dX5_tokenEnd_57 : decode cX5_tokenEnd 57 = .ok (.iaload, 1) := by decide +kernel
theorem dX5_tokenEnd_58 : decode cX5_tokenEnd 58 = .ok (.invokestatic 59, 3) := by decide +kernel
theorem dX5_tokenEnd_61 : decode cX5_tokenEnd 61 = .ok (.ifCond .ne 20, 3) := by decide +kernel
theorem dX5_tokenEnd_64 : decode cX5_tokenEnd 64 = .ok (.iload_n 3, 1) := by decide +kernel
theorem dX5_tokenEnd_65 : decode cX5_tokenEnd 65 = .ok (.ifCond .eq 22, 3) := by decide +kernel
theorem dX5_tokenEnd_68 : decode cX5_tokenEnd 68 = .ok (.aload_n 0, 1) := by decide +kernel
theorem dX5_tokenEnd_69 : decode cX5_tokenEnd 69 = .ok (.getfield 11, 3) := by decide +kernel
theorem dX5_tokenEnd_72 : decode cX5_tokenEnd 72 = .ok (.iload 4, 2) := by decide +kernel
theorem dX5_tokenEnd_74 : decode cX5_tokenEnd 74 = .ok (.iaload, 1) := by decide +kernel
theorem dX5_tokenEnd_75 : decode cX5_tokenEnd 75 = .ok (.invokestatic 63, 3) := by decide +kernel
theorem dX5_tokenEnd_78 : decode cX5_tokenEnd 78 = .ok (.ifCond .eq 9, 3) := by decide +kernel
theorem dX5_tokenEnd_81 : decode cX5_tokenEnd 81 = .ok (.iinc 4 1, 3) := by decide +kernel
theorem dX5_tokenEnd_84 : decode cX5_tokenEnd 84 = .ok (.goto (-46), 3) := by decide +kernel
theorem dX5_tokenEnd_87 : decode cX5_tokenEnd 87 = .ok (.iload 4, 2) := by decide +kernel
theorem dX5_tokenEnd_89 : decode cX5_tokenEnd 89 = .ok (.ireturn, 1) := by decide +kernel
theorem dX5_wordAt_0 : decode cX5_wordAt 0 = .ok (.aload_n 0, 1) := by decide +kernel
theorem dX5_wordAt_1 : decode cX5_wordAt 1 = .ok (.iload_n 1, 1) := by decide +kernel
theorem dX5_wordAt_2 : decode cX5_wordAt 2 = .ok (.invokevirtual 40, 3) := by decide +kernel
theorem dX5_wordAt_5 : decode cX5_wordAt 5 = .ok (.istore_n 2, 1) := by decide +kernel
theorem dX5_wordAt_6 : decode cX5_wordAt 6 = .ok (.iconst 0, 1) := by decide +kernel
theorem dX5_wordAt_7 : decode cX5_wordAt 7 = .ok (.istore_n 3, 1) := by decide +kernel
theorem dX5_wordAt_8 : decode cX5_wordAt 8 = .ok (.iload_n 3, 1) := by decide +kernel
theorem dX5_wordAt_9 : decode cX5_wordAt 9 = .ok (.bipush 6, 2) := by decide +kernel
theorem dX5_wordAt_11 : decode cX5_wordAt 11 = .ok (.if_icmp .ge 24, 3) := by decide +kernel
theorem dX5_wordAt_14 : decode cX5_wordAt 14 = .ok (.aload_n 0, 1) := by decide +kernel
theorem dX5_wordAt_15 : decode cX5_wordAt 15 = .ok (.iload_n 1, 1) := by decide +kernel
theorem dX5_wordAt_16 : decode cX5_wordAt 16 = .ok (.iload_n 2, 1) := by decide +kernel
theorem dX5_wordAt_17 : decode cX5_wordAt 17 = .ok (.iload_n 3, 1) := by decide +kernel
theorem dX5_wordAt_18 : decode cX5_wordAt 18 = .ok (.invokestatic 66, 3) := by decide +kernel
theorem dX5_wordAt_21 : decode cX5_wordAt 21 = .ok (.invokevirtual 70, 3) := by decide +kernel
theorem dX5_wordAt_24 : decode cX5_wordAt 24 = .ok (.ifCond .eq 5, 3) := by decide +kernel
theorem dX5_wordAt_27 : decode cX5_wordAt 27 = .ok (.iload_n 3, 1) := by decide +kernel
theorem dX5_wordAt_28 : decode cX5_wordAt 28 = .ok (.ireturn, 1) := by decide +kernel
theorem dX5_wordAt_29 : decode cX5_wordAt 29 = .ok (.iinc 3 1, 3) := by decide +kernel
theorem dX5_wordAt_32 : decode cX5_wordAt 32 = .ok (.goto (-24), 3) := by decide +kernel
theorem dX5_wordAt_35 : decode cX5_wordAt 35 = .ok (.iconst (-1), 1) := by decide +kernel
theorem dX5_wordAt_36 : decode cX5_wordAt 36 = .ok (.ireturn, 1) := by decide +kernel
theorem dX5_isSpelt_0 : decode cX5_isSpelt 0 = .ok (.iload_n 2, 1) := by decide +kernel
theorem dX5_isSpelt_1 : decode cX5_isSpelt 1 = .ok (.iload_n 1, 1) := by decide +kernel
theorem dX5_isSpelt_2 : decode cX5_isSpelt 2 = .ok (.isub, 1) := by decide +kernel
theorem dX5_isSpelt_3 : decode cX5_isSpelt 3 = .ok (.aload_n 3, 1) := by decide +kernel
theorem dX5_isSpelt_4 : decode cX5_isSpelt 4 = .ok (.invokevirtual 74, 3) := by decide +kernel
theorem dX5_isSpelt_7 : decode cX5_isSpelt 7 = .ok (.if_icmp .eq 5, 3) := by decide +kernel
theorem dX5_isSpelt_10 : decode cX5_isSpelt 10 = .ok (.iconst 0, 1) := by decide +kernel
theorem dX5_isSpelt_11 : decode cX5_isSpelt 11 = .ok (.ireturn, 1) := by decide +kernel
theorem dX5_isSpelt_12 : decode cX5_isSpelt 12 = .ok (.iconst 0, 1) := by decide +kernel
theorem dX5_isSpelt_13 : decode cX5_isSpelt 13 = .ok (.istore 4, 2) := by decide +kernel
theorem dX5_isSpelt_15 : decode cX5_isSpelt 15 = .ok (.iload 4, 2) := by decide +kernel
theorem dX5_isSpelt_17 : decode cX5_isSpelt 17 = .ok (.aload_n 3, 1) := by decide +kernel
theorem dX5_isSpelt_18 : decode cX5_isSpelt 18 = .ok (.invokevirtual 74, 3) := by decide +kernel
theorem dX5_isSpelt_21 : decode cX5_isSpelt 21 = .ok (.if_icmp .ge 29, 3) := by decide +kernel
theorem dX5_isSpelt_24 : decode cX5_isSpelt 24 = .ok (.aload_n 0, 1) := by decide +kernel
theorem dX5_isSpelt_25 : decode cX5_isSpelt 25 = .ok (.getfield 11, 3) := by decide +kernel
theorem dX5_isSpelt_28 : decode cX5_isSpelt 28 = .ok (.iload_n 1, 1) := by decide +kernel
theorem dX5_isSpelt_29 : decode cX5_isSpelt 29 = .ok (.iload 4, 2) := by decide +kernel
theorem dX5_isSpelt_31 : decode cX5_isSpelt 31 = .ok (.iadd, 1) := by decide +kernel
theorem dX5_isSpelt_32 : decode cX5_isSpelt 32 = .ok (.iaload, 1) := by decide +kernel
theorem dX5_isSpelt_33 : decode cX5_isSpelt 33 = .ok (.aload_n 3, 1) := by decide +kernel
theorem dX5_isSpelt_34 : decode cX5_isSpelt 34 = .ok (.iload 4, 2) := by decide +kernel
theorem dX5_isSpelt_36 : decode cX5_isSpelt 36 = .ok (.invokevirtual 79, 3) := by decide +kernel
theorem dX5_isSpelt_39 : decode cX5_isSpelt 39 = .ok (.if_icmp .eq 5, 3) := by decide +kernel
theorem dX5_isSpelt_42 : decode cX5_isSpelt 42 = .ok (.iconst 0, 1) := by decide +kernel
theorem dX5_isSpelt_43 : decode cX5_isSpelt 43 = .ok (.ireturn, 1) := by decide +kernel
theorem dX5_isSpelt_44 : decode cX5_isSpelt 44 = .ok (.iinc 4 1, 3) := by decide +kernel
theorem dX5_isSpelt_47 : decode cX5_isSpelt 47 = .ok (.goto (-32), 3) := by decide +kernel
theorem dX5_isSpelt_50 : decode cX5_isSpelt 50 = .ok (.iconst 1, 1) := by decide +kernel
theorem dX5_isSpelt_51 : decode cX5_isSpelt 51 = .ok (.ireturn, 1) := by decide +kernel
theorem dX5_numberAt_0 : decode cX5_numberAt 0 = .ok (.aload_n 0, 1) := by decide +kernel
theorem dX5_numberAt_1 : decode cX5_numberAt 1 = .ok (.iload_n 1, 1) := by decide +kernel
theorem dX5_numberAt_2 : decode cX5_numberAt 2 = .ok (.invokevirtual 40, 3) := by decide +kernel
theorem dX5_numberAt_5 : decode cX5_numberAt 5 = .ok (.istore_n 2, 1) := by decide +kernel
theorem dX5_numberAt_6 : decode cX5_numberAt 6 = .ok (.iload_n 1, 1) := by decide +kernel
theorem dX5_numberAt_7 : decode cX5_numberAt 7 = .ok (.aload_n 0, 1) := by decide +kernel
theorem dX5_numberAt_8 : decode cX5_numberAt 8 = .ok (.getfield 18, 3) := by decide +kernel
theorem dX5_numberAt_11 : decode cX5_numberAt 11 = .ok (.if_icmp .ge 22, 3) := by decide +kernel
theorem dX5_numberAt_14 : decode cX5_numberAt 14 = .ok (.aload_n 0, 1) := by decide +kernel
theorem dX5_numberAt_15 : decode cX5_numberAt 15 = .ok (.getfield 11, 3) := by decide +kernel
theorem dX5_numberAt_18 : decode cX5_numberAt 18 = .ok (.iload_n 1, 1) := by decide +kernel
theorem dX5_numberAt_19 : decode cX5_numberAt 19 = .ok (.iaload, 1) := by decide +kernel
theorem dX5_numberAt_20 : decode cX5_numberAt 20 = .ok (.invokestatic 63, 3) := by decide +kernel
theorem dX5_numberAt_23 : decode cX5_numberAt 23 = .ok (.ifCond .eq 10, 3) := by decide +kernel
theorem dX5_numberAt_26 : decode cX5_numberAt 26 = .ok (.iload_n 2, 1) := by decide +kernel
theorem dX5_numberAt_27 : decode cX5_numberAt 27 = .ok (.iload_n 1, 1) := by decide +kernel
theorem dX5_numberAt_28 : decode cX5_numberAt 28 = .ok (.isub, 1) := by decide +kernel
theorem dX5_numberAt_29 : decode cX5_numberAt 29 = .ok (.iconst 3, 1) := by decide +kernel
theorem dX5_numberAt_30 : decode cX5_numberAt 30 = .ok (.if_icmp .le 5, 3) := by decide +kernel
theorem dX5_numberAt_33 : decode cX5_numberAt 33 = .ok (.iconst (-1), 1) := by decide +kernel
theorem dX5_numberAt_34 : decode cX5_numberAt 34 = .ok (.ireturn, 1) := by decide +kernel
theorem dX5_numberAt_35 : decode cX5_numberAt 35 = .ok (.iconst 0, 1) := by decide +kernel
theorem dX5_numberAt_36 : decode cX5_numberAt 36 = .ok (.istore_n 3, 1) := by decide +kernel
theorem dX5_numberAt_37 : decode cX5_numberAt 37 = .ok (.iload_n 1, 1) := by decide +kernel
theorem dX5_numberAt_38 : decode cX5_numberAt 38 = .ok (.istore 4, 2) := by decide +kernel
theorem dX5_numberAt_40 : decode cX5_numberAt 40 = .ok (.iload 4, 2) := by decide +kernel
theorem dX5_numberAt_42 : decode cX5_numberAt 42 = .ok (.iload_n 2, 1) := by decide +kernel
theorem dX5_numberAt_43 : decode cX5_numberAt 43 = .ok (.if_icmp .ge 25, 3) := by decide +kernel
theorem dX5_numberAt_46 : decode cX5_numberAt 46 = .ok (.iload_n 3, 1) := by decide +kernel
theorem dX5_numberAt_47 : decode cX5_numberAt 47 = .ok (.bipush 10, 2) := by decide +kernel
theorem dX5_numberAt_49 : decode cX5_numberAt 49 = .ok (.imul, 1) := by decide +kernel
theorem dX5_numberAt_50 : decode cX5_numberAt 50 = .ok (.aload_n 0, 1) := by decide +kernel
theorem dX5_numberAt_51 : decode cX5_numberAt 51 = .ok (.getfield 11, 3) := by decide +kernel
theorem dX5_numberAt_54 : decode cX5_numberAt 54 = .ok (.iload 4, 2) := by decide +kernel
theorem dX5_numberAt_56 : decode cX5_numberAt 56 = .ok (.iaload, 1) := by decide +kernel
theorem dX5_numberAt_57 : decode cX5_numberAt 57 = .ok (.iadd, 1) := by decide +kernel
theorem dX5_numberAt_58 : decode cX5_numberAt 58 = .ok (.bipush 48, 2) := by decide +kernel
theorem dX5_numberAt_60 : decode cX5_numberAt 60 = .ok (.isub, 1) := by decide +kernel
theorem dX5_numberAt_61 : decode cX5_numberAt 61 = .ok (.istore_n 3, 1) := by decide +kernel
theorem dX5_numberAt_62 : decode cX5_numberAt 62 = .ok (.iinc 4 1, 3) := by decide +kernel
theorem dX5_numberAt_65 : decode cX5_numberAt 65 = .ok (.goto (-25), 3) := by decide +kernel
theorem dX5_numberAt_68 : decode cX5_numberAt 68 = .ok (.iload_n 3, 1) := by decide +kernel
theorem dX5_numberAt_69 : decode cX5_numberAt 69 = .ok (.ireturn, 1) := by decide +kernel
theorem dX5_nameOf_0 : decode cX5_nameOf 0 = .ok (.iload_n 0, 1) := by decide +kernel
theorem dX5_nameOf_1 : decode cX5_nameOf 1 = .ok (.tableswitch 50 0 4 #[35, 38, 41, 44, 47], 35) := by decide +kernel
theorem dX5_nameOf_36 : decode cX5_nameOf 36 = .ok (.ldc 83, 2) := by decide +kernel
theorem dX5_nameOf_38 : decode cX5_nameOf 38 = .ok (.areturn, 1) := by decide +kernel
theorem dX5_nameOf_39 : decode cX5_nameOf 39 = .ok (.ldc 85, 2) := by decide +kernel
theorem dX5_nameOf_41 : decode cX5_nameOf 41 = .ok (.areturn, 1) := by decide +kernel
theorem dX5_nameOf_42 : decode cX5_nameOf 42 = .ok (.ldc 87, 2) := by decide +kernel
theorem dX5_nameOf_44 : decode cX5_nameOf 44 = .ok (.areturn, 1) := by decide +kernel
theorem dX5_nameOf_45 : decode cX5_nameOf 45 = .ok (.ldc 89, 2) := by decide +kernel
theorem dX5_nameOf_47 : decode cX5_nameOf 47 = .ok (.areturn, 1) := by decide +kernel
theorem dX5_nameOf_48 : decode cX5_nameOf 48 = .ok (.ldc 91, 2) := by decide +kernel
theorem dX5_nameOf_50 : decode cX5_nameOf 50 = .ok (.areturn, 1) := by decide +kernel
theorem dX5_nameOf_51 : decode cX5_nameOf 51 = .ok (.ldc 93, 2) := by decide +kernel
theorem dX5_nameOf_53 : decode cX5_nameOf 53 = .ok (.areturn, 1) := by decide +kernel
theorem dX5_isLetter_0 : decode cX5_isLetter 0 = .ok (.iload_n 0, 1) := by decide +kernel
theorem dX5_isLetter_1 : decode cX5_isLetter 1 = .ok (.bipush 97, 2) := by decide +kernel
theorem dX5_isLetter_3 : decode cX5_isLetter 3 = .ok (.if_icmp .lt 13, 3) := by decide +kernel
theorem dX5_isLetter_6 : decode cX5_isLetter 6 = .ok (.iload_n 0, 1) := by decide +kernel
theorem dX5_isLetter_7 : decode cX5_isLetter 7 = .ok (.bipush 122, 2) := by decide +kernel
theorem dX5_isLetter_9 : decode cX5_isLetter 9 = .ok (.if_icmp .gt 7, 3) := by decide +kernel
theorem dX5_isLetter_12 : decode cX5_isLetter 12 = .ok (.iconst 1, 1) := by decide +kernel
theorem dX5_isLetter_13 : decode cX5_isLetter 13 = .ok (.goto 4, 3) := by decide +kernel
theorem dX5_isLetter_16 : decode cX5_isLetter 16 = .ok (.iconst 0, 1) := by decide +kernel
theorem dX5_isLetter_17 : decode cX5_isLetter 17 = .ok (.ireturn, 1) := by decide +kernel
theorem dX5_isDigit_0 : decode cX5_isDigit 0 = .ok (.iload_n 0, 1) := by decide +kernel
theorem dX5_isDigit_1 : decode cX5_isDigit 1 = .ok (.bipush 48, 2) := by decide +kernel
theorem dX5_isDigit_3 : decode cX5_isDigit 3 = .ok (.if_icmp .lt 13, 3) := by decide +kernel
theorem dX5_isDigit_6 : decode cX5_isDigit 6 = .ok (.iload_n 0, 1) := by decide +kernel
theorem dX5_isDigit_7 : decode cX5_isDigit 7 = .ok (.bipush 57, 2) := by decide +kernel
theorem dX5_isDigit_9 : decode cX5_isDigit 9 = .ok (.if_icmp .gt 7, 3) := by decide +kernel
theorem dX5_isDigit_12 : decode cX5_isDigit 12 = .ok (.iconst 1, 1) := by decide +kernel
theorem dX5_isDigit_13 : decode cX5_isDigit 13 = .ok (.goto 4, 3) := by decide +kernel
theorem dX5_isDigit_16 : decode cX5_isDigit 16 = .ok (.iconst 0, 1) := by decide +kernel
theorem dX5_isDigit_17 : decode cX5_isDigit 17 = .ok (.ireturn, 1) := by decide +kernel
theorem dX6_init_0 : decode cX6_init 0 = .ok (.aload_n 0, 1) := by decide +kernel
theorem dX6_init_1 : decode cX6_init 1 = .ok (.invokespecial 3, 3) := by decide +kernel
theorem dX6_init_4 : decode cX6_init 4 = .ok (.aload_n 0, 1) := by decide +kernel
theorem dX6_init_5 : decode cX6_init 5 = .ok (.bipush 24, 2) := by decide +kernel
theorem dX6_init_7 : decode cX6_init 7 = .ok (.newarray .int, 2) := by decide +kernel
theorem dX6_init_9 : decode cX6_init 9 = .ok (.putfield 11, 3) := by decide +kernel
theorem dX6_init_12 : decode cX6_init 12 = .ok (.return_, 1) := by decide +kernel
theorem dX6_add_0 : decode cX6_add 0 = .ok (.aload_n 0, 1) := by decide +kernel
theorem dX6_add_1 : decode cX6_add 1 = .ok (.getfield 15, 3) := by decide +kernel
theorem dX6_add_4 : decode cX6_add 4 = .ok (.bipush 24, 2) := by decide +kernel
theorem dX6_add_6 : decode cX6_add 6 = .ok (.if_icmp .lt 6, 3) := by decide +kernel
theorem dX6_add_9 : decode cX6_add 9 = .ok (.bipush (-5), 2) := by decide +kernel
theorem dX6_add_11 : decode cX6_add 11 = .ok (.ireturn, 1) := by decide +kernel
theorem dX6_add_12 : decode cX6_add 12 = .ok (.aload_n 0, 1) := by decide +kernel
theorem dX6_add_13 : decode cX6_add 13 = .ok (.getfield 11, 3) := by decide +kernel
theorem dX6_add_16 : decode cX6_add 16 = .ok (.aload_n 0, 1) := by decide +kernel
theorem dX6_add_17 : decode cX6_add 17 = .ok (.getfield 15, 3) := by decide +kernel
theorem dX6_add_20 : decode cX6_add 20 = .ok (.iload_n 1, 1) := by decide +kernel
theorem dX6_add_21 : decode cX6_add 21 = .ok (.iastore, 1) := by decide +kernel
theorem dX6_add_22 : decode cX6_add 22 = .ok (.aload_n 0, 1) := by decide +kernel
theorem dX6_add_23 : decode cX6_add 23 = .ok (.dup, 1) := by decide +kernel
theorem dX6_add_24 : decode cX6_add 24 = .ok (.getfield 15, 3) := by decide +kernel
theorem dX6_add_27 : decode cX6_add 27 = .ok (.iconst 1, 1) := by decide +kernel
theorem dX6_add_28 : decode cX6_add 28 = .ok (.iadd, 1) := by decide +kernel
theorem dX6_add_29 : decode cX6_add 29 = .ok (.putfield 15, 3) := by decide +kernel
theorem dX6_add_32 : decode cX6_add 32 = .ok (.aload_n 0, 1) := by decide +kernel
theorem dX6_add_33 : decode cX6_add 33 = .ok (.getfield 15, 3) := by decide +kernel
theorem dX6_add_36 : decode cX6_add 36 = .ok (.ireturn, 1) := by decide +kernel
theorem dX6_yawOf_0 : decode cX6_yawOf 0 = .ok (.aload_n 0, 1) := by decide +kernel
theorem dX6_yawOf_1 : decode cX6_yawOf 1 = .ok (.getfield 15, 3) := by decide +kernel
theorem dX6_yawOf_4 : decode cX6_yawOf 4 = .ok (.iconst 1, 1) := by decide +kernel
theorem dX6_yawOf_5 : decode cX6_yawOf 5 = .ok (.if_icmp .ge 7, 3) := by decide +kernel
theorem dX6_yawOf_8 : decode cX6_yawOf 8 = .ok (.iconst 0, 1) := by decide +kernel
theorem dX6_yawOf_9 : decode cX6_yawOf 9 = .ok (.goto 16, 3) := by decide +kernel
theorem dX6_yawOf_12 : decode cX6_yawOf 12 = .ok (.aload_n 0, 1) := by decide +kernel
theorem dX6_yawOf_13 : decode cX6_yawOf 13 = .ok (.getfield 11, 3) := by decide +kernel
theorem dX6_yawOf_16 : decode cX6_yawOf 16 = .ok (.iload_n 1, 1) := by decide +kernel
theorem dX6_yawOf_17 : decode cX6_yawOf 17 = .ok (.aload_n 0, 1) := by decide +kernel
theorem dX6_yawOf_18 : decode cX6_yawOf 18 = .ok (.getfield 15, 3) := by decide +kernel
theorem dX6_yawOf_21 : decode cX6_yawOf 21 = .ok (.invokestatic 19, 3) := by decide +kernel
theorem dX6_yawOf_24 : decode cX6_yawOf 24 = .ok (.iaload, 1) := by decide +kernel
theorem dX6_yawOf_25 : decode cX6_yawOf 25 = .ok (.ireturn, 1) := by decide +kernel
theorem dX7_init_0 : decode cX7_init 0 = .ok (.aload_n 0, 1) := by decide +kernel
theorem dX7_init_1 : decode cX7_init 1 = .ok (.invokespecial 3, 3) := by decide +kernel
theorem dX7_init_4 : decode cX7_init 4 = .ok (.aload_n 0, 1) := by decide +kernel
theorem dX7_init_5 : decode cX7_init 5 = .ok (.bipush 20, 2) := by decide +kernel
theorem dX7_init_7 : decode cX7_init 7 = .ok (.putfield 9, 3) := by decide +kernel
theorem dX7_init_10 : decode cX7_init 10 = .ok (.aload_n 0, 1) := by decide +kernel
theorem dX7_init_11 : decode cX7_init 11 = .ok (.aload_n 1, 1) := by decide +kernel
theorem dX7_init_12 : decode cX7_init 12 = .ok (.putfield 15, 3) := by decide +kernel
theorem dX7_init_15 : decode cX7_init 15 = .ok (.aload_n 0, 1) := by decide +kernel
theorem dX7_init_16 : decode cX7_init 16 = .ok (.aload_n 2, 1) := by decide +kernel
theorem dX7_init_17 : decode cX7_init 17 = .ok (.putfield 19, 3) := by decide +kernel
theorem dX7_init_20 : decode cX7_init 20 = .ok (.aload_n 0, 1) := by decide +kernel
theorem dX7_init_21 : decode cX7_init 21 = .ok (.iconst 3, 1) := by decide +kernel
theorem dX7_init_22 : decode cX7_init 22 = .ok (.anewarray 23, 3) := by decide +kernel
theorem dX7_init_25 : decode cX7_init 25 = .ok (.putfield 25, 3) := by decide +kernel
theorem dX7_init_28 : decode cX7_init 28 = .ok (.iconst 0, 1) := by decide +kernel
theorem dX7_init_29 : decode cX7_init 29 = .ok (.istore_n 3, 1) := by decide +kernel
theorem dX7_init_30 : decode cX7_init 30 = .ok (.iload_n 3, 1) := by decide +kernel
theorem dX7_init_31 : decode cX7_init 31 = .ok (.iconst 3, 1) := by decide +kernel
theorem dX7_init_32 : decode cX7_init 32 = .ok (.if_icmp .ge 22, 3) := by decide +kernel
theorem dX7_init_35 : decode cX7_init 35 = .ok (.aload_n 0, 1) := by decide +kernel
theorem dX7_init_36 : decode cX7_init 36 = .ok (.getfield 25, 3) := by decide +kernel
theorem dX7_init_39 : decode cX7_init 39 = .ok (.iload_n 3, 1) := by decide +kernel
theorem dX7_init_40 : decode cX7_init 40 = .ok (.new 23, 3) := by decide +kernel
theorem dX7_init_43 : decode cX7_init 43 = .ok (.dup, 1) := by decide +kernel
theorem dX7_init_44 : decode cX7_init 44 = .ok (.invokespecial 29, 3) := by decide +kernel
theorem dX7_init_47 : decode cX7_init 47 = .ok (.aastore, 1) := by decide +kernel
theorem dX7_init_48 : decode cX7_init 48 = .ok (.iinc 3 1, 3) := by decide +kernel
theorem dX7_init_51 : decode cX7_init 51 = .ok (.goto (-21), 3) := by decide +kernel
theorem dX7_init_54 : decode cX7_init 54 = .ok (.return_, 1) := by decide +kernel
theorem dX7_copyFrom_0 : decode cX7_copyFrom 0 = .ok (.aload_n 0, 1) := by decide +kernel
theorem dX7_copyFrom_1 : decode cX7_copyFrom 1 = .ok (.aload_n 1, 1) := by decide +kernel
theorem dX7_copyFrom_2 : decode cX7_copyFrom 2 = .ok (.getfield 30, 3) := by decide +kernel
theorem dX7_copyFrom_5 : decode cX7_copyFrom 5 = .ok (.putfield 30, 3) := by decide +kernel
theorem dX7_copyFrom_8 : decode cX7_copyFrom 8 = .ok (.aload_n 0, 1) := by decide +kernel
theorem dX7_copyFrom_9 : decode cX7_copyFrom 9 = .ok (.aload_n 1, 1) := by decide +kernel
theorem dX7_copyFrom_10 : decode cX7_copyFrom 10 = .ok (.getfield 33, 3) := by decide +kernel
theorem dX7_copyFrom_13 : decode cX7_copyFrom 13 = .ok (.putfield 33, 3) := by decide +kernel
theorem dX7_copyFrom_16 : decode cX7_copyFrom 16 = .ok (.aload_n 0, 1) := by decide +kernel
theorem dX7_copyFrom_17 : decode cX7_copyFrom 17 = .ok (.aload_n 1, 1) := by decide +kernel
theorem dX7_copyFrom_18 : decode cX7_copyFrom 18 = .ok (.getfield 36, 3) := by decide +kernel
theorem dX7_copyFrom_21 : decode cX7_copyFrom 21 = .ok (.putfield 36, 3) := by decide +kernel
theorem dX7_copyFrom_24 : decode cX7_copyFrom 24 = .ok (.aload_n 0, 1) := by decide +kernel
theorem dX7_copyFrom_25 : decode cX7_copyFrom 25 = .ok (.aload_n 1, 1) := by decide +kernel
theorem dX7_copyFrom_26 : decode cX7_copyFrom 26 = .ok (.getfield 39, 3) := by decide +kernel
theorem dX7_copyFrom_29 : decode cX7_copyFrom 29 = .ok (.putfield 39, 3) := by decide +kernel
theorem dX7_copyFrom_32 : decode cX7_copyFrom 32 = .ok (.aload_n 0, 1) := by decide +kernel
theorem dX7_copyFrom_33 : decode cX7_copyFrom 33 = .ok (.aload_n 1, 1) := by decide +kernel
theorem dX7_copyFrom_34 : decode cX7_copyFrom 34 = .ok (.getfield 9, 3) := by decide +kernel
theorem dX7_copyFrom_37 : decode cX7_copyFrom 37 = .ok (.putfield 9, 3) := by decide +kernel
theorem dX7_copyFrom_40 : decode cX7_copyFrom 40 = .ok (.aload_n 0, 1) := by decide +kernel
theorem dX7_copyFrom_41 : decode cX7_copyFrom 41 = .ok (.aload_n 1, 1) := by decide +kernel
theorem dX7_copyFrom_42 : decode cX7_copyFrom 42 = .ok (.getfield 42, 3) := by decide +kernel
theorem dX7_copyFrom_45 : decode cX7_copyFrom 45 = .ok (.putfield 42, 3) := by decide +kernel
theorem dX7_copyFrom_48 : decode cX7_copyFrom 48 = .ok (.iconst 0, 1) := by decide +kernel
theorem dX7_copyFrom_49 : decode cX7_copyFrom 49 = .ok (.istore_n 2, 1) := by decide +kernel
theorem dX7_copyFrom_50 : decode cX7_copyFrom 50 = .ok (.iload_n 2, 1) := by decide +kernel
theorem dX7_copyFrom_51 : decode cX7_copyFrom 51 = .ok (.iconst 3, 1) := by decide +kernel
theorem dX7_copyFrom_52 : decode cX7_copyFrom 52 = .ok (.if_icmp .ge 24, 3) := by decide +kernel
theorem dX7_copyFrom_55 : decode cX7_copyFrom 55 = .ok (.aload_n 0, 1) := by decide +kernel
theorem dX7_copyFrom_56 : decode cX7_copyFrom 56 = .ok (.getfield 25, 3) := by decide +kernel
theorem dX7_copyFrom_59 : decode cX7_copyFrom 59 = .ok (.iload_n 2, 1) := by decide +kernel
theorem dX7_copyFrom_60 : decode cX7_copyFrom 60 = .ok (.aaload, 1) := by decide +kernel
theorem dX7_copyFrom_61 : decode cX7_copyFrom 61 = .ok (.aload_n 1, 1) := by decide +kernel
theorem dX7_copyFrom_62 : decode cX7_copyFrom 62 = .ok (.getfield 25, 3) := by decide +kernel
theorem dX7_copyFrom_65 : decode cX7_copyFrom 65 = .ok (.iload_n 2, 1) := by decide +kernel
theorem dX7_copyFrom_66 : decode cX7_copyFrom 66 = .ok (.aaload, 1) := by decide +kernel
theorem dX7_copyFrom_67 : decode cX7_copyFrom 67 = .ok (.invokevirtual 45, 3) := by decide +kernel
theorem dX7_copyFrom_70 : decode cX7_copyFrom 70 = .ok (.iinc 2 1, 3) := by decide +kernel
theorem dX7_copyFrom_73 : decode cX7_copyFrom 73 = .ok (.goto (-23), 3) := by decide +kernel
theorem dX7_copyFrom_76 : decode cX7_copyFrom 76 = .ok (.return_, 1) := by decide +kernel
theorem dX7_stopAllBut_0 : decode cX7_stopAllBut 0 = .ok (.iconst 0, 1) := by decide +kernel
theorem dX7_stopAllBut_1 : decode cX7_stopAllBut 1 = .ok (.istore_n 2, 1) := by decide +kernel
theorem dX7_stopAllBut_2 : decode cX7_stopAllBut 2 = .ok (.iload_n 2, 1) := by decide +kernel
theorem dX7_stopAllBut_3 : decode cX7_stopAllBut 3 = .ok (.iconst 3, 1) := by decide +kernel
theorem dX7_stopAllBut_4 : decode cX7_stopAllBut 4 = .ok (.if_icmp .ge 24, 3) := by decide +kernel
theorem dX7_stopAllBut_7 : decode cX7_stopAllBut 7 = .ok (.iload_n 2, 1) := by decide +kernel
theorem dX7_stopAllBut_8 : decode cX7_stopAllBut 8 = .ok (.iload_n 1, 1) := by decide +kernel
theorem dX7_stopAllBut_9 : decode cX7_stopAllBut 9 = .ok (.if_icmp .eq 13, 3) := by decide +kernel
theorem dX7_stopAllBut_12 : decode cX7_stopAllBut 12 = .ok (.aload_n 0, 1) := by decide +kernel
theorem dX7_stopAllBut_13 : decode cX7_stopAllBut 13 = .ok (.getfield 25, 3) := by decide +kernel
theorem dX7_stopAllBut_16 : decode cX7_stopAllBut 16 = .ok (.iload_n 2, 1) := by decide +kernel
theorem dX7_stopAllBut_17 : decode cX7_stopAllBut 17 = .ok (.aaload, 1) := by decide +kernel
theorem dX7_stopAllBut_18 : decode cX7_stopAllBut 18 = .ok (.iconst 0, 1) := by decide +kernel
theorem dX7_stopAllBut_19 : decode cX7_stopAllBut 19 = .ok (.putfield 49, 3) := by decide +kernel
theorem dX7_stopAllBut_22 : decode cX7_stopAllBut 22 = .ok (.iinc 2 1, 3) := by decide +kernel
theorem dX7_stopAllBut_25 : decode cX7_stopAllBut 25 = .ok (.goto (-23), 3) := by decide +kernel
theorem dX7_stopAllBut_28 : decode cX7_stopAllBut 28 = .ok (.return_, 1) := by decide +kernel
theorem dX7_pointerAt_0 : decode cX7_pointerAt 0 = .ok (.iload_n 1, 1) := by decide +kernel
theorem dX7_pointerAt_1 : decode cX7_pointerAt 1 = .ok (.iconst 0, 1) := by decide +kernel
theorem dX7_pointerAt_2 : decode cX7_pointerAt 2 = .ok (.iconst 2, 1) := by decide +kernel
theorem dX7_pointerAt_3 : decode cX7_pointerAt 3 = .ok (.invokestatic 52, 3) := by decide +kernel
theorem dX7_pointerAt_6 : decode cX7_pointerAt 6 = .ok (.ifCond .eq 12, 3) := by decide +kernel
theorem dX7_pointerAt_9 : decode cX7_pointerAt 9 = .ok (.aload_n 0, 1) := by decide +kernel
theorem dX7_pointerAt_10 : decode cX7_pointerAt 10 = .ok (.getfield 25, 3) := by decide +kernel
theorem dX7_pointerAt_13 : decode cX7_pointerAt 13 = .ok (.iload_n 1, 1) := by decide +kernel
theorem dX7_pointerAt_14 : decode cX7_pointerAt 14 = .ok (.aaload, 1) := by decide +kernel
theorem dX7_pointerAt_15 : decode cX7_pointerAt 15 = .ok (.goto 4, 3) := by decide +kernel
theorem dX7_pointerAt_18 : decode cX7_pointerAt 18 = .ok (.aconst_null, 1) := by decide +kernel
theorem dX7_pointerAt_19 : decode cX7_pointerAt 19 = .ok (.areturn, 1) := by decide +kernel
theorem dX7_tick_0 : decode cX7_tick 0 = .ok (.aload_n 0, 1) := by decide +kernel
theorem dX7_tick_1 : decode cX7_tick 1 = .ok (.getfield 39, 3) := by decide +kernel
theorem dX7_tick_4 : decode cX7_tick 4 = .ok (.aload_n 0, 1) := by decide +kernel
theorem dX7_tick_5 : decode cX7_tick 5 = .ok (.getfield 9, 3) := by decide +kernel
theorem dX7_tick_8 : decode cX7_tick 8 = .ok (.imul, 1) := by decide +kernel
theorem dX7_tick_9 : decode cX7_tick 9 = .ok (.aload_n 0, 1) := by decide +kernel
theorem dX7_tick_10 : decode cX7_tick 10 = .ok (.getfield 15, 3) := by decide +kernel
theorem dX7_tick_13 : decode cX7_tick 13 = .ok (.aload_n 0, 1) := by decide +kernel
theorem dX7_tick_14 : decode cX7_tick 14 = .ok (.getfield 42, 3) := by decide +kernel
theorem dX7_tick_17 : decode cX7_tick 17 = .ok (.invokevirtual 56, 3) := by decide +kernel
theorem dX7_tick_20 : decode cX7_tick 20 = .ok (.iadd, 1) := by decide +kernel
theorem dX7_tick_21 : decode cX7_tick 21 = .ok (.istore_n 1, 1) := by decide +kernel
theorem dX7_tick_22 : decode cX7_tick 22 = .ok (.aload_n 0, 1) := by decide +kernel
theorem dX7_tick_23 : decode cX7_tick 23 = .ok (.aload_n 0, 1) := by decide +kernel
theorem dX7_tick_24 : decode cX7_tick 24 = .ok (.getfield 33, 3) := by decide +kernel
theorem dX7_tick_27 : decode cX7_tick 27 = .ok (.iload_n 1, 1) := by decide +kernel
theorem dX7_tick_28 : decode cX7_tick 28 = .ok (.iadd, 1) := by decide +kernel
theorem dX7_tick_29 : decode cX7_tick 29 = .ok (.invokestatic 62, 3) := by decide +kernel
theorem dX7_tick_32 : decode cX7_tick 32 = .ok (.putfield 33, 3) := by decide +kernel
theorem dX7_tick_35 : decode cX7_tick 35 = .ok (.iconst 0, 1) := by decide +kernel
theorem dX7_tick_36 : decode cX7_tick 36 = .ok (.istore_n 2, 1) := by decide +kernel
theorem dX7_tick_37 : decode cX7_tick 37 = .ok (.iload_n 2, 1) := by decide +kernel
theorem dX7_tick_38 : decode cX7_tick 38 = .ok (.iconst 3, 1) := by decide +kernel
theorem dX7_tick_39 : decode cX7_tick 39 = .ok (.if_icmp .ge 20, 3) := by decide +kernel
theorem dX7_tick_42 : decode cX7_tick 42 = .ok (.aload_n 0, 1) := by decide +kernel
theorem dX7_tick_43 : decode cX7_tick 43 = .ok (.getfield 25, 3) := by decide +kernel
theorem dX7_tick_46 : decode cX7_tick 46 = .ok (.iload_n 2, 1) := by decide +kernel
theorem dX7_tick_47 : decode cX7_tick 47 = .ok (.aaload, 1) := by decide +kernel
theorem dX7_tick_48 : decode cX7_tick 48 = .ok (.aload_n 0, 1) := by decide +kernel
theorem dX7_tick_49 : decode cX7_tick 49 = .ok (.iload_n 1, 1) := by decide +kernel
theorem dX7_tick_50 : decode cX7_tick 50 = .ok (.invokevirtual 65, 3) := by decide +kernel
theorem dX7_tick_53 : decode cX7_tick 53 = .ok (.iinc 2 1, 3) := by decide +kernel
theorem dX7_tick_56 : decode cX7_tick 56 = .ok (.goto (-19), 3) := by decide +kernel
theorem dX7_tick_59 : decode cX7_tick 59 = .ok (.aload_n 0, 1) := by decide +kernel
theorem dX7_tick_60 : decode cX7_tick 60 = .ok (.dup, 1) := by decide +kernel
theorem dX7_tick_61 : decode cX7_tick 61 = .ok (.getfield 42, 3) := by decide +kernel
theorem dX7_tick_64 : decode cX7_tick 64 = .ok (.iconst 1, 1) := by decide +kernel
theorem dX7_tick_65 : decode cX7_tick 65 = .ok (.iadd, 1) := by decide +kernel
theorem dX7_tick_66 : decode cX7_tick 66 = .ok (.putfield 42, 3) := by decide +kernel
theorem dX7_tick_69 : decode cX7_tick 69 = .ok (.return_, 1) := by decide +kernel
theorem dX8_init_0 : decode cX8_init 0 = .ok (.aload_n 0, 1) := by decide +kernel
theorem dX8_init_1 : decode cX8_init 1 = .ok (.invokespecial 3, 3) := by decide +kernel
theorem dX8_init_4 : decode cX8_init 4 = .ok (.aload_n 0, 1) := by decide +kernel
theorem dX8_init_5 : decode cX8_init 5 = .ok (.new 9, 3) := by decide +kernel
theorem dX8_init_8 : decode cX8_init 8 = .ok (.dup, 1) := by decide +kernel
theorem dX8_init_9 : decode cX8_init 9 = .ok (.invokespecial 11, 3) := by decide +kernel
theorem dX8_init_12 : decode cX8_init 12 = .ok (.putfield 12, 3) := by decide +kernel
theorem dX8_init_15 : decode cX8_init 15 = .ok (.return_, 1) := by decide +kernel
theorem dX8_letSwing_0 : decode cX8_letSwing 0 = .ok (.aload_n 0, 1) := by decide +kernel
theorem dX8_letSwing_1 : decode cX8_letSwing 1 = .ok (.getfield 12, 3) := by decide +kernel
theorem dX8_letSwing_4 : decode cX8_letSwing 4 = .ok (.aload_n 1, 1) := by decide +kernel
theorem dX8_letSwing_5 : decode cX8_letSwing 5 = .ok (.invokevirtual 18, 3) := by decide +kernel
theorem dX8_letSwing_8 : decode cX8_letSwing 8 = .ok (.aload_n 0, 1) := by decide +kernel
theorem dX8_letSwing_9 : decode cX8_letSwing 9 = .ok (.getfield 12, 3) := by decide +kernel
theorem dX8_letSwing_12 : decode cX8_letSwing 12 = .ok (.iload_n 3, 1) := by decide +kernel
theorem dX8_letSwing_13 : decode cX8_letSwing 13 = .ok (.invokevirtual 22, 3) := by decide +kernel
theorem dX8_letSwing_16 : decode cX8_letSwing 16 = .ok (.aload_n 0, 1) := by decide +kernel
theorem dX8_letSwing_17 : decode cX8_letSwing 17 = .ok (.iconst (-1), 1) := by decide +kernel
theorem dX8_letSwing_18 : decode cX8_letSwing 18 = .ok (.putfield 26, 3) := by decide +kernel
theorem dX8_letSwing_21 : decode cX8_letSwing 21 = .ok (.aload_n 0, 1) := by decide +kernel
theorem dX8_letSwing_22 : decode cX8_letSwing 22 = .ok (.iconst 0, 1) := by decide +kernel
theorem dX8_letSwing_23 : decode cX8_letSwing 23 = .ok (.putfield 30, 3) := by decide +kernel
theorem dX8_letSwing_26 : decode cX8_letSwing 26 = .ok (.aload_n 0, 1) := by decide +kernel
theorem dX8_letSwing_27 : decode cX8_letSwing 27 = .ok (.iconst (-1), 1) := by decide +kernel
theorem dX8_letSwing_28 : decode cX8_letSwing 28 = .ok (.putfield 33, 3) := by decide +kernel
theorem dX8_letSwing_31 : decode cX8_letSwing 31 = .ok (.aload_n 0, 1) := by decide +kernel
theorem dX8_letSwing_32 : decode cX8_letSwing 32 = .ok (.iconst 0, 1) := by decide +kernel
theorem dX8_letSwing_33 : decode cX8_letSwing 33 = .ok (.invokevirtual 36, 3) := by decide +kernel
theorem dX8_letSwing_36 : decode cX8_letSwing 36 = .ok (.iconst 1, 1) := by decide +kernel
theorem dX8_letSwing_37 : decode cX8_letSwing 37 = .ok (.istore 5, 2) := by decide +kernel
theorem dX8_letSwing_39 : decode cX8_letSwing 39 = .ok (.iload 5, 2) := by decide +kernel
theorem dX8_letSwing_41 : decode cX8_letSwing 41 = .ok (.sipush 600, 3) := by decide +kernel
theorem dX8_letSwing_44 : decode cX8_letSwing 44 = .ok (.if_icmp .gt 40, 3) := by decide +kernel
theorem dX8_letSwing_47 : decode cX8_letSwing 47 = .ok (.aload_n 0, 1) := by decide +kernel
theorem dX8_letSwing_48 : decode cX8_letSwing 48 = .ok (.getfield 12, 3) := by decide +kernel
theorem dX8_letSwing_51 : decode cX8_letSwing 51 = .ok (.iload_n 2, 1) := by decide +kernel
theorem dX8_letSwing_52 : decode cX8_letSwing 52 = .ok (.aload_n 0, 1) := by decide +kernel
theorem dX8_letSwing_53 : decode cX8_letSwing 53 = .ok (.getfield 12, 3) := by decide +kernel
theorem dX8_letSwing_56 : decode cX8_letSwing 56 = .ok (.getfield 39, 3) := by decide +kernel
theorem dX8_letSwing_59 : decode cX8_letSwing 59 = .ok (.iconst 0, 1) := by decide +kernel
theorem dX8_letSwing_60 : decode cX8_letSwing 60 = .ok (.iload 4, 2) := by decide +kernel
theorem dX8_letSwing_62 : decode cX8_letSwing 62 = .ok (.invokevirtual 42, 3) := by decide +kernel
theorem dX8_letSwing_65 : decode cX8_letSwing 65 = .ok (.aload_n 0, 1) := by decide +kernel
theorem dX8_letSwing_66 : decode cX8_letSwing 66 = .ok (.iload 5, 2) := by decide +kernel
theorem dX8_letSwing_68 : decode cX8_letSwing 68 = .ok (.invokevirtual 36, 3) := by decide +kernel
theorem dX8_letSwing_71 : decode cX8_letSwing 71 = .ok (.aload_n 0, 1) := by decide +kernel
theorem dX8_letSwing_72 : decode cX8_letSwing 72 = .ok (.iload 5, 2) := by decide +kernel
theorem dX8_letSwing_74 : decode cX8_letSwing 74 = .ok (.iload_n 3, 1) := by decide +kernel
theorem dX8_letSwing_75 : decode cX8_letSwing 75 = .ok (.invokevirtual 46, 3) := by decide +kernel
theorem dX8_letSwing_78 : decode cX8_letSwing 78 = .ok (.iinc 5 1, 3) := by decide +kernel
theorem dX8_letSwing_81 : decode cX8_letSwing 81 = .ok (.goto (-42), 3) := by decide +kernel
theorem dX8_letSwing_84 : decode cX8_letSwing 84 = .ok (.return_, 1) := by decide +kernel
theorem dX8_noteRest_0 : decode cX8_noteRest 0 = .ok (.aload_n 0, 1) := by decide +kernel
theorem dX8_noteRest_1 : decode cX8_noteRest 1 = .ok (.getfield 12, 3) := by decide +kernel
theorem dX8_noteRest_4 : decode cX8_noteRest 4 = .ok (.getfield 39, 3) := by decide +kernel
theorem dX8_noteRest_7 : decode cX8_noteRest 7 = .ok (.invokestatic 50, 3) := by decide +kernel
theorem dX8_noteRest_10 : decode cX8_noteRest 10 = .ok (.bipush 100, 2) := by decide +kernel
theorem dX8_noteRest_12 : decode cX8_noteRest 12 = .ok (.if_icmp .le 11, 3) := by decide +kernel
theorem dX8_noteRest_15 : decode cX8_noteRest 15 = .ok (.aload_n 0, 1) := by decide +kernel
theorem dX8_noteRest_16 : decode cX8_noteRest 16 = .ok (.iconst (-1), 1) := by decide +kernel
theorem dX8_noteRest_17 : decode cX8_noteRest 17 = .ok (.putfield 33, 3) := by decide +kernel
theorem dX8_noteRest_20 : decode cX8_noteRest 20 = .ok (.goto 16, 3) := by decide +kernel
theorem dX8_noteRest_23 : decode cX8_noteRest 23 = .ok (.aload_n 0, 1) := by decide +kernel
theorem dX8_noteRest_24 : decode cX8_noteRest 24 = .ok (.getfield 33, 3) := by decide +kernel
theorem dX8_noteRest_27 : decode cX8_noteRest 27 = .ok (.iconst (-1), 1) := by decide +kernel
theorem dX8_noteRest_28 : decode cX8_noteRest 28 = .ok (.if_icmp .ne 8, 3) := by decide +kernel
theorem dX8_noteRest_31 : decode cX8_noteRest 31 = .ok (.aload_n 0, 1) := by decide +kernel
theorem dX8_noteRest_32 : decode cX8_noteRest 32 = .ok (.iload_n 1, 1) := by decide +kernel
theorem dX8_noteRest_33 : decode cX8_noteRest 33 = .ok (.putfield 33, 3) := by decide +kernel
theorem dX8_noteRest_36 : decode cX8_noteRest 36 = .ok (.return_, 1) := by decide +kernel
theorem dX8_noteCrossing_0 : decode cX8_noteCrossing 0 = .ok (.aload_n 0, 1) := by decide +kernel
theorem dX8_noteCrossing_1 : decode cX8_noteCrossing 1 = .ok (.getfield 26, 3) := by decide +kernel
theorem dX8_noteCrossing_4 : decode cX8_noteCrossing 4 = .ok (.iconst (-1), 1) := by decide +kernel
theorem dX8_noteCrossing_5 : decode cX8_noteCrossing 5 = .ok (.if_icmp .ne 46, 3) := by decide +kernel
theorem dX8_noteCrossing_8 : decode cX8_noteCrossing 8 = .ok (.iload_n 2, 1) := by decide +kernel
theorem dX8_noteCrossing_9 : decode cX8_noteCrossing 9 = .ok (.ifCond .le 16, 3) := by decide +kernel
theorem dX8_noteCrossing_12 : decode cX8_noteCrossing 12 = .ok (.aload_n 0, 1) := by decide +kernel
theorem dX8_noteCrossing_13 : decode cX8_noteCrossing 13 = .ok (.getfield 12, 3) := by decide +kernel
theorem dX8_noteCrossing_16 : decode cX8_noteCrossing 16 = .ok (.getfield 39, 3) := by decide +kernel
theorem dX8_noteCrossing_19 : decode cX8_noteCrossing 19 = .ok (.ifCond .gt 32, 3) := by decide +kernel
theorem dX8_noteCrossing_22 : decode cX8_noteCrossing 22 = .ok (.goto 13, 3) := by decide +kernel
theorem dX8_noteCrossing_25 : decode cX8_noteCrossing 25 = .ok (.aload_n 0, 1) := by decide +kernel
theorem dX8_noteCrossing_26 : decode cX8_noteCrossing 26 = .ok (.getfield 12, 3) := by decide +kernel
theorem dX8_noteCrossing_29 : decode cX8_noteCrossing 29 = .ok (.getfield 39, 3) := by decide +kernel
theorem dX8_noteCrossing_32 : decode cX8_noteCrossing 32 = .ok (.ifCond .lt 19, 3) := by decide +kernel
theorem dX8_noteCrossing_35 : decode cX8_noteCrossing 35 = .ok (.aload_n 0, 1) := by decide +kernel
theorem dX8_noteCrossing_36 : decode cX8_noteCrossing 36 = .ok (.iload_n 1, 1) := by decide +kernel
theorem dX8_noteCrossing_37 : decode cX8_noteCrossing 37 = .ok (.putfield 26, 3) := by decide +kernel
theorem dX8_noteCrossing_40 : decode cX8_noteCrossing 40 = .ok (.aload_n 0, 1) := by decide +kernel
theorem dX8_noteCrossing_41 : decode cX8_noteCrossing 41 = .ok (.aload_n 0, 1) := by decide +kernel
theorem dX8_noteCrossing_42 : decode cX8_noteCrossing 42 = .ok (.getfield 12, 3) := by decide +kernel
theorem dX8_noteCrossing_45 : decode cX8_noteCrossing 45 = .ok (.getfield 39, 3) := by decide +kernel
theorem dX8_noteCrossing_48 : decode cX8_noteCrossing 48 = .ok (.putfield 30, 3) := by decide +kernel
theorem dX8_noteCrossing_51 : decode cX8_noteCrossing 51 = .ok (.aload_n 0, 1) := by decide +kernel
theorem dX8_noteCrossing_52 : decode cX8_noteCrossing 52 = .ok (.getfield 26, 3) := by decide +kernel
theorem dX8_noteCrossing_55 : decode cX8_noteCrossing 55 = .ok (.iconst (-1), 1) := by decide +kernel
theorem dX8_noteCrossing_56 : decode cX8_noteCrossing 56 = .ok (.if_icmp .eq 34, 3) := by decide +kernel
theorem dX8_noteCrossing_59 : decode cX8_noteCrossing 59 = .ok (.aload_n 0, 1) := by decide +kernel
theorem dX8_noteCrossing_60 : decode cX8_noteCrossing 60 = .ok (.getfield 12, 3) := by decide +kernel
theorem dX8_noteCrossing_63 : decode cX8_noteCrossing 63 = .ok (.getfield 39, 3) := by decide +kernel
theorem dX8_noteCrossing_66 : decode cX8_noteCrossing 66 = .ok (.invokestatic 50, 3) := by decide +kernel
theorem dX8_noteCrossing_69 : decode cX8_noteCrossing 69 = .ok (.aload_n 0, 1) := by decide +kernel
theorem dX8_noteCrossing_70 : decode cX8_noteCrossing 70 = .ok (.getfield 30, 3) := by decide +kernel
theorem dX8_noteCrossing_73 : decode cX8_noteCrossing 73 = .ok (.invokestatic 50, 3) := by decide +kernel
theorem dX8_noteCrossing_76 : decode cX8_noteCrossing 76 = .ok (.if_icmp .le 14, 3) := by decide +kernel
theorem dX8_noteCrossing_79 : decode cX8_noteCrossing 79 = .ok (.aload_n 0, 1) := by decide +kernel
theorem dX8_noteCrossing_80 : decode cX8_noteCrossing 80 = .ok (.aload_n 0, 1) := by decide +kernel
theorem dX8_noteCrossing_81 : decode cX8_noteCrossing 81 = .ok (.getfield 12, 3) := by decide +kernel
theorem dX8_noteCrossing_84 : decode cX8_noteCrossing 84 = .ok (.getfield 39, 3) := by decide +kernel
theorem dX8_noteCrossing_87 : decode cX8_noteCrossing 87 = .ok (.putfield 30, 3) := by decide +kernel
theorem dX8_noteCrossing_90 : decode cX8_noteCrossing 90 = .ok (.return_, 1) := by decide +kernel
theorem dX8_firstPlaceWithoutRest_0 : decode cX8_firstPlaceWithoutRest 0 = .ok (.iconst 0, 1) := by decide +kernel
theorem dX8_firstPlaceWithoutRest_1 : decode cX8_firstPlaceWithoutRest 1 = .ok (.istore_n 2, 1) := by decide +kernel
theorem dX8_firstPlaceWithoutRest_2 : decode cX8_firstPlaceWithoutRest 2 = .ok (.iload_n 2, 1) := by decide +kernel
theorem dX8_firstPlaceWithoutRest_3 : decode cX8_firstPlaceWithoutRest 3 = .ok (.bipush 89, 2) := by decide +kernel
theorem dX8_firstPlaceWithoutRest_5 : decode cX8_firstPlaceWithoutRest 5 = .ok (.if_icmp .gt 32, 3) := by decide +kernel
theorem dX8_firstPlaceWithoutRest_8 : decode cX8_firstPlaceWithoutRest 8 = .ok (.aload_n 0, 1) := by decide +kernel
theorem dX8_firstPlaceWithoutRest_9 : decode cX8_firstPlaceWithoutRest 9 = .ok (.aload_n 1, 1) := by decide +kernel
theorem dX8_firstPlaceWithoutRest_10 : decode cX8_firstPlaceWithoutRest 10 = .ok (.iload_n 2, 1) := by decide +kernel
theorem dX8_firstPlaceWithoutRest_11 : decode cX8_firstPlaceWithoutRest 11 = .ok (.invokestatic 56, 3) := by decide +kernel
theorem dX8_firstPlaceWithoutRest_14 : decode cX8_firstPlaceWithoutRest 14 = .ok (.sipush 3000, 3) := by decide +kernel
theorem dX8_firstPlaceWithoutRest_17 : decode cX8_firstPlaceWithoutRest 17 = .ok (.iconst 1, 1) := by decide +kernel
theorem dX8_firstPlaceWithoutRest_18 : decode cX8_firstPlaceWithoutRest 18 = .ok (.invokevirtual 59, 3) := by decide +kernel
theorem dX8_firstPlaceWithoutRest_21 : decode cX8_firstPlaceWithoutRest 21 = .ok (.aload_n 0, 1) := by decide +kernel
theorem dX8_firstPlaceWithoutRest_22 : decode cX8_firstPlaceWithoutRest 22 = .ok (.getfield 33, 3) := by decide +kernel
theorem dX8_firstPlaceWithoutRest_25 : decode cX8_firstPlaceWithoutRest 25 = .ok (.iconst (-1), 1) := by decide +kernel
theorem dX8_firstPlaceWithoutRest_26 : decode cX8_firstPlaceWithoutRest 26 = .ok (.if_icmp .ne 5, 3) := by decide +kernel
theorem dX8_firstPlaceWithoutRest_29 : decode cX8_firstPlaceWithoutRest 29 = .ok (.iload_n 2, 1) := by decide +kernel
theorem dX8_firstPlaceWithoutRest_30 : decode cX8_firstPlaceWithoutRest 30 = .ok (.ireturn, 1) := by decide +kernel
theorem dX8_firstPlaceWithoutRest_31 : decode cX8_firstPlaceWithoutRest 31 = .ok (.iinc 2 1, 3) := by decide +kernel
theorem dX8_firstPlaceWithoutRest_34 : decode cX8_firstPlaceWithoutRest 34 = .ok (.goto (-32), 3) := by decide +kernel
theorem dX8_firstPlaceWithoutRest_37 : decode cX8_firstPlaceWithoutRest 37 = .ok (.iconst (-1), 1) := by decide +kernel
theorem dX8_firstPlaceWithoutRest_38 : decode cX8_firstPlaceWithoutRest 38 = .ok (.ireturn, 1) := by decide +kernel
theorem dX8_disturbed_0 : decode cX8_disturbed 0 = .ok (.aload_n 0, 1) := by decide +kernel
theorem dX8_disturbed_1 : decode cX8_disturbed 1 = .ok (.getfield 12, 3) := by decide +kernel
theorem dX8_disturbed_4 : decode cX8_disturbed 4 = .ok (.aload_n 1, 1) := by decide +kernel
theorem dX8_disturbed_5 : decode cX8_disturbed 5 = .ok (.invokevirtual 18, 3) := by decide +kernel
theorem dX8_disturbed_8 : decode cX8_disturbed 8 = .ok (.aload_n 0, 1) := by decide +kernel
theorem dX8_disturbed_9 : decode cX8_disturbed 9 = .ok (.getfield 12, 3) := by decide +kernel
theorem dX8_disturbed_12 : decode cX8_disturbed 12 = .ok (.iload_n 2, 1) := by decide +kernel
theorem dX8_disturbed_13 : decode cX8_disturbed 13 = .ok (.putfield 63, 3) := by decide +kernel
theorem dX8_disturbed_16 : decode cX8_disturbed 16 = .ok (.aload_n 0, 1) := by decide +kernel
theorem dX8_disturbed_17 : decode cX8_disturbed 17 = .ok (.getfield 12, 3) := by decide +kernel
theorem dX8_disturbed_20 : decode cX8_disturbed 20 = .ok (.iconst 0, 1) := by decide +kernel
theorem dX8_disturbed_21 : decode cX8_disturbed 21 = .ok (.invokevirtual 22, 3) := by decide +kernel
theorem dX8_disturbed_24 : decode cX8_disturbed 24 = .ok (.iconst 0, 1) := by decide +kernel
theorem dX8_disturbed_25 : decode cX8_disturbed 25 = .ok (.istore 7, 2) := by decide +kernel
theorem dX8_disturbed_27 : decode cX8_disturbed 27 = .ok (.iconst 0, 1) := by decide +kernel
theorem dX8_disturbed_28 : decode cX8_disturbed 28 = .ok (.istore 8, 2) := by decide +kernel
theorem dX8_disturbed_30 : decode cX8_disturbed 30 = .ok (.iload 8, 2) := by decide +kernel
theorem dX8_disturbed_32 : decode cX8_disturbed 32 = .ok (.iload 4, 2) := by decide +kernel
theorem dX8_disturbed_34 : decode cX8_disturbed 34 = .ok (.if_icmp .ge 55, 3) := by decide +kernel
theorem dX8_disturbed_37 : decode cX8_disturbed 37 = .ok (.aload_n 0, 1) := by decide +kernel
theorem dX8_disturbed_38 : decode cX8_disturbed 38 = .ok (.getfield 12, 3) := by decide +kernel
theorem dX8_disturbed_41 : decode cX8_disturbed 41 = .ok (.iload_n 3, 1) := by decide +kernel
theorem dX8_disturbed_42 : decode cX8_disturbed 42 = .ok (.aload_n 0, 1) := by decide +kernel
theorem dX8_disturbed_43 : decode cX8_disturbed 43 = .ok (.getfield 12, 3) := by decide +kernel
theorem dX8_disturbed_46 : decode cX8_disturbed 46 = .ok (.getfield 39, 3) := by decide +kernel
theorem dX8_disturbed_49 : decode cX8_disturbed 49 = .ok (.iload 8, 2) := by decide +kernel
theorem dX8_disturbed_51 : decode cX8_disturbed 51 = .ok (.iload 5, 2) := by decide +kernel
theorem dX8_disturbed_53 : decode cX8_disturbed 53 = .ok (.if_icmp .ge 8, 3) := by decide +kernel
theorem dX8_disturbed_56 : decode cX8_disturbed 56 = .ok (.iload 6, 2) := by decide +kernel
theorem dX8_disturbed_58 : decode cX8_disturbed 58 = .ok (.goto 4, 3) := by decide +kernel
theorem dX8_disturbed_61 : decode cX8_disturbed 61 = .ok (.iconst 0, 1) := by decide +kernel
theorem dX8_disturbed_62 : decode cX8_disturbed 62 = .ok (.iconst 1, 1) := by decide +kernel
theorem dX8_disturbed_63 : decode cX8_disturbed 63 = .ok (.invokevirtual 42, 3) := by decide +kernel
theorem dX8_disturbed_66 : decode cX8_disturbed 66 = .ok (.iload 7, 2) := by decide +kernel
theorem dX8_disturbed_68 : decode cX8_disturbed 68 = .ok (.aload_n 0, 1) := by decide +kernel
theorem dX8_disturbed_69 : decode cX8_disturbed 69 = .ok (.getfield 12, 3) := by decide +kernel
theorem dX8_disturbed_72 : decode cX8_disturbed 72 = .ok (.getfield 39, 3) := by decide +kernel
theorem dX8_disturbed_75 : decode cX8_disturbed 75 = .ok (.invokestatic 50, 3) := by decide +kernel
theorem dX8_disturbed_78 : decode cX8_disturbed 78 = .ok (.invokestatic 66, 3) := by decide +kernel
theorem dX8_disturbed_81 : decode cX8_disturbed 81 = .ok (.istore 7, 2) := by decide +kernel
theorem dX8_disturbed_83 : decode cX8_disturbed 83 = .ok (.iinc 8 1, 3) := by decide +kernel
theorem dX8_disturbed_86 : decode cX8_disturbed 86 = .ok (.goto (-56), 3) := by decide +kernel
theorem dX8_disturbed_89 : decode cX8_disturbed 89 = .ok (.iload 7, 2) := by decide +kernel
theorem dX8_disturbed_91 : decode cX8_disturbed 91 = .ok (.ireturn, 1) := by decide +kernel
theorem dX8_calmestPull_0 : decode cX8_calmestPull 0 = .ok (.iconst 1, 1) := by decide +kernel
theorem dX8_calmestPull_1 : decode cX8_calmestPull 1 = .ok (.istore 6, 2) := by decide +kernel
theorem dX8_calmestPull_3 : decode cX8_calmestPull 3 = .ok (.aload_n 0, 1) := by decide +kernel
theorem dX8_calmestPull_4 : decode cX8_calmestPull 4 = .ok (.aload_n 1, 1) := by decide +kernel
theorem dX8_calmestPull_5 : decode cX8_calmestPull 5 = .ok (.iload 6, 2) := by decide +kernel
theorem dX8_calmestPull_7 : decode cX8_calmestPull 7 = .ok (.iload_n 2, 1) := by decide +kernel
theorem dX8_calmestPull_8 : decode cX8_calmestPull 8 = .ok (.iload_n 3, 1) := by decide +kernel
theorem dX8_calmestPull_9 : decode cX8_calmestPull 9 = .ok (.iload 4, 2) := by decide +kernel
theorem dX8_calmestPull_11 : decode cX8_calmestPull 11 = .ok (.iload 5, 2) := by decide +kernel
theorem dX8_calmestPull_13 : decode cX8_calmestPull 13 = .ok (.invokevirtual 70, 3) := by decide +kernel
theorem dX8_calmestPull_16 : decode cX8_calmestPull 16 = .ok (.istore 7, 2) := by decide +kernel
theorem dX8_calmestPull_18 : decode cX8_calmestPull 18 = .ok (.iconst 2, 1) := by decide +kernel
theorem dX8_calmestPull_19 : decode cX8_calmestPull 19 = .ok (.istore 8, 2) := by decide +kernel
theorem dX8_calmestPull_21 : decode cX8_calmestPull 21 = .ok (.iload 8, 2) := by decide +kernel
theorem dX8_calmestPull_23 : decode cX8_calmestPull 23 = .ok (.bipush 99, 2) := by decide +kernel
theorem dX8_calmestPull_25 : decode cX8_calmestPull 25 = .ok (.if_icmp .gt 39, 3) := by decide +kernel
theorem dX8_calmestPull_28 : decode cX8_calmestPull 28 = .ok (.aload_n 0, 1) := by decide +kernel
theorem dX8_calmestPull_29 : decode cX8_calmestPull 29 = .ok (.aload_n 1, 1) := by decide +kernel
theorem dX8_calmestPull_30 : decode cX8_calmestPull 30 = .ok (.iload 8, 2) := by decide +kernel
theorem dX8_calmestPull_32 : decode cX8_calmestPull 32 = .ok (.iload_n 2, 1) := by decide +kernel
theorem dX8_calmestPull_33 : decode cX8_calmestPull 33 = .ok (.iload_n 3, 1) := by decide +kernel
theorem dX8_calmestPull_34 : decode cX8_calmestPull 34 = .ok (.iload 4, 2) := by decide +kernel
theorem dX8_calmestPull_36 : decode cX8_calmestPull 36 = .ok (.iload 5, 2) := by decide +kernel
theorem dX8_calmestPull_38 : decode cX8_calmestPull 38 = .ok (.invokevirtual 70, 3) := by decide +kernel
theorem dX8_calmestPull_41 : decode cX8_calmestPull 41 = .ok (.istore 9, 2) := by decide +kernel
theorem dX8_calmestPull_43 : decode cX8_calmestPull 43 = .ok (.iload 9, 2) := by decide +kernel
theorem dX8_calmestPull_45 : decode cX8_calmestPull 45 = .ok (.iload 7, 2) := by decide +kernel
theorem dX8_calmestPull_47 : decode cX8_calmestPull 47 = .ok (.if_icmp .ge 11, 3) := by decide +kernel
theorem dX8_calmestPull_50 : decode cX8_calmestPull 50 = .ok (.iload 9, 2) := by decide +kernel
theorem dX8_calmestPull_52 : decode cX8_calmestPull 52 = .ok (.istore 7, 2) := by decide +kernel
theorem dX8_calmestPull_54 : decode cX8_calmestPull 54 = .ok (.iload 8, 2) := by decide +kernel
theorem dX8_calmestPull_56 : decode cX8_calmestPull 56 = .ok (.istore 6, 2) := by decide +kernel
theorem dX8_calmestPull_58 : decode cX8_calmestPull 58 = .ok (.iinc 8 1, 3) := by decide +kernel
theorem dX8_calmestPull_61 : decode cX8_calmestPull 61 = .ok (.goto (-40), 3) := by decide +kernel
theorem dX8_calmestPull_64 : decode cX8_calmestPull 64 = .ok (.iload 6, 2) := by decide +kernel
theorem dX8_calmestPull_66 : decode cX8_calmestPull 66 = .ok (.ireturn, 1) := by decide +kernel
theorem dX9_init_0 : decode cX9_init 0 = .ok (.aload_n 0, 1) := by decide +kernel
theorem dX9_init_1 : decode cX9_init 1 = .ok (.invokespecial 3, 3) := by decide +kernel
theorem dX9_init_4 : decode cX9_init 4 = .ok (.aload_n 0, 1) := by decide +kernel
theorem dX9_init_5 : decode cX9_init 5 = .ok (.bipush 8, 2) := by decide +kernel
theorem dX9_init_7 : decode cX9_init 7 = .ok (.newarray .int, 2) := by decide +kernel
theorem dX9_init_9 : decode cX9_init 9 = .ok (.putfield 9, 3) := by decide +kernel
theorem dX9_init_12 : decode cX9_init 12 = .ok (.aload_n 0, 1) := by decide +kernel
theorem dX9_init_13 : decode cX9_init 13 = .ok (.bipush 8, 2) := by decide +kernel
theorem dX9_init_15 : decode cX9_init 15 = .ok (.newarray .int, 2) := by decide +kernel
theorem dX9_init_17 : decode cX9_init 17 = .ok (.putfield 15, 3) := by decide +kernel
theorem dX9_init_20 : decode cX9_init 20 = .ok (.aload_n 0, 1) := by decide +kernel
theorem dX9_init_21 : decode cX9_init 21 = .ok (.bipush 8, 2) := by decide +kernel
theorem dX9_init_23 : decode cX9_init 23 = .ok (.newarray .int, 2) := by decide +kernel
theorem dX9_init_25 : decode cX9_init 25 = .ok (.putfield 18, 3) := by decide +kernel
theorem dX9_init_28 : decode cX9_init 28 = .ok (.return_, 1) := by decide +kernel
theorem dX9_add_0 : decode cX9_add 0 = .ok (.aload_n 0, 1) := by decide +kernel
theorem dX9_add_1 : decode cX9_add 1 = .ok (.getfield 21, 3) := by decide +kernel
theorem dX9_add_4 : decode cX9_add 4 = .ok (.bipush 24, 2) := by decide +kernel
theorem dX9_add_6 : decode cX9_add 6 = .ok (.if_icmp .lt 6, 3) := by decide +kernel
theorem dX9_add_9 : decode cX9_add 9 = .ok (.bipush (-5), 2) := by decide +kernel
theorem dX9_add_11 : decode cX9_add 11 = .ok (.ireturn, 1) := by decide +kernel
theorem dX9_add_12 : decode cX9_add 12 = .ok (.iload_n 1, 1) := by decide +kernel
theorem dX9_add_13 : decode cX9_add 13 = .ok (.sipush 2250, 3) := by decide +kernel
theorem dX9_add_16 : decode cX9_add 16 = .ok (.iadd, 1) := by decide +kernel
theorem dX9_add_17 : decode cX9_add 17 = .ok (.invokestatic 25, 3) := by decide +kernel
theorem dX9_add_20 : decode cX9_add 20 = .ok (.sipush 4500, 3) := by decide +kernel
theorem dX9_add_23 : decode cX9_add 23 = .ok (.idiv, 1) := by decide +kernel
theorem dX9_add_24 : decode cX9_add 24 = .ok (.istore_n 3, 1) := by decide +kernel
theorem dX9_add_25 : decode cX9_add 25 = .ok (.iload_n 1, 1) := by decide +kernel
theorem dX9_add_26 : decode cX9_add 26 = .ok (.iload_n 2, 1) := by decide +kernel
theorem dX9_add_27 : decode cX9_add 27 = .ok (.isub, 1) := by decide +kernel
theorem dX9_add_28 : decode cX9_add 28 = .ok (.invokestatic 29, 3) := by decide +kernel
theorem dX9_add_31 : decode cX9_add 31 = .ok (.istore 4, 2) := by decide +kernel
theorem dX9_add_33 : decode cX9_add 33 = .ok (.aload_n 0, 1) := by decide +kernel
theorem dX9_add_34 : decode cX9_add 34 = .ok (.getfield 15, 3) := by decide +kernel
theorem dX9_add_37 : decode cX9_add 37 = .ok (.iload_n 3, 1) := by decide +kernel
theorem dX9_add_38 : decode cX9_add 38 = .ok (.aload_n 0, 1) := by decide +kernel
theorem dX9_add_39 : decode cX9_add 39 = .ok (.getfield 9, 3) := by decide +kernel
theorem dX9_add_42 : decode cX9_add 42 = .ok (.iload_n 3, 1) := by decide +kernel
theorem dX9_add_43 : decode cX9_add 43 = .ok (.iaload, 1) := by decide +kernel
theorem dX9_add_44 : decode cX9_add 44 = .ok (.ifCond .ne 8, 3) := by decide +kernel
theorem dX9_add_47 : decode cX9_add 47 = .ok (.iload 4, 2) := by decide +kernel
theorem dX9_add_49 : decode cX9_add 49 = .ok (.goto 14, 3) := by decide +kernel
theorem dX9_add_52 : decode cX9_add 52 = .ok (.aload_n 0, 1) := by decide +kernel
theorem dX9_add_53 : decode cX9_add 53 = .ok (.getfield 15, 3) := by decide +kernel
theorem dX9_add_56 : decode cX9_add 56 = .ok (.iload_n 3, 1) := by decide +kernel
theorem dX9_add_57 : decode cX9_add 57 = .ok (.iaload, 1) := by decide +kernel
theorem dX9_add_58 : decode cX9_add 58 = .ok (.iload 4, 2) := by decide +kernel
theorem dX9_add_60 : decode cX9_add 60 = .ok (.invokestatic 32, 3) := by decide +kernel
theorem dX9_add_63 : decode cX9_add 63 = .ok (.iastore, 1) := by decide +kernel
theorem dX9_add_64 : decode cX9_add 64 = .ok (.aload_n 0, 1) := by decide +kernel
theorem dX9_add_65 : decode cX9_add 65 = .ok (.getfield 18, 3) := by decide +kernel
theorem dX9_add_68 : decode cX9_add 68 = .ok (.iload_n 3, 1) := by decide +kernel
theorem dX9_add_69 : decode cX9_add 69 = .ok (.aload_n 0, 1) := by decide +kernel
theorem dX9_add_70 : decode cX9_add 70 = .ok (.getfield 9, 3) := by decide +kernel
theorem dX9_add_73 : decode cX9_add 73 = .ok (.iload_n 3, 1) := by decide +kernel
theorem dX9_add_74 : decode cX9_add 74 = .ok (.iaload, 1) := by decide +kernel
theorem dX9_add_75 : decode cX9_add 75 = .ok (.ifCond .ne 8, 3) := by decide +kernel
theorem dX9_add_78 : decode cX9_add 78 = .ok (.iload 4, 2) := by decide +kernel
theorem dX9_add_80 : decode cX9_add 80 = .ok (.goto 14, 3) := by decide +kernel
theorem dX9_add_83 : decode cX9_add 83 = .ok (.aload_n 0, 1) := by decide +kernel
theorem dX9_add_84 : decode cX9_add 84 = .ok (.getfield 18, 3) := by decide +kernel
theorem dX9_add_87 : decode cX9_add 87 = .ok (.iload_n 3, 1) := by decide +kernel
theorem dX9_add_88 : decode cX9_add 88 = .ok (.iaload, 1) := by decide +kernel
theorem dX9_add_89 : decode cX9_add 89 = .ok (.iload 4, 2) := by decide +kernel
theorem dX9_add_91 : decode cX9_add 91 = .ok (.invokestatic 38, 3) := by decide +kernel
theorem dX9_add_94 : decode cX9_add 94 = .ok (.iastore, 1) := by decide +kernel
theorem dX9_add_95 : decode cX9_add 95 = .ok (.aload_n 0, 1) := by decide +kernel
theorem dX9_add_96 : decode cX9_add 96 = .ok (.getfield 9, 3) := by decide +kernel
theorem dX9_add_99 : decode cX9_add 99 = .ok (.iload_n 3, 1) := by decide +kernel
theorem dX9_add_100 : decode cX9_add 100 = .ok (.dup2, 1) := by decide +kernel
theorem dX9_add_101 : decode cX9_add 101 = .ok (.iaload, 1) := by decide +kernel
theorem dX9_add_102 : decode cX9_add 102 = .ok (.iconst 1, 1) := by decide +kernel
theorem dX9_add_103 : decode cX9_add 103 = .ok (.iadd, 1) := by decide +kernel
theorem dX9_add_104 : decode cX9_add 104 = .ok (.iastore, 1) := by decide +kernel
theorem dX9_add_105 : decode cX9_add 105 = .ok (.aload_n 0, 1) := by decide +kernel
theorem dX9_add_106 : decode cX9_add 106 = .ok (.dup, 1) := by decide +kernel
theorem dX9_add_107 : decode cX9_add 107 = .ok (.getfield 21, 3) := by decide +kernel
theorem dX9_add_110 : decode cX9_add 110 = .ok (.iconst 1, 1) := by decide +kernel
theorem dX9_add_111 : decode cX9_add 111 = .ok (.iadd, 1) := by decide +kernel
theorem dX9_add_112 : decode cX9_add 112 = .ok (.putfield 21, 3) := by decide +kernel
theorem dX9_add_115 : decode cX9_add 115 = .ok (.aload_n 0, 1) := by decide +kernel
theorem dX9_add_116 : decode cX9_add 116 = .ok (.getfield 21, 3) := by decide +kernel
theorem dX9_add_119 : decode cX9_add 119 = .ok (.ireturn, 1) := by decide +kernel
theorem dX10_init_0 : decode cX10_init 0 = .ok (.aload_n 0, 1) := by decide +kernel
theorem dX10_init_1 : decode cX10_init 1 = .ok (.invokespecial 3, 3) := by decide +kernel
theorem dX10_init_4 : decode cX10_init 4 = .ok (.aload_n 0, 1) := by decide +kernel
theorem dX10_init_5 : decode cX10_init 5 = .ok (.bipush 10, 2) := by decide +kernel
theorem dX10_init_7 : decode cX10_init 7 = .ok (.newarray .int, 2) := by decide +kernel
theorem dX10_init_9 : decode cX10_init 9 = .ok (.putfield 11, 3) := by decide +kernel
theorem dX10_init_12 : decode cX10_init 12 = .ok (.aload_n 0, 1) := by decide +kernel
theorem dX10_init_13 : decode cX10_init 13 = .ok (.bipush 10, 2) := by decide +kernel
theorem dX10_init_15 : decode cX10_init 15 = .ok (.newarray .int, 2) := by decide +kernel
theorem dX10_init_17 : decode cX10_init 17 = .ok (.putfield 15, 3) := by decide +kernel
theorem dX10_init_20 : decode cX10_init 20 = .ok (.aload_n 0, 1) := by decide +kernel
theorem dX10_init_21 : decode cX10_init 21 = .ok (.new 18, 3) := by decide +kernel
theorem dX10_init_24 : decode cX10_init 24 = .ok (.dup, 1) := by decide +kernel
theorem dX10_init_25 : decode cX10_init 25 = .ok (.invokespecial 20, 3) := by decide +kernel
theorem dX10_init_28 : decode cX10_init 28 = .ok (.putfield 21, 3) := by decide +kernel
theorem dX10_init_31 : decode cX10_init 31 = .ok (.aload_n 0, 1) := by decide +kernel
theorem dX10_init_32 : decode cX10_init 32 = .ok (.bipush 61, 2) := by decide +kernel
theorem dX10_init_34 : decode cX10_init 34 = .ok (.newarray .int, 2) := by decide +kernel
theorem dX10_init_36 : decode cX10_init 36 = .ok (.putfield 25, 3) := by decide +kernel
theorem dX10_init_39 : decode cX10_init 39 = .ok (.aload_n 0, 1) := by decide +kernel
theorem dX10_init_40 : decode cX10_init 40 = .ok (.bipush 61, 2) := by decide +kernel
theorem dX10_init_42 : decode cX10_init 42 = .ok (.newarray .int, 2) := by decide +kernel
theorem dX10_init_44 : decode cX10_init 44 = .ok (.putfield 28, 3) := by decide +kernel
theorem dX10_init_47 : decode cX10_init 47 = .ok (.aload_n 0, 1) := by decide +kernel
theorem dX10_init_48 : decode cX10_init 48 = .ok (.bipush 61, 2) := by decide +kernel
theorem dX10_init_50 : decode cX10_init 50 = .ok (.newarray .int, 2) := by decide +kernel
theorem dX10_init_52 : decode cX10_init 52 = .ok (.putfield 31, 3) := by decide +kernel
theorem dX10_init_55 : decode cX10_init 55 = .ok (.return_, 1) := by decide +kernel
theorem dX10_add_0 : decode cX10_add 0 = .ok (.aload_n 0, 1) := by decide +kernel
theorem dX10_add_1 : decode cX10_add 1 = .ok (.getfield 34, 3) := by decide +kernel
theorem dX10_add_4 : decode cX10_add 4 = .ok (.bipush 10, 2) := by decide +kernel
theorem dX10_add_6 : decode cX10_add 6 = .ok (.if_icmp .lt 6, 3) := by decide +kernel
theorem dX10_add_9 : decode cX10_add 9 = .ok (.bipush (-5), 2) := by decide +kernel
theorem dX10_add_11 : decode cX10_add 11 = .ok (.ireturn, 1) := by decide +kernel
theorem dX10_add_12 : decode cX10_add 12 = .ok (.aload_n 0, 1) := by decide +kernel
theorem dX10_add_13 : decode cX10_add 13 = .ok (.getfield 11, 3) := by decide +kernel
theorem dX10_add_16 : decode cX10_add 16 = .ok (.aload_n 0, 1) := by decide +kernel
theorem dX10_add_17 : decode cX10_add 17 = .ok (.getfield 34, 3) := by decide +kernel
theorem dX10_add_20 : decode cX10_add 20 = .ok (.iload_n 1, 1) := by decide +kernel
theorem dX10_add_21 : decode cX10_add 21 = .ok (.iastore, 1) := by decide +kernel
theorem dX10_add_22 : decode cX10_add 22 = .ok (.aload_n 0, 1) := by decide +kernel
theorem dX10_add_23 : decode cX10_add 23 = .ok (.getfield 15, 3) := by decide +kernel
theorem dX10_add_26 : decode cX10_add 26 = .ok (.aload_n 0, 1) := by decide +kernel
theorem dX10_add_27 : decode cX10_add 27 = .ok (.getfield 34, 3) := by decide +kernel
theorem dX10_add_30 : decode cX10_add 30 = .ok (.iload_n 2, 1) := by decide +kernel
theorem dX10_add_31 : decode cX10_add 31 = .ok (.iastore, 1) := by decide +kernel
theorem dX10_add_32 : decode cX10_add 32 = .ok (.aload_n 0, 1) := by decide +kernel
theorem dX10_add_33 : decode cX10_add 33 = .ok (.dup, 1) := by decide +kernel
theorem dX10_add_34 : decode cX10_add 34 = .ok (.getfield 34, 3) := by decide +kernel
theorem dX10_add_37 : decode cX10_add 37 = .ok (.iconst 1, 1) := by decide +kernel
theorem dX10_add_38 : decode cX10_add 38 = .ok (.iadd, 1) := by decide +kernel
theorem dX10_add_39 : decode cX10_add 39 = .ok (.putfield 34, 3) := by decide +kernel
theorem dX10_add_42 : decode cX10_add 42 = .ok (.aload_n 0, 1) := by decide +kernel
theorem dX10_add_43 : decode cX10_add 43 = .ok (.getfield 34, 3) := by decide +kernel
theorem dX10_add_46 : decode cX10_add 46 = .ok (.ireturn, 1) := by decide +kernel
theorem dX10_findThoseThatFit_0 : decode cX10_findThoseThatFit 0 = .ok (.aload_n 0, 1) := by decide +kernel
theorem dX10_findThoseThatFit_1 : decode cX10_findThoseThatFit 1 = .ok (.iconst 0, 1) := by decide +kernel
theorem dX10_findThoseThatFit_2 : decode cX10_findThoseThatFit 2 = .ok (.putfield 38, 3) := by decide +kernel
theorem dX10_findThoseThatFit_5 : decode cX10_findThoseThatFit 5 = .ok (.aload_n 0, 1) := by decide +kernel
theorem dX10_findThoseThatFit_6 : decode cX10_findThoseThatFit 6 = .ok (.iconst (-1), 1) := by decide +kernel
theorem dX10_findThoseThatFit_7 : decode cX10_findThoseThatFit 7 = .ok (.putfield 41, 3) := by decide +kernel
theorem dX10_findThoseThatFit_10 : decode cX10_findThoseThatFit 10 = .ok (.iconst 0, 1) := by decide +kernel
theorem dX10_findThoseThatFit_11 : decode cX10_findThoseThatFit 11 = .ok (.istore_n 2, 1) := by decide +kernel
theorem dX10_findThoseThatFit_12 : decode cX10_findThoseThatFit 12 = .ok (.iload_n 2, 1) := by decide +kernel
theorem dX10_findThoseThatFit_13 : decode cX10_findThoseThatFit 13 = .ok (.bipush 20, 2) := by decide +kernel
theorem dX10_findThoseThatFit_15 : decode cX10_findThoseThatFit 15 = .ok (.if_icmp .gt 75, 3) := by decide +kernel
theorem dX10_findThoseThatFit_18 : decode cX10_findThoseThatFit 18 = .ok (.iconst 0, 1) := by decide +kernel
theorem dX10_findThoseThatFit_19 : decode cX10_findThoseThatFit 19 = .ok (.istore_n 3, 1) := by decide +kernel
theorem dX10_findThoseThatFit_20 : decode cX10_findThoseThatFit 20 = .ok (.iload_n 3, 1) := by decide +kernel
theorem dX10_findThoseThatFit_21 : decode cX10_findThoseThatFit 21 = .ok (.bipush 20, 2) := by decide +kernel
theorem dX10_findThoseThatFit_23 : decode cX10_findThoseThatFit 23 = .ok (.if_icmp .gt 61, 3) := by decide +kernel
theorem dX10_findThoseThatFit_26 : decode cX10_findThoseThatFit 26 = .ok (.aload_n 0, 1) := by decide +kernel
theorem dX10_findThoseThatFit_27 : decode cX10_findThoseThatFit 27 = .ok (.iload_n 2, 1) := by decide +kernel
theorem dX10_findThoseThatFit_28 : decode cX10_findThoseThatFit 28 = .ok (.iload_n 3, 1) := by decide +kernel
theorem dX10_findThoseThatFit_29 : decode cX10_findThoseThatFit 29 = .ok (.invokevirtual 44, 3) := by decide +kernel
theorem dX10_findThoseThatFit_32 : decode cX10_findThoseThatFit 32 = .ok (.aload_n 0, 1) := by decide +kernel
theorem dX10_findThoseThatFit_33 : decode cX10_findThoseThatFit 33 = .ok (.iload_n 1, 1) := by decide +kernel
theorem dX10_findThoseThatFit_34 : decode cX10_findThoseThatFit 34 = .ok (.invokevirtual 48, 3) := by decide +kernel
theorem dX10_findThoseThatFit_37 : decode cX10_findThoseThatFit 37 = .ok (.ifCond .eq 41, 3) := by decide +kernel
theorem dX10_findThoseThatFit_40 : decode cX10_findThoseThatFit 40 = .ok (.aload_n 0, 1) := by decide +kernel
theorem dX10_findThoseThatFit_41 : decode cX10_findThoseThatFit 41 = .ok (.invokevirtual 52, 3) := by decide +kernel
theorem dX10_findThoseThatFit_44 : decode cX10_findThoseThatFit 44 = .ok (.aload_n 0, 1) := by decide +kernel
theorem dX10_findThoseThatFit_45 : decode cX10_findThoseThatFit 45 = .ok (.aload_n 0, 1) := by decide +kernel
theorem dX10_findThoseThatFit_46 : decode cX10_findThoseThatFit 46 = .ok (.getfield 38, 3) := by decide +kernel
theorem dX10_findThoseThatFit_49 : decode cX10_findThoseThatFit 49 = .ok (.ifCond .ne 12, 3) := by decide +kernel
theorem dX10_findThoseThatFit_52 : decode cX10_findThoseThatFit 52 = .ok (.bipush 100, 2) := by decide +kernel
theorem dX10_findThoseThatFit_54 : decode cX10_findThoseThatFit 54 = .ok (.iload_n 2, 1) := by decide +kernel
theorem dX10_findThoseThatFit_55 : decode cX10_findThoseThatFit 55 = .ok (.imul, 1) := by decide +kernel
theorem dX10_findThoseThatFit_56 : decode cX10_findThoseThatFit 56 = .ok (.iload_n 3, 1) := by decide +kernel
theorem dX10_findThoseThatFit_57 : decode cX10_findThoseThatFit 57 = .ok (.iadd, 1) := by decide +kernel
theorem dX10_findThoseThatFit_58 : decode cX10_findThoseThatFit 58 = .ok (.goto 7, 3) := by decide +kernel
theorem dX10_findThoseThatFit_61 : decode cX10_findThoseThatFit 61 = .ok (.aload_n 0, 1) := by decide +kernel
theorem dX10_findThoseThatFit_62 : decode cX10_findThoseThatFit 62 = .ok (.getfield 41, 3) := by decide +kernel
theorem dX10_findThoseThatFit_65 : decode cX10_findThoseThatFit 65 = .ok (.putfield 41, 3) := by decide +kernel
theorem dX10_findThoseThatFit_68 : decode cX10_findThoseThatFit 68 = .ok (.aload_n 0, 1) := by decide +kernel
theorem dX10_findThoseThatFit_69 : decode cX10_findThoseThatFit 69 = .ok (.dup, 1) := by decide +kernel
theorem dX10_findThoseThatFit_70 : decode cX10_findThoseThatFit 70 = .ok (.getfield 38, 3) := by decide +kernel
theorem dX10_findThoseThatFit_73 : decode cX10_findThoseThatFit 73 = .ok (.iconst 1, 1) := by decide +kernel
theorem dX10_findThoseThatFit_74 : decode cX10_findThoseThatFit 74 = .ok (.iadd, 1) := by decide +kernel
theorem dX10_findThoseThatFit_75 : decode cX10_findThoseThatFit 75 = .ok (.putfield 38, 3) := by decide +kernel
theorem dX10_findThoseThatFit_78 : decode cX10_findThoseThatFit 78 = .ok (.iinc 3 1, 3) := by decide +kernel
theorem dX10_findThoseThatFit_81 : decode cX10_findThoseThatFit 81 = .ok (.goto (-61), 3) := by decide +kernel
theorem dX10_findThoseThatFit_84 : decode cX10_findThoseThatFit 84 = .ok (.iinc 2 1, 3) := by decide +kernel
theorem dX10_findThoseThatFit_87 : decode cX10_findThoseThatFit 87 = .ok (.goto (-75), 3) := by decide +kernel
theorem dX10_findThoseThatFit_90 : decode cX10_findThoseThatFit 90 = .ok (.return_, 1) := by decide +kernel
theorem dX10_follow_0 : decode cX10_follow 0 = .ok (.aload_n 0, 1) := by decide +kernel
theorem dX10_follow_1 : decode cX10_follow 1 = .ok (.getfield 21, 3) := by decide +kernel
theorem dX10_follow_4 : decode cX10_follow 4 = .ok (.iload_n 1, 1) := by decide +kernel
theorem dX10_follow_5 : decode cX10_follow 5 = .ok (.putfield 55, 3) := by decide +kernel
theorem dX10_follow_8 : decode cX10_follow 8 = .ok (.aload_n 0, 1) := by decide +kernel
theorem dX10_follow_9 : decode cX10_follow 9 = .ok (.getfield 21, 3) := by decide +kernel
theorem dX10_follow_12 : decode cX10_follow 12 = .ok (.iload_n 2, 1) := by decide +kernel
theorem dX10_follow_13 : decode cX10_follow 13 = .ok (.putfield 58, 3) := by decide +kernel
theorem dX10_follow_16 : decode cX10_follow 16 = .ok (.aload_n 0, 1) := by decide +kernel
theorem dX10_follow_17 : decode cX10_follow 17 = .ok (.getfield 21, 3) := by decide +kernel
theorem dX10_follow_20 : decode cX10_follow 20 = .ok (.sipush 3000, 3) := by decide +kernel
theorem dX10_follow_23 : decode cX10_follow 23 = .ok (.invokevirtual 61, 3) := by decide +kernel
theorem dX10_follow_26 : decode cX10_follow 26 = .ok (.aload_n 0, 1) := by decide +kernel
theorem dX10_follow_27 : decode cX10_follow 27 = .ok (.getfield 25, 3) := by decide +kernel
theorem dX10_follow_30 : decode cX10_follow 30 = .ok (.iconst 0, 1) := by decide +kernel
theorem dX10_follow_31 : decode cX10_follow 31 = .ok (.sipush 3000, 3) := by decide +kernel
theorem dX10_follow_34 : decode cX10_follow 34 = .ok (.iastore, 1) := by decide +kernel
theorem dX10_follow_35 : decode cX10_follow 35 = .ok (.iconst 1, 1) := by decide +kernel
theorem dX10_follow_36 : decode cX10_follow 36 = .ok (.istore_n 3, 1) := by decide +kernel
theorem dX10_follow_37 : decode cX10_follow 37 = .ok (.iload_n 3, 1) := by decide +kernel
theorem dX10_follow_38 : decode cX10_follow 38 = .ok (.bipush 60, 2) := by decide +kernel
theorem dX10_follow_40 : decode cX10_follow 40 = .ok (.if_icmp .gt 42, 3) := by decide +kernel
theorem dX10_follow_43 : decode cX10_follow 43 = .ok (.aload_n 0, 1) := by decide +kernel
theorem dX10_follow_44 : decode cX10_follow 44 = .ok (.getfield 21, 3) := by decide +kernel
theorem dX10_follow_47 : decode cX10_follow 47 = .ok (.iconst 0, 1) := by decide +kernel
theorem dX10_follow_48 : decode cX10_follow 48 = .ok (.invokestatic 65, 3) := by decide +kernel
theorem dX10_follow_51 : decode cX10_follow 51 = .ok (.aload_n 0, 1) := by decide +kernel
theorem dX10_follow_52 : decode cX10_follow 52 = .ok (.getfield 21, 3) := by decide +kernel
theorem dX10_follow_55 : decode cX10_follow 55 = .ok (.getfield 69, 3) := by decide +kernel
theorem dX10_follow_58 : decode cX10_follow 58 = .ok (.iconst 0, 1) := by decide +kernel
theorem dX10_follow_59 : decode cX10_follow 59 = .ok (.iconst 1, 1) := by decide +kernel
theorem dX10_follow_60 : decode cX10_follow 60 = .ok (.invokevirtual 72, 3) := by decide +kernel
theorem dX10_follow_63 : decode cX10_follow 63 = .ok (.aload_n 0, 1) := by decide +kernel
theorem dX10_follow_64 : decode cX10_follow 64 = .ok (.getfield 25, 3) := by decide +kernel
theorem dX10_follow_67 : decode cX10_follow 67 = .ok (.iload_n 3, 1) := by decide +kernel
theorem dX10_follow_68 : decode cX10_follow 68 = .ok (.aload_n 0, 1) := by decide +kernel
theorem dX10_follow_69 : decode cX10_follow 69 = .ok (.getfield 21, 3) := by decide +kernel
theorem dX10_follow_72 : decode cX10_follow 72 = .ok (.getfield 69, 3) := by decide +kernel
theorem dX10_follow_75 : decode cX10_follow 75 = .ok (.iastore, 1) := by decide +kernel
theorem dX10_follow_76 : decode cX10_follow 76 = .ok (.iinc 3 1, 3) := by decide +kernel
theorem dX10_follow_79 : decode cX10_follow 79 = .ok (.goto (-42), 3) := by decide +kernel
theorem dX10_follow_82 : decode cX10_follow 82 = .ok (.return_, 1) := by decide +kernel
theorem dX10_fits_0 : decode cX10_fits 0 = .ok (.iconst 0, 1) := by decide +kernel
theorem dX10_fits_1 : decode cX10_fits 1 = .ok (.istore_n 2, 1) := by decide +kernel
theorem dX10_fits_2 : decode cX10_fits 2 = .ok (.iload_n 2, 1) := by decide +kernel
theorem dX10_fits_3 : decode cX10_fits 3 = .ok (.aload_n 0, 1) := by decide +kernel
theorem dX10_fits_4 : decode cX10_fits 4 = .ok (.getfield 34, 3) := by decide +kernel
theorem dX10_fits_7 : decode cX10_fits 7 = .ok (.if_icmp .ge 35, 3) := by decide +kernel
theorem dX10_fits_10 : decode cX10_fits 10 = .ok (.aload_n 0, 1) := by decide +kernel
theorem dX10_fits_11 : decode cX10_fits 11 = .ok (.getfield 25, 3) := by decide +kernel
theorem dX10_fits_14 : decode cX10_fits 14 = .ok (.aload_n 0, 1) := by decide +kernel
theorem dX10_fits_15 : decode cX10_fits 15 = .ok (.getfield 11, 3) := by decide +kernel
theorem dX10_fits_18 : decode cX10_fits 18 = .ok (.iload_n 2, 1) := by decide +kernel
theorem dX10_fits_19 : decode cX10_fits 19 = .ok (.iaload, 1) := by decide +kernel
theorem dX10_fits_20 : decode cX10_fits 20 = .ok (.iaload, 1) := by decide +kernel
theorem dX10_fits_21 : decode cX10_fits 21 = .ok (.aload_n 0, 1) := by decide +kernel
theorem dX10_fits_22 : decode cX10_fits 22 = .ok (.getfield 15, 3) := by decide +kernel
theorem dX10_fits_25 : decode cX10_fits 25 = .ok (.iload_n 2, 1) := by decide +kernel
theorem dX10_fits_26 : decode cX10_fits 26 = .ok (.iaload, 1) := by decide +kernel
theorem dX10_fits_27 : decode cX10_fits 27 = .ok (.invokestatic 76, 3) := by decide +kernel
theorem dX10_fits_30 : decode cX10_fits 30 = .ok (.iload_n 1, 1) := by decide +kernel
theorem dX10_fits_31 : decode cX10_fits 31 = .ok (.if_icmp .le 5, 3) := by decide +kernel
theorem dX10_fits_34 : decode cX10_fits 34 = .ok (.iconst 0, 1) := by decide +kernel
theorem dX10_fits_35 : decode cX10_fits 35 = .ok (.ireturn, 1) := by decide +kernel
theorem dX10_fits_36 : decode cX10_fits 36 = .ok (.iinc 2 1, 3) := by decide +kernel
theorem dX10_fits_39 : decode cX10_fits 39 = .ok (.goto (-37), 3) := by decide +kernel
theorem dX10_fits_42 : decode cX10_fits 42 = .ok (.iconst 1, 1) := by decide +kernel
theorem dX10_fits_43 : decode cX10_fits 43 = .ok (.ireturn, 1) := by decide +kernel
theorem dX10_widen_0 : decode cX10_widen 0 = .ok (.iconst 0, 1) := by decide +kernel
theorem dX10_widen_1 : decode cX10_widen 1 = .ok (.istore_n 1, 1) := by decide +kernel
theorem dX10_widen_2 : decode cX10_widen 2 = .ok (.iload_n 1, 1) := by decide +kernel
theorem dX10_widen_3 : decode cX10_widen 3 = .ok (.bipush 60, 2) := by decide +kernel
theorem dX10_widen_5 : decode cX10_widen 5 = .ok (.if_icmp .gt 83, 3) := by decide +kernel
theorem dX10_widen_8 : decode cX10_widen 8 = .ok (.aload_n 0, 1) := by decide +kernel
theorem dX10_widen_9 : decode cX10_widen 9 = .ok (.getfield 28, 3) := by decide +kernel
theorem dX10_widen_12 : decode cX10_widen 12 = .ok (.iload_n 1, 1) := by decide +kernel
theorem dX10_widen_13 : decode cX10_widen 13 = .ok (.aload_n 0, 1) := by decide +kernel
theorem dX10_widen_14 : decode cX10_widen 14 = .ok (.getfield 38, 3) := by decide +kernel
theorem dX10_widen_17 : decode cX10_widen 17 = .ok (.ifCond .ne 12, 3) := by decide +kernel
theorem dX10_widen_20 : decode cX10_widen 20 = .ok (.aload_n 0, 1) := by decide +kernel
theorem dX10_widen_21 : decode cX10_widen 21 = .ok (.getfield 25, 3) := by decide +kernel
theorem dX10_widen_24 : decode cX10_widen 24 = .ok (.iload_n 1, 1) := by decide +kernel
theorem dX10_widen_25 : decode cX10_widen 25 = .ok (.iaload, 1) := by decide +kernel
theorem dX10_widen_26 : decode cX10_widen 26 = .ok (.goto 18, 3) := by decide +kernel
theorem dX10_widen_29 : decode cX10_widen 29 = .ok (.aload_n 0, 1) := by decide +kernel
theorem dX10_widen_30 : decode cX10_widen 30 = .ok (.getfield 28, 3) := by decide +kernel
theorem dX10_widen_33 : decode cX10_widen 33 = .ok (.iload_n 1, 1) := by decide +kernel
theorem dX10_widen_34 : decode cX10_widen 34 = .ok (.iaload, 1) := by decide +kernel
theorem dX10_widen_35 : decode cX10_widen 35 = .ok (.aload_n 0, 1) := by decide +kernel
theorem dX10_widen_36 : decode cX10_widen 36 = .ok (.getfield 25, 3) := by decide +kernel
theorem dX10_widen_39 : decode cX10_widen 39 = .ok (.iload_n 1, 1) := by decide +kernel
theorem dX10_widen_40 : decode cX10_widen 40 = .ok (.iaload, 1) := by decide +kernel
theorem dX10_widen_41 : decode cX10_widen 41 = .ok (.invokestatic 80, 3) := by decide +kernel
theorem dX10_widen_44 : decode cX10_widen 44 = .ok (.iastore, 1) := by decide +kernel
theorem dX10_widen_45 : decode cX10_widen 45 = .ok (.aload_n 0, 1) := by decide +kernel
theorem dX10_widen_46 : decode cX10_widen 46 = .ok (.getfield 31, 3) := by decide +kernel
theorem dX10_widen_49 : decode cX10_widen 49 = .ok (.iload_n 1, 1) := by decide +kernel
theorem dX10_widen_50 : decode cX10_widen 50 = .ok (.aload_n 0, 1) := by decide +kernel
theorem dX10_widen_51 : decode cX10_widen 51 = .ok (.getfield 38, 3) := by decide +kernel
theorem dX10_widen_54 : decode cX10_widen 54 = .ok (.ifCond .ne 12, 3) := by decide +kernel
theorem dX10_widen_57 : decode cX10_widen 57 = .ok (.aload_n 0, 1) := by decide +kernel
theorem dX10_widen_58 : decode cX10_widen 58 = .ok (.getfield 25, 3) := by decide +kernel
theorem dX10_widen_61 : decode cX10_widen 61 = .ok (.iload_n 1, 1) := by decide +kernel
theorem dX10_widen_62 : decode cX10_widen 62 = .ok (.iaload, 1) := by decide +kernel
theorem dX10_widen_63 : decode cX10_widen 63 = .ok (.goto 18, 3) := by decide +kernel
theorem dX10_widen_66 : decode cX10_widen 66 = .ok (.aload_n 0, 1) := by decide +kernel
theorem dX10_widen_67 : decode cX10_widen 67 = .ok (.getfield 31, 3) := by decide +kernel
theorem dX10_widen_70 : decode cX10_widen 70 = .ok (.iload_n 1, 1) := by decide +kernel
theorem dX10_widen_71 : decode cX10_widen 71 = .ok (.iaload, 1) := by decide +kernel
theorem dX10_widen_72 : decode cX10_widen 72 = .ok (.aload_n 0, 1) := by decide +kernel
theorem dX10_widen_73 : decode cX10_widen 73 = .ok (.getfield 25, 3) := by decide +kernel
theorem dX10_widen_76 : decode cX10_widen 76 = .ok (.iload_n 1, 1) := by decide +kernel
theorem dX10_widen_77 : decode cX10_widen 77 = .ok (.iaload, 1) := by decide +kernel
theorem dX10_widen_78 : decode cX10_widen 78 = .ok (.invokestatic 85, 3) := by decide +kernel
theorem dX10_widen_81 : decode cX10_widen 81 = .ok (.iastore, 1) := by decide +kernel
theorem dX10_widen_82 : decode cX10_widen 82 = .ok (.iinc 1 1, 3) := by decide +kernel
theorem dX10_widen_85 : decode cX10_widen 85 = .ok (.goto (-83), 3) := by decide +kernel
theorem dX10_widen_88 : decode cX10_widen 88 = .ok (.return_, 1) := by decide +kernel
theorem dX10_widestTick_0 : decode cX10_widestTick 0 = .ok (.aload_n 0, 1) := by decide +kernel
theorem dX10_widestTick_1 : decode cX10_widestTick 1 = .ok (.getfield 38, 3) := by decide +kernel
theorem dX10_widestTick_4 : decode cX10_widestTick 4 = .ok (.ifCond .ne 5, 3) := by decide +kernel
theorem dX10_widestTick_7 : decode cX10_widestTick 7 = .ok (.iconst (-1), 1) := by decide +kernel
theorem dX10_widestTick_8 : decode cX10_widestTick 8 = .ok (.ireturn, 1) := by decide +kernel
theorem dX10_widestTick_9 : decode cX10_widestTick 9 = .ok (.iconst 0, 1) := by decide +kernel
theorem dX10_widestTick_10 : decode cX10_widestTick 10 = .ok (.istore_n 1, 1) := by decide +kernel
theorem dX10_widestTick_11 : decode cX10_widestTick 11 = .ok (.iconst 1, 1) := by decide +kernel
theorem dX10_widestTick_12 : decode cX10_widestTick 12 = .ok (.istore_n 2, 1) := by decide +kernel
theorem dX10_widestTick_13 : decode cX10_widestTick 13 = .ok (.iload_n 2, 1) := by decide +kernel
theorem dX10_widestTick_14 : decode cX10_widestTick 14 = .ok (.bipush 60, 2) := by decide +kernel
theorem dX10_widestTick_16 : decode cX10_widestTick 16 = .ok (.if_icmp .gt 40, 3) := by decide +kernel
theorem dX10_widestTick_19 : decode cX10_widestTick 19 = .ok (.aload_n 0, 1) := by decide +kernel
theorem dX10_widestTick_20 : decode cX10_widestTick 20 = .ok (.getfield 31, 3) := by decide +kernel
theorem dX10_widestTick_23 : decode cX10_widestTick 23 = .ok (.iload_n 2, 1) := by decide +kernel
theorem dX10_widestTick_24 : decode cX10_widestTick 24 = .ok (.iaload, 1) := by decide +kernel
theorem dX10_widestTick_25 : decode cX10_widestTick 25 = .ok (.aload_n 0, 1) := by decide +kernel
theorem dX10_widestTick_26 : decode cX10_widestTick 26 = .ok (.getfield 28, 3) := by decide +kernel
theorem dX10_widestTick_29 : decode cX10_widestTick 29 = .ok (.iload_n 2, 1) := by decide +kernel
theorem dX10_widestTick_30 : decode cX10_widestTick 30 = .ok (.iaload, 1) := by decide +kernel
theorem dX10_widestTick_31 : decode cX10_widestTick 31 = .ok (.isub, 1) := by decide +kernel
theorem dX10_widestTick_32 : decode cX10_widestTick 32 = .ok (.aload_n 0, 1) := by decide +kernel
theorem dX10_widestTick_33 : decode cX10_widestTick 33 = .ok (.getfield 31, 3) := by decide +kernel
theorem dX10_widestTick_36 : decode cX10_widestTick 36 = .ok (.iload_n 1, 1) := by decide +kernel
theorem dX10_widestTick_37 : decode cX10_widestTick 37 = .ok (.iaload, 1) := by decide +kernel
theorem dX10_widestTick_38 : decode cX10_widestTick 38 = .ok (.aload_n 0, 1) := by decide +kernel
theorem dX10_widestTick_39 : decode cX10_widestTick 39 = .ok (.getfield 28, 3) := by decide +kernel
theorem dX10_widestTick_42 : decode cX10_widestTick 42 = .ok (.iload_n 1, 1) := by decide +kernel
theorem dX10_widestTick_43 : decode cX10_widestTick 43 = .ok (.iaload, 1) := by decide +kernel
theorem dX10_widestTick_44 : decode cX10_widestTick 44 = .ok (.isub, 1) := by decide +kernel
theorem dX10_widestTick_45 : decode cX10_widestTick 45 = .ok (.if_icmp .le 5, 3) := by decide +kernel
theorem dX10_widestTick_48 : decode cX10_widestTick 48 = .ok (.iload_n 2, 1) := by decide +kernel
theorem dX10_widestTick_49 : decode cX10_widestTick 49 = .ok (.istore_n 1, 1) := by decide +kernel
theorem dX10_widestTick_50 : decode cX10_widestTick 50 = .ok (.iinc 2 1, 3) := by decide +kernel
theorem dX10_widestTick_53 : decode cX10_widestTick 53 = .ok (.goto (-40), 3) := by decide +kernel
theorem dX10_widestTick_56 : decode cX10_widestTick 56 = .ok (.iload_n 1, 1) := by decide +kernel
theorem dX10_widestTick_57 : decode cX10_widestTick 57 = .ok (.ireturn, 1) := by decide +kernel
theorem dX11_init_0 : decode cX11_init 0 = .ok (.aload_n 0, 1) := by decide +kernel
theorem dX11_init_1 : decode cX11_init 1 = .ok (.invokespecial 1, 3) := by decide +kernel
theorem dX11_init_4 : decode cX11_init 4 = .ok (.aload_n 0, 1) := by decide +kernel
theorem dX11_init_5 : decode cX11_init 5 = .ok (.new 7, 3) := by decide +kernel
theorem dX11_init_8 : decode cX11_init 8 = .ok (.dup, 1) := by decide +kernel
theorem dX11_init_9 : decode cX11_init 9 = .ok (.invokespecial 9, 3) := by decide +kernel
theorem dX11_init_12 : decode cX11_init 12 = .ok (.putfield 10, 3) := by decide +kernel
theorem dX11_init_15 : decode cX11_init 15 = .ok (.aload_n 0, 1) := by decide +kernel
theorem dX11_init_16 : decode cX11_init 16 = .ok (.new 16, 3) := by decide +kernel
theorem dX11_init_19 : decode cX11_init 19 = .ok (.dup, 1) := by decide +kernel
theorem dX11_init_20 : decode cX11_init 20 = .ok (.invokespecial 18, 3) := by decide +kernel
theorem dX11_init_23 : decode cX11_init 23 = .ok (.putfield 19, 3) := by decide +kernel
theorem dX11_init_26 : decode cX11_init 26 = .ok (.aload_n 0, 1) := by decide +kernel
theorem dX11_init_27 : decode cX11_init 27 = .ok (.new 23, 3) := by decide +kernel
theorem dX11_init_30 : decode cX11_init 30 = .ok (.dup, 1) := by decide +kernel
theorem dX11_init_31 : decode cX11_init 31 = .ok (.aload_n 0, 1) := by decide +kernel
theorem dX11_init_32 : decode cX11_init 32 = .ok (.getfield 10, 3) := by decide +kernel
theorem dX11_init_35 : decode cX11_init 35 = .ok (.aload_n 0, 1) := by decide +kernel
theorem dX11_init_36 : decode cX11_init 36 = .ok (.getfield 19, 3) := by decide +kernel
theorem dX11_init_39 : decode cX11_init 39 = .ok (.invokespecial 25, 3) := by decide +kernel
theorem dX11_init_42 : decode cX11_init 42 = .ok (.putfield 28, 3) := by decide +kernel
theorem dX11_init_45 : decode cX11_init 45 = .ok (.aload_n 0, 1) := by decide +kernel
theorem dX11_init_46 : decode cX11_init 46 = .ok (.new 32, 3) := by decide +kernel
theorem dX11_init_49 : decode cX11_init 49 = .ok (.dup, 1) := by decide +kernel
theorem dX11_init_50 : decode cX11_init 50 = .ok (.invokespecial 34, 3) := by decide +kernel
theorem dX11_init_53 : decode cX11_init 53 = .ok (.putfield 35, 3) := by decide +kernel
theorem dX11_init_56 : decode cX11_init 56 = .ok (.aload_n 0, 1) := by decide +kernel
theorem dX11_init_57 : decode cX11_init 57 = .ok (.new 39, 3) := by decide +kernel
theorem dX11_init_60 : decode cX11_init 60 = .ok (.dup, 1) := by decide +kernel
theorem dX11_init_61 : decode cX11_init 61 = .ok (.invokespecial 41, 3) := by decide +kernel
theorem dX11_init_64 : decode cX11_init 64 = .ok (.putfield 42, 3) := by decide +kernel
theorem dX11_init_67 : decode cX11_init 67 = .ok (.aload_n 0, 1) := by decide +kernel
theorem dX11_init_68 : decode cX11_init 68 = .ok (.new 46, 3) := by decide +kernel
theorem dX11_init_71 : decode cX11_init 71 = .ok (.dup, 1) := by decide +kernel
theorem dX11_init_72 : decode cX11_init 72 = .ok (.invokespecial 48, 3) := by decide +kernel
theorem dX11_init_75 : decode cX11_init 75 = .ok (.putfield 49, 3) := by decide +kernel
theorem dX11_init_78 : decode cX11_init 78 = .ok (.aload_n 0, 1) := by decide +kernel
theorem dX11_init_79 : decode cX11_init 79 = .ok (.new 53, 3) := by decide +kernel
theorem dX11_init_82 : decode cX11_init 82 = .ok (.dup, 1) := by decide +kernel
theorem dX11_init_83 : decode cX11_init 83 = .ok (.new 23, 3) := by decide +kernel
theorem dX11_init_86 : decode cX11_init 86 = .ok (.dup, 1) := by decide +kernel
theorem dX11_init_87 : decode cX11_init 87 = .ok (.aload_n 0, 1) := by decide +kernel
theorem dX11_init_88 : decode cX11_init 88 = .ok (.getfield 10, 3) := by decide +kernel
theorem dX11_init_91 : decode cX11_init 91 = .ok (.aload_n 0, 1) := by decide +kernel
theorem dX11_init_92 : decode cX11_init 92 = .ok (.getfield 19, 3) := by decide +kernel
theorem dX11_init_95 : decode cX11_init 95 = .ok (.invokespecial 25, 3) := by decide +kernel
theorem dX11_init_98 : decode cX11_init 98 = .ok (.new 32, 3) := by decide +kernel
theorem dX11_init_101 : decode cX11_init 101 = .ok (.dup, 1) := by decide +kernel
theorem dX11_init_102 : decode cX11_init 102 = .ok (.invokespecial 34, 3) := by decide +kernel
theorem dX11_init_105 : decode cX11_init 105 = .ok (.invokespecial 55, 3) := by decide +kernel
theorem dX11_init_108 : decode cX11_init 108 = .ok (.putfield 58, 3) := by decide +kernel
theorem dX11_init_111 : decode cX11_init 111 = .ok (.aload_n 0, 1) := by decide +kernel
theorem dX11_init_112 : decode cX11_init 112 = .ok (.new 62, 3) := by decide +kernel
theorem dX11_init_115 : decode cX11_init 115 = .ok (.dup, 1) := by decide +kernel
theorem dX11_init_116 : decode cX11_init 116 = .ok (.invokespecial 64, 3) := by decide +kernel
theorem dX11_init_119 : decode cX11_init 119 = .ok (.putfield 65, 3) := by decide +kernel
theorem dX11_init_122 : decode cX11_init 122 = .ok (.aload_n 0, 1) := by decide +kernel
theorem dX11_init_123 : decode cX11_init 123 = .ok (.new 69, 3) := by decide +kernel
theorem dX11_init_126 : decode cX11_init 126 = .ok (.dup, 1) := by decide +kernel
theorem dX11_init_127 : decode cX11_init 127 = .ok (.invokespecial 71, 3) := by decide +kernel
theorem dX11_init_130 : decode cX11_init 130 = .ok (.putfield 72, 3) := by decide +kernel
theorem dX11_init_133 : decode cX11_init 133 = .ok (.aload_n 0, 1) := by decide +kernel
theorem dX11_init_134 : decode cX11_init 134 = .ok (.new 76, 3) := by decide +kernel
theorem dX11_init_137 : decode cX11_init 137 = .ok (.dup, 1) := by decide +kernel
theorem dX11_init_138 : decode cX11_init 138 = .ok (.invokespecial 78, 3) := by decide +kernel
theorem dX11_init_141 : decode cX11_init 141 = .ok (.putfield 79, 3) := by decide +kernel
theorem dX11_init_144 : decode cX11_init 144 = .ok (.return_, 1) := by decide +kernel
theorem dX11_set_0 : decode cX11_set 0 = .ok (.iload_n 1, 1) := by decide +kernel
theorem dX11_set_1 : decode cX11_set 1 = .ok (.ifCond .ne 29, 3) := by decide +kernel
theorem dX11_set_4 : decode cX11_set 4 = .ok (.iload_n 2, 1) := by decide +kernel
theorem dX11_set_5 : decode cX11_set 5 = .ok (.invokestatic 83, 3) := by decide +kernel
theorem dX11_set_8 : decode cX11_set 8 = .ok (.ifCond .eq 22, 3) := by decide +kernel
theorem dX11_set_11 : decode cX11_set 11 = .ok (.aload_n 0, 1) := by decide +kernel
theorem dX11_set_12 : decode cX11_set 12 = .ok (.getfield 28, 3) := by decide +kernel
theorem dX11_set_15 : decode cX11_set 15 = .ok (.getfield 87, 3) := by decide +kernel
theorem dX11_set_18 : decode cX11_set 18 = .ok (.istore_n 3, 1) := by decide +kernel
theorem dX11_set_19 : decode cX11_set 19 = .ok (.aload_n 0, 1) := by decide +kernel
theorem dX11_set_20 : decode cX11_set 20 = .ok (.getfield 28, 3) := by decide +kernel
theorem dX11_set_23 : decode cX11_set 23 = .ok (.iload_n 2, 1) := by decide +kernel
theorem dX11_set_24 : decode cX11_set 24 = .ok (.putfield 87, 3) := by decide +kernel
theorem dX11_set_27 : decode cX11_set 27 = .ok (.goto 106, 3) := by decide +kernel
theorem dX11_set_30 : decode cX11_set 30 = .ok (.iload_n 1, 1) := by decide +kernel
theorem dX11_set_31 : decode cX11_set 31 = .ok (.iconst 1, 1) := by decide +kernel
theorem dX11_set_32 : decode cX11_set 32 = .ok (.if_icmp .ne 29, 3) := by decide +kernel
theorem dX11_set_35 : decode cX11_set 35 = .ok (.iload_n 2, 1) := by decide +kernel
theorem dX11_set_36 : decode cX11_set 36 = .ok (.invokestatic 91, 3) := by decide +kernel
theorem dX11_set_39 : decode cX11_set 39 = .ok (.ifCond .eq 22, 3) := by decide +kernel
theorem dX11_set_42 : decode cX11_set 42 = .ok (.aload_n 0, 1) := by decide +kernel
theorem dX11_set_43 : decode cX11_set 43 = .ok (.getfield 28, 3) := by decide +kernel
theorem dX11_set_46 : decode cX11_set 46 = .ok (.getfield 94, 3) := by decide +kernel
theorem dX11_set_49 : decode cX11_set 49 = .ok (.istore_n 3, 1) := by decide +kernel
theorem dX11_set_50 : decode cX11_set 50 = .ok (.aload_n 0, 1) := by decide +kernel
theorem dX11_set_51 : decode cX11_set 51 = .ok (.getfield 28, 3) := by decide +kernel
theorem dX11_set_54 : decode cX11_set 54 = .ok (.iload_n 2, 1) := by decide +kernel
theorem dX11_set_55 : decode cX11_set 55 = .ok (.putfield 94, 3) := by decide +kernel
theorem dX11_set_58 : decode cX11_set 58 = .ok (.goto 75, 3) := by decide +kernel
theorem dX11_set_61 : decode cX11_set 61 = .ok (.iload_n 1, 1) := by decide +kernel
theorem dX11_set_62 : decode cX11_set 62 = .ok (.iconst 2, 1) := by decide +kernel
theorem dX11_set_63 : decode cX11_set 63 = .ok (.if_icmp .ne 32, 3) := by decide +kernel
theorem dX11_set_66 : decode cX11_set 66 = .ok (.iload_n 2, 1) := by decide +kernel
theorem dX11_set_67 : decode cX11_set 67 = .ok (.iconst 0, 1) := by decide +kernel
theorem dX11_set_68 : decode cX11_set 68 = .ok (.bipush 99, 2) := by decide +kernel
theorem dX11_set_70 : decode cX11_set 70 = .ok (.invokestatic 97, 3) := by decide +kernel
theorem dX11_set_73 : decode cX11_set 73 = .ok (.ifCond .eq 22, 3) := by decide +kernel
theorem dX11_set_76 : decode cX11_set 76 = .ok (.aload_n 0, 1) := by decide +kernel
theorem dX11_set_77 : decode cX11_set 77 = .ok (.getfield 28, 3) := by decide +kernel
theorem dX11_set_80 : decode cX11_set 80 = .ok (.getfield 101, 3) := by decide +kernel
theorem dX11_set_83 : decode cX11_set 83 = .ok (.istore_n 3, 1) := by decide +kernel
theorem dX11_set_84 : decode cX11_set 84 = .ok (.aload_n 0, 1) := by decide +kernel
theorem dX11_set_85 : decode cX11_set 85 = .ok (.getfield 28, 3) := by decide +kernel
theorem dX11_set_88 : decode cX11_set 88 = .ok (.iload_n 2, 1) := by decide +kernel
theorem dX11_set_89 : decode cX11_set 89 = .ok (.putfield 101, 3) := by decide +kernel
theorem dX11_set_92 : decode cX11_set 92 = .ok (.goto 41, 3) := by decide +kernel
theorem dX11_set_95 : decode cX11_set 95 = .ok (.iload_n 1, 1) := by decide +kernel
theorem dX11_set_96 : decode cX11_set 96 = .ok (.iconst 3, 1) := by decide +kernel
theorem dX11_set_97 : decode cX11_set 97 = .ok (.if_icmp .ne 33, 3) := by decide +kernel
theorem dX11_set_100 : decode cX11_set 100 = .ok (.iload_n 2, 1) := by decide +kernel
theorem dX11_set_101 : decode cX11_set 101 = .ok (.bipush (-35), 2) := by decide +kernel
theorem dX11_set_103 : decode cX11_set 103 = .ok (.bipush 35, 2) := by decide +kernel
theorem dX11_set_105 : decode cX11_set 105 = .ok (.invokestatic 97, 3) := by decide +kernel
theorem dX11_set_108 : decode cX11_set 108 = .ok (.ifCond .eq 22, 3) := by decide +kernel
theorem dX11_set_111 : decode cX11_set 111 = .ok (.aload_n 0, 1) := by decide +kernel
theorem dX11_set_112 : decode cX11_set 112 = .ok (.getfield 28, 3) := by decide +kernel
theorem dX11_set_115 : decode cX11_set 115 = .ok (.getfield 104, 3) := by decide +kernel
theorem dX11_set_118 : decode cX11_set 118 = .ok (.istore_n 3, 1) := by decide +kernel
theorem dX11_set_119 : decode cX11_set 119 = .ok (.aload_n 0, 1) := by decide +kernel
theorem dX11_set_120 : decode cX11_set 120 = .ok (.getfield 28, 3) := by decide +kernel
theorem dX11_set_123 : decode cX11_set 123 = .ok (.iload_n 2, 1) := by decide +kernel
theorem dX11_set_124 : decode cX11_set 124 = .ok (.putfield 104, 3) := by decide +kernel
theorem dX11_set_127 : decode cX11_set 127 = .ok (.goto 6, 3) := by decide +kernel
theorem dX11_set_130 : decode cX11_set 130 = .ok (.bipush (-3), 2) := by decide +kernel
theorem dX11_set_132 : decode cX11_set 132 = .ok (.ireturn, 1) := by decide +kernel
theorem dX11_set_133 : decode cX11_set 133 = .ok (.iload_n 3, 1) := by decide +kernel
theorem dX11_set_134 : decode cX11_set 134 = .ok (.bipush 100, 2) := by decide +kernel
theorem dX11_set_136 : decode cX11_set 136 = .ok (.iadd, 1) := by decide +kernel
theorem dX11_set_137 : decode cX11_set 137 = .ok (.ireturn, 1) := by decide +kernel
theorem dX11_head_0 : decode cX11_head 0 = .ok (.iload_n 1, 1) := by decide +kernel
theorem dX11_head_1 : decode cX11_head 1 = .ok (.invokestatic 107, 3) := by decide +kernel
theorem dX11_head_4 : decode cX11_head 4 = .ok (.ifCond .ne 6, 3) := by decide +kernel
theorem dX11_head_7 : decode cX11_head 7 = .ok (.bipush (-3), 2) := by decide +kernel
theorem dX11_head_9 : decode cX11_head 9 = .ok (.ireturn, 1) := by decide +kernel
theorem dX11_head_10 : decode cX11_head 10 = .ok (.aload_n 0, 1) := by decide +kernel
theorem dX11_head_11 : decode cX11_head 11 = .ok (.getfield 28, 3) := by decide +kernel
theorem dX11_head_14 : decode cX11_head 14 = .ok (.getfield 110, 3) := by decide +kernel
theorem dX11_head_17 : decode cX11_head 17 = .ok (.istore_n 2, 1) := by decide +kernel
theorem dX11_head_18 : decode cX11_head 18 = .ok (.aload_n 0, 1) := by decide +kernel
theorem dX11_head_19 : decode cX11_head 19 = .ok (.getfield 28, 3) := by decide +kernel
theorem dX11_head_22 : decode cX11_head 22 = .ok (.iload_n 1, 1) := by decide +kernel
theorem dX11_head_23 : decode cX11_head 23 = .ok (.putfield 110, 3) := by decide +kernel
theorem dX11_head_26 : decode cX11_head 26 = .ok (.iload_n 2, 1) := by decide +kernel
theorem dX11_head_27 : decode cX11_head 27 = .ok (.ireturn, 1) := by decide +kernel
theorem dX11_sea_0 : decode cX11_sea 0 = .ok (.iload_n 1, 1) := by decide +kernel
theorem dX11_sea_1 : decode cX11_sea 1 = .ok (.invokestatic 113, 3) := by decide +kernel
theorem dX11_sea_4 : decode cX11_sea 4 = .ok (.ifCond .ne 6, 3) := by decide +kernel
theorem dX11_sea_7 : decode cX11_sea 7 = .ok (.bipush (-3), 2) := by decide +kernel
theorem dX11_sea_9 : decode cX11_sea 9 = .ok (.ireturn, 1) := by decide +kernel
theorem dX11_sea_10 : decode cX11_sea 10 = .ok (.aload_n 0, 1) := by decide +kernel
theorem dX11_sea_11 : decode cX11_sea 11 = .ok (.getfield 10, 3) := by decide +kernel
theorem dX11_sea_14 : decode cX11_sea 14 = .ok (.iload_n 1, 1) := by decide +kernel
theorem dX11_sea_15 : decode cX11_sea 15 = .ok (.invokevirtual 116, 3) := by decide +kernel
theorem dX11_sea_18 : decode cX11_sea 18 = .ok (.ireturn, 1) := by decide +kernel
theorem dX11_calm_0 : decode cX11_calm 0 = .ok (.aload_n 0, 1) := by decide +kernel
theorem dX11_calm_1 : decode cX11_calm 1 = .ok (.getfield 10, 3) := by decide +kernel
theorem dX11_calm_4 : decode cX11_calm 4 = .ok (.getfield 120, 3) := by decide +kernel
theorem dX11_calm_7 : decode cX11_calm 7 = .ok (.istore_n 1, 1) := by decide +kernel
theorem dX11_calm_8 : decode cX11_calm 8 = .ok (.aload_n 0, 1) := by decide +kernel
theorem dX11_calm_9 : decode cX11_calm 9 = .ok (.getfield 10, 3) := by decide +kernel
theorem dX11_calm_12 : decode cX11_calm 12 = .ok (.iconst 0, 1) := by decide +kernel
theorem dX11_calm_13 : decode cX11_calm 13 = .ok (.putfield 120, 3) := by decide +kernel
theorem dX11_calm_16 : decode cX11_calm 16 = .ok (.iload_n 1, 1) := by decide +kernel
theorem dX11_calm_17 : decode cX11_calm 17 = .ok (.ireturn, 1) := by decide +kernel
theorem dX11_kind_0 : decode cX11_kind 0 = .ok (.aload_n 0, 1) := by decide +kernel
theorem dX11_kind_1 : decode cX11_kind 1 = .ok (.getfield 28, 3) := by decide +kernel
theorem dX11_kind_4 : decode cX11_kind 4 = .ok (.iload_n 1, 1) := by decide +kernel
theorem dX11_kind_5 : decode cX11_kind 5 = .ok (.invokevirtual 123, 3) := by decide +kernel
theorem dX11_kind_8 : decode cX11_kind 8 = .ok (.astore_n 3, 1) := by decide +kernel
theorem dX11_kind_9 : decode cX11_kind 9 = .ok (.aload_n 3, 1) := by decide +kernel
theorem dX11_kind_10 : decode cX11_kind 10 = .ok (.ifnonnull 6, 3) := by decide +kernel
theorem dX11_kind_13 : decode cX11_kind 13 = .ok (.bipush (-2), 2) := by decide +kernel
theorem dX11_kind_15 : decode cX11_kind 15 = .ok (.ireturn, 1) := by decide +kernel
theorem dX11_kind_16 : decode cX11_kind 16 = .ok (.iload_n 2, 1) := by decide +kernel
theorem dX11_kind_17 : decode cX11_kind 17 = .ok (.iconst 0, 1) := by decide +kernel
theorem dX11_kind_18 : decode cX11_kind 18 = .ok (.iconst 5, 1) := by decide +kernel
theorem dX11_kind_19 : decode cX11_kind 19 = .ok (.invokestatic 97, 3) := by decide +kernel
theorem dX11_kind_22 : decode cX11_kind 22 = .ok (.ifCond .ne 6, 3) := by decide +kernel
theorem dX11_kind_25 : decode cX11_kind 25 = .ok (.bipush (-3), 2) := by decide +kernel
theorem dX11_kind_27 : decode cX11_kind 27 = .ok (.ireturn, 1) := by decide +kernel
theorem dX11_kind_28 : decode cX11_kind 28 = .ok (.aload_n 3, 1) := by decide +kernel
theorem dX11_kind_29 : decode cX11_kind 29 = .ok (.getfield 127, 3) := by decide +kernel
theorem dX11_kind_32 : decode cX11_kind 32 = .ok (.istore 4, 2) := by decide +kernel
theorem dX11_kind_34 : decode cX11_kind 34 = .ok (.aload_n 3, 1) := by decide +kernel
theorem dX11_kind_35 : decode cX11_kind 35 = .ok (.iload_n 2, 1) := by decide +kernel
theorem dX11_kind_36 : decode cX11_kind 36 = .ok (.putfield 127, 3) := by decide +kernel
theorem dX11_kind_39 : decode cX11_kind 39 = .ok (.aload_n 3, 1) := by decide +kernel
theorem dX11_kind_40 : decode cX11_kind 40 = .ok (.iconst 0, 1) := by decide +kernel
theorem dX11_kind_41 : decode cX11_kind 41 = .ok (.invokevirtual 132, 3) := by decide +kernel
theorem dX11_kind_44 : decode cX11_kind 44 = .ok (.iload 4, 2) := by decide +kernel
theorem dX11_kind_46 : decode cX11_kind 46 = .ok (.ireturn, 1) := by decide +kernel
theorem dX11_tune_0 : decode cX11_tune 0 = .ok (.aload_n 0, 1) := by decide +kernel
theorem dX11_tune_1 : decode cX11_tune 1 = .ok (.getfield 28, 3) := by decide +kernel
theorem dX11_tune_4 : decode cX11_tune 4 = .ok (.iload_n 1, 1) := by decide +kernel
theorem dX11_tune_5 : decode cX11_tune 5 = .ok (.invokevirtual 123, 3) := by decide +kernel
theorem dX11_tune_8 : decode cX11_tune 8 = .ok (.astore 4, 2) := by decide +kernel
theorem dX11_tune_10 : decode cX11_tune 10 = .ok (.aload 4, 2) := by decide +kernel
theorem dX11_tune_12 : decode cX11_tune 12 = .ok (.ifnonnull 6, 3) := by decide +kernel
theorem dX11_tune_15 : decode cX11_tune 15 = .ok (.bipush (-2), 2) := by decide +kernel
theorem dX11_tune_17 : decode cX11_tune 17 = .ok (.ireturn, 1) := by decide +kernel
theorem dX11_tune_18 : decode cX11_tune 18 = .ok (.iload_n 2, 1) := by decide +kernel
theorem dX11_tune_19 : decode cX11_tune 19 = .ok (.iconst 0, 1) := by decide +kernel
theorem dX11_tune_20 : decode cX11_tune 20 = .ok (.iconst 2, 1) := by decide +kernel
theorem dX11_tune_21 : decode cX11_tune 21 = .ok (.invokestatic 97, 3) := by decide +kernel
theorem dX11_tune_24 : decode cX11_tune 24 = .ok (.ifCond .eq 13, 3) := by decide +kernel
theorem dX11_tune_27 : decode cX11_tune 27 = .ok (.iload_n 3, 1) := by decide +kernel
theorem dX11_tune_28 : decode cX11_tune 28 = .ok (.iconst 0, 1) := by decide +kernel
theorem dX11_tune_29 : decode cX11_tune 29 = .ok (.bipush 99, 2) := by decide +kernel
theorem dX11_tune_31 : decode cX11_tune 31 = .ok (.invokestatic 97, 3) := by decide +kernel
theorem dX11_tune_34 : decode cX11_tune 34 = .ok (.ifCond .ne 6, 3) := by decide +kernel
theorem dX11_tune_37 : decode cX11_tune 37 = .ok (.bipush (-3), 2) := by decide +kernel
theorem dX11_tune_39 : decode cX11_tune 39 = .ok (.ireturn, 1) := by decide +kernel
theorem dX11_tune_40 : decode cX11_tune 40 = .ok (.aload 4, 2) := by decide +kernel
theorem dX11_tune_42 : decode cX11_tune 42 = .ok (.iload_n 2, 1) := by decide +kernel
theorem dX11_tune_43 : decode cX11_tune 43 = .ok (.iload_n 3, 1) := by decide +kernel
theorem dX11_tune_44 : decode cX11_tune 44 = .ok (.invokevirtual 136, 3) := by decide +kernel
theorem dX11_tune_47 : decode cX11_tune 47 = .ok (.ireturn, 1) := by decide +kernel
theorem dX11_off_0 : decode cX11_off 0 = .ok (.aload_n 0, 1) := by decide +kernel
theorem dX11_off_1 : decode cX11_off 1 = .ok (.getfield 28, 3) := by decide +kernel
theorem dX11_off_4 : decode cX11_off 4 = .ok (.iload_n 1, 1) := by decide +kernel
theorem dX11_off_5 : decode cX11_off 5 = .ok (.invokevirtual 123, 3) := by decide +kernel
theorem dX11_off_8 : decode cX11_off 8 = .ok (.astore_n 3, 1) := by decide +kernel
theorem dX11_off_9 : decode cX11_off 9 = .ok (.aload_n 3, 1) := by decide +kernel
theorem dX11_off_10 : decode cX11_off 10 = .ok (.ifnonnull 6, 3) := by decide +kernel
theorem dX11_off_13 : decode cX11_off 13 = .ok (.bipush (-2), 2) := by decide +kernel
theorem dX11_off_15 : decode cX11_off 15 = .ok (.ireturn, 1) := by decide +kernel
theorem dX11_off_16 : decode cX11_off 16 = .ok (.iload_n 2, 1) := by decide +kernel
theorem dX11_off_17 : decode cX11_off 17 = .ok (.invokestatic 140, 3) := by decide +kernel
theorem dX11_off_20 : decode cX11_off 20 = .ok (.ifCond .ne 6, 3) := by decide +kernel
theorem dX11_off_23 : decode cX11_off 23 = .ok (.bipush (-3), 2) := by decide +kernel
theorem dX11_off_25 : decode cX11_off 25 = .ok (.ireturn, 1) := by decide +kernel
theorem dX11_off_26 : decode cX11_off 26 = .ok (.aload_n 3, 1) := by decide +kernel
theorem dX11_off_27 : decode cX11_off 27 = .ok (.iload_n 2, 1) := by decide +kernel
theorem dX11_off_28 : decode cX11_off 28 = .ok (.invokevirtual 132, 3) := by decide +kernel
theorem dX11_off_31 : decode cX11_off 31 = .ok (.iconst 1, 1) := by decide +kernel
theorem dX11_off_32 : decode cX11_off 32 = .ok (.ireturn, 1) := by decide +kernel
theorem dX11_told_0 : decode cX11_told 0 = .ok (.aload_n 0, 1) := by decide +kernel
theorem dX11_told_1 : decode cX11_told 1 = .ok (.getfield 28, 3) := by decide +kernel
theorem dX11_told_4 : decode cX11_told 4 = .ok (.iload_n 1, 1) := by decide +kernel
theorem dX11_told_5 : decode cX11_told 5 = .ok (.invokevirtual 123, 3) := by decide +kernel
theorem dX11_told_8 : decode cX11_told 8 = .ok (.astore 4, 2) := by decide +kernel
theorem dX11_told_10 : decode cX11_told 10 = .ok (.aload 4, 2) := by decide +kernel
theorem dX11_told_12 : decode cX11_told 12 = .ok (.ifnonnull 6, 3) := by decide +kernel
theorem dX11_told_15 : decode cX11_told 15 = .ok (.bipush (-2), 2) := by decide +kernel
theorem dX11_told_17 : decode cX11_told 17 = .ok (.ireturn, 1) := by decide +kernel
theorem dX11_told_18 : decode cX11_told 18 = .ok (.iload_n 2, 1) := by decide +kernel
theorem dX11_told_19 : decode cX11_told 19 = .ok (.invokestatic 91, 3) := by decide +kernel
theorem dX11_told_22 : decode cX11_told 22 = .ok (.ifCond .eq 10, 3) := by decide +kernel
theorem dX11_told_25 : decode cX11_told 25 = .ok (.iload_n 3, 1) := by decide +kernel
theorem dX11_told_26 : decode cX11_told 26 = .ok (.invokestatic 83, 3) := by decide +kernel
theorem dX11_told_29 : decode cX11_told 29 = .ok (.ifCond .ne 6, 3) := by decide +kernel
theorem dX11_told_32 : decode cX11_told 32 = .ok (.bipush (-3), 2) := by decide +kernel
theorem dX11_told_34 : decode cX11_told 34 = .ok (.ireturn, 1) := by decide +kernel
theorem dX11_told_35 : decode cX11_told 35 = .ok (.aload 4, 2) := by decide +kernel
theorem dX11_told_37 : decode cX11_told 37 = .ok (.iload_n 2, 1) := by decide +kernel
theorem dX11_told_38 : decode cX11_told 38 = .ok (.putfield 143, 3) := by decide +kernel
theorem dX11_told_41 : decode cX11_told 41 = .ok (.aload 4, 2) := by decide +kernel
theorem dX11_told_43 : decode cX11_told 43 = .ok (.iload_n 3, 1) := by decide +kernel
theorem dX11_told_44 : decode cX11_told 44 = .ok (.putfield 146, 3) := by decide +kernel
theorem dX11_told_47 : decode cX11_told 47 = .ok (.iconst 1, 1) := by decide +kernel
theorem dX11_told_48 : decode cX11_told 48 = .ok (.ireturn, 1) := by decide +kernel
theorem dX11_iron_0 : decode cX11_iron 0 = .ok (.iload_n 1, 1) := by decide +kernel
theorem dX11_iron_1 : decode cX11_iron 1 = .ok (.invokestatic 149, 3) := by decide +kernel
theorem dX11_iron_4 : decode cX11_iron 4 = .ok (.ifCond .eq 16, 3) := by decide +kernel
theorem dX11_iron_7 : decode cX11_iron 7 = .ok (.iload_n 2, 1) := by decide +kernel
theorem dX11_iron_8 : decode cX11_iron 8 = .ok (.sipush (-2000), 3) := by decide +kernel
theorem dX11_iron_11 : decode cX11_iron 11 = .ok (.sipush 2000, 3) := by decide +kernel
theorem dX11_iron_14 : decode cX11_iron 14 = .ok (.invokestatic 97, 3) := by decide +kernel
theorem dX11_iron_17 : decode cX11_iron 17 = .ok (.ifCond .ne 6, 3) := by decide +kernel
theorem dX11_iron_20 : decode cX11_iron 20 = .ok (.bipush (-3), 2) := by decide +kernel
theorem dX11_iron_22 : decode cX11_iron 22 = .ok (.ireturn, 1) := by decide +kernel
theorem dX11_iron_23 : decode cX11_iron 23 = .ok (.aload_n 0, 1) := by decide +kernel
theorem dX11_iron_24 : decode cX11_iron 24 = .ok (.getfield 19, 3) := by decide +kernel
theorem dX11_iron_27 : decode cX11_iron 27 = .ok (.getfield 152, 3) := by decide +kernel
theorem dX11_iron_30 : decode cX11_iron 30 = .ok (.iload_n 1, 1) := by decide +kernel
theorem dX11_iron_31 : decode cX11_iron 31 = .ok (.iload_n 2, 1) := by decide +kernel
theorem dX11_iron_32 : decode cX11_iron 32 = .ok (.iastore, 1) := by decide +kernel
theorem dX11_iron_33 : decode cX11_iron 33 = .ok (.iconst 1, 1) := by decide +kernel
theorem dX11_iron_34 : decode cX11_iron 34 = .ok (.ireturn, 1) := by decide +kernel
theorem dX11_shows_0 : decode cX11_shows 0 = .ok (.aload_n 0, 1) := by decide +kernel
theorem dX11_shows_1 : decode cX11_shows 1 = .ok (.getfield 28, 3) := by decide +kernel
theorem dX11_shows_4 : decode cX11_shows 4 = .ok (.iload_n 1, 1) := by decide +kernel
theorem dX11_shows_5 : decode cX11_shows 5 = .ok (.invokevirtual 123, 3) := by decide +kernel
theorem dX11_shows_8 : decode cX11_shows 8 = .ok (.astore_n 2, 1) := by decide +kernel
theorem dX11_shows_9 : decode cX11_shows 9 = .ok (.aload_n 2, 1) := by decide +kernel
theorem dX11_shows_10 : decode cX11_shows 10 = .ok (.ifnonnull 8, 3) := by decide +kernel
theorem dX11_shows_13 : decode cX11_shows 13 = .ok (.bipush (-2), 2) := by decide +kernel
theorem dX11_shows_15 : decode cX11_shows 15 = .ok (.goto 18, 3) := by decide +kernel
theorem dX11_shows_18 : decode cX11_shows 18 = .ok (.aload_n 2, 1) := by decide +kernel
theorem dX11_shows_19 : decode cX11_shows 19 = .ok (.aload_n 0, 1) := by decide +kernel
theorem dX11_shows_20 : decode cX11_shows 20 = .ok (.getfield 28, 3) := by decide +kernel
theorem dX11_shows_23 : decode cX11_shows 23 = .ok (.getfield 110, 3) := by decide +kernel
theorem dX11_shows_26 : decode cX11_shows 26 = .ok (.aload_n 0, 1) := by decide +kernel
theorem dX11_shows_27 : decode cX11_shows 27 = .ok (.getfield 19, 3) := by decide +kernel
theorem dX11_shows_30 : decode cX11_shows 30 = .ok (.invokevirtual 156, 3) := by decide +kernel
theorem dX11_shows_33 : decode cX11_shows 33 = .ok (.ireturn, 1) := by decide +kernel
theorem dX11_now_0 : decode cX11_now 0 = .ok (.aload_n 0, 1) := by decide +kernel
theorem dX11_now_1 : decode cX11_now 1 = .ok (.getfield 28, 3) := by decide +kernel
theorem dX11_now_4 : decode cX11_now 4 = .ok (.iload_n 1, 1) := by decide +kernel
theorem dX11_now_5 : decode cX11_now 5 = .ok (.invokevirtual 123, 3) := by decide +kernel
theorem dX11_now_8 : decode cX11_now 8 = .ok (.astore_n 3, 1) := by decide +kernel
theorem dX11_now_9 : decode cX11_now 9 = .ok (.aload_n 3, 1) := by decide +kernel
theorem dX11_now_10 : decode cX11_now 10 = .ok (.ifnonnull 6, 3) := by decide +kernel
theorem dX11_now_13 : decode cX11_now 13 = .ok (.bipush (-2), 2) := by decide +kernel
theorem dX11_now_15 : decode cX11_now 15 = .ok (.ireturn, 1) := by decide +kernel
theorem dX11_now_16 : decode cX11_now 16 = .ok (.iload_n 2, 1) := by decide +kernel
theorem dX11_now_17 : decode cX11_now 17 = .ok (.iconst 0, 1) := by decide +kernel
theorem dX11_now_18 : decode cX11_now 18 = .ok (.iconst 1, 1) := by decide +kernel
theorem dX11_now_19 : decode cX11_now 19 = .ok (.invokestatic 97, 3) := by decide +kernel
theorem dX11_now_22 : decode cX11_now 22 = .ok (.ifCond .ne 6, 3) := by decide +kernel
theorem dX11_now_25 : decode cX11_now 25 = .ok (.bipush (-3), 2) := by decide +kernel
theorem dX11_now_27 : decode cX11_now 27 = .ok (.ireturn, 1) := by decide +kernel
theorem dX11_now_28 : decode cX11_now 28 = .ok (.iload_n 2, 1) := by decide +kernel
theorem dX11_now_29 : decode cX11_now 29 = .ok (.ifCond .ne 10, 3) := by decide +kernel
theorem dX11_now_32 : decode cX11_now 32 = .ok (.aload_n 3, 1) := by decide +kernel
theorem dX11_now_33 : decode cX11_now 33 = .ok (.getfield 160, 3) := by decide +kernel
theorem dX11_now_36 : decode cX11_now 36 = .ok (.goto 7, 3) := by decide +kernel
theorem dX11_now_39 : decode cX11_now 39 = .ok (.aload_n 3, 1) := by decide +kernel
theorem dX11_now_40 : decode cX11_now 40 = .ok (.getfield 163, 3) := by decide +kernel
theorem dX11_now_43 : decode cX11_now 43 = .ok (.ldc 166, 2) := by decide +kernel
theorem dX11_now_45 : decode cX11_now 45 = .ok (.iadd, 1) := by decide +kernel
theorem dX11_now_46 : decode cX11_now 46 = .ok (.ireturn, 1) := by decide +kernel
theorem dX11_lean_0 : decode cX11_lean 0 = .ok (.iload_n 1, 1) := by decide +kernel
theorem dX11_lean_1 : decode cX11_lean 1 = .ok (.invokestatic 91, 3) := by decide +kernel
theorem dX11_lean_4 : decode cX11_lean 4 = .ok (.ifCond .eq 17, 3) := by decide +kernel
theorem dX11_lean_7 : decode cX11_lean 7 = .ok (.iload_n 2, 1) := by decide +kernel
theorem dX11_lean_8 : decode cX11_lean 8 = .ok (.invokestatic 83, 3) := by decide +kernel
theorem dX11_lean_11 : decode cX11_lean 11 = .ok (.ifCond .eq 10, 3) := by decide +kernel
theorem dX11_lean_14 : decode cX11_lean 14 = .ok (.iload_n 3, 1) := by decide +kernel
theorem dX11_lean_15 : decode cX11_lean 15 = .ok (.invokestatic 107, 3) := by decide +kernel
theorem dX11_lean_18 : decode cX11_lean 18 = .ok (.ifCond .ne 6, 3) := by decide +kernel
theorem dX11_lean_21 : decode cX11_lean 21 = .ok (.bipush (-3), 2) := by decide +kernel
theorem dX11_lean_23 : decode cX11_lean 23 = .ok (.ireturn, 1) := by decide +kernel
theorem dX11_lean_24 : decode cX11_lean 24 = .ok (.iload_n 1, 1) := by decide +kernel
theorem dX11_lean_25 : decode cX11_lean 25 = .ok (.iload_n 2, 1) := by decide +kernel
theorem dX11_lean_26 : decode cX11_lean 26 = .ok (.iload_n 3, 1) := by decide +kernel
theorem dX11_lean_27 : decode cX11_lean 27 = .ok (.invokestatic 167, 3) := by decide +kernel
theorem dX11_lean_30 : decode cX11_lean 30 = .ok (.ldc 171, 2) := by decide +kernel
theorem dX11_lean_32 : decode cX11_lean 32 = .ok (.iadd, 1) := by decide +kernel
theorem dX11_lean_33 : decode cX11_lean 33 = .ok (.ireturn, 1) := by decide +kernel
theorem dX11_deviation_0 : decode cX11_deviation 0 = .ok (.iload_n 1, 1) := by decide +kernel
theorem dX11_deviation_1 : decode cX11_deviation 1 = .ok (.invokestatic 107, 3) := by decide +kernel
theorem dX11_deviation_4 : decode cX11_deviation 4 = .ok (.ifCond .ne 6, 3) := by decide +kernel
theorem dX11_deviation_7 : decode cX11_deviation 7 = .ok (.bipush (-3), 2) := by decide +kernel
theorem dX11_deviation_9 : decode cX11_deviation 9 = .ok (.ireturn, 1) := by decide +kernel
theorem dX11_deviation_10 : decode cX11_deviation 10 = .ok (.aload_n 0, 1) := by decide +kernel
theorem dX11_deviation_11 : decode cX11_deviation 11 = .ok (.getfield 19, 3) := by decide +kernel
theorem dX11_deviation_14 : decode cX11_deviation 14 = .ok (.iload_n 1, 1) := by decide +kernel
theorem dX11_deviation_15 : decode cX11_deviation 15 = .ok (.invokevirtual 172, 3) := by decide +kernel
theorem dX11_deviation_18 : decode cX11_deviation 18 = .ok (.ldc 166, 2) := by decide +kernel
theorem dX11_deviation_20 : decode cX11_deviation 20 = .ok (.iadd, 1) := by decide +kernel
theorem dX11_deviation_21 : decode cX11_deviation 21 = .ok (.ireturn, 1) := by decide +kernel
theorem dX11_run_0 : decode cX11_run 0 = .ok (.iload_n 1, 1) := by decide +kernel
theorem dX11_run_1 : decode cX11_run 1 = .ok (.iconst 1, 1) := by decide +kernel
theorem dX11_run_2 : decode cX11_run 2 = .ok (.sipush 500, 3) := by decide +kernel
theorem dX11_run_5 : decode cX11_run 5 = .ok (.invokestatic 97, 3) := by decide +kernel
theorem dX11_run_8 : decode cX11_run 8 = .ok (.ifCond .eq 18, 3) := by decide +kernel
theorem dX11_run_11 : decode cX11_run 11 = .ok (.aload_n 0, 1) := by decide +kernel
theorem dX11_run_12 : decode cX11_run 12 = .ok (.getfield 28, 3) := by decide +kernel
theorem dX11_run_15 : decode cX11_run 15 = .ok (.getfield 175, 3) := by decide +kernel
theorem dX11_run_18 : decode cX11_run 18 = .ok (.iload_n 1, 1) := by decide +kernel
theorem dX11_run_19 : decode cX11_run 19 = .ok (.iadd, 1) := by decide +kernel
theorem dX11_run_20 : decode cX11_run 20 = .ok (.sipush 5000, 3) := by decide +kernel
theorem dX11_run_23 : decode cX11_run 23 = .ok (.if_icmp .le 6, 3) := by decide +kernel
theorem dX11_run_26 : decode cX11_run 26 = .ok (.bipush (-3), 2) := by decide +kernel
theorem dX11_run_28 : decode cX11_run 28 = .ok (.ireturn, 1) := by decide +kernel
theorem dX11_run_29 : decode cX11_run 29 = .ok (.iconst 0, 1) := by decide +kernel
theorem dX11_run_30 : decode cX11_run 30 = .ok (.istore_n 3, 1) := by decide +kernel
theorem dX11_run_31 : decode cX11_run 31 = .ok (.iload_n 3, 1) := by decide +kernel
theorem dX11_run_32 : decode cX11_run 32 = .ok (.iload_n 1, 1) := by decide +kernel
theorem dX11_run_33 : decode cX11_run 33 = .ok (.if_icmp .ge 31, 3) := by decide +kernel
theorem dX11_run_36 : decode cX11_run 36 = .ok (.iload_n 2, 1) := by decide +kernel
theorem dX11_run_37 : decode cX11_run 37 = .ok (.ifCond .eq 14, 3) := by decide +kernel
theorem dX11_run_40 : decode cX11_run 40 = .ok (.aload_n 0, 1) := by decide +kernel
theorem dX11_run_41 : decode cX11_run 41 = .ok (.getfield 35, 3) := by decide +kernel
theorem dX11_run_44 : decode cX11_run 44 = .ok (.aload_n 0, 1) := by decide +kernel
theorem dX11_run_45 : decode cX11_run 45 = .ok (.getfield 28, 3) := by decide +kernel
theorem dX11_run_48 : decode cX11_run 48 = .ok (.invokevirtual 178, 3) := by decide +kernel
theorem dX11_run_51 : decode cX11_run 51 = .ok (.aload_n 0, 1) := by decide +kernel
theorem dX11_run_52 : decode cX11_run 52 = .ok (.getfield 28, 3) := by decide +kernel
theorem dX11_run_55 : decode cX11_run 55 = .ok (.invokevirtual 182, 3) := by decide +kernel
theorem dX11_run_58 : decode cX11_run 58 = .ok (.iinc 3 1, 3) := by decide +kernel
theorem dX11_run_61 : decode cX11_run 61 = .ok (.goto (-30), 3) := by decide +kernel
theorem dX11_run_64 : decode cX11_run 64 = .ok (.aload_n 0, 1) := by decide +kernel
theorem dX11_run_65 : decode cX11_run 65 = .ok (.getfield 28, 3) := by decide +kernel
theorem dX11_run_68 : decode cX11_run 68 = .ok (.getfield 110, 3) := by decide +kernel
theorem dX11_run_71 : decode cX11_run 71 = .ok (.ireturn, 1) := by decide +kernel
theorem dX11_write_0 : decode cX11_write 0 = .ok (.iload_n 3, 1) := by decide +kernel
theorem dX11_write_1 : decode cX11_write 1 = .ok (.iconst 1, 1) := by decide +kernel
theorem dX11_write_2 : decode cX11_write 2 = .ok (.bipush 8, 2) := by decide +kernel
theorem dX11_write_4 : decode cX11_write 4 = .ok (.invokestatic 97, 3) := by decide +kernel
theorem dX11_write_7 : decode cX11_write 7 = .ok (.ifCond .ne 6, 3) := by decide +kernel
theorem dX11_write_10 : decode cX11_write 10 = .ok (.bipush (-3), 2) := by decide +kernel
theorem dX11_write_12 : decode cX11_write 12 = .ok (.ireturn, 1) := by decide +kernel
theorem dX11_write_13 : decode cX11_write 13 = .ok (.aload_n 0, 1) := by decide +kernel
theorem dX11_write_14 : decode cX11_write 14 = .ok (.getfield 42, 3) := by decide +kernel
theorem dX11_write_17 : decode cX11_write 17 = .ok (.lload_n 1, 1) := by decide +kernel
theorem dX11_write_18 : decode cX11_write 18 = .ok (.iload_n 3, 1) := by decide +kernel
theorem dX11_write_19 : decode cX11_write 19 = .ok (.invokevirtual 185, 3) := by decide +kernel
theorem dX11_write_22 : decode cX11_write 22 = .ok (.ireturn, 1) := by decide +kernel
theorem dX11_erase_0 : decode cX11_erase 0 = .ok (.aload_n 0, 1) := by decide +kernel
theorem dX11_erase_1 : decode cX11_erase 1 = .ok (.getfield 42, 3) := by decide +kernel
theorem dX11_erase_4 : decode cX11_erase 4 = .ok (.getfield 189, 3) := by decide +kernel
theorem dX11_erase_7 : decode cX11_erase 7 = .ok (.istore_n 1, 1) := by decide +kernel
theorem dX11_erase_8 : decode cX11_erase 8 = .ok (.aload_n 0, 1) := by decide +kernel
theorem dX11_erase_9 : decode cX11_erase 9 = .ok (.getfield 42, 3) := by decide +kernel
theorem dX11_erase_12 : decode cX11_erase 12 = .ok (.iconst 0, 1) := by decide +kernel
theorem dX11_erase_13 : decode cX11_erase 13 = .ok (.putfield 189, 3) := by decide +kernel
theorem dX11_erase_16 : decode cX11_erase 16 = .ok (.iload_n 1, 1) := by decide +kernel
theorem dX11_erase_17 : decode cX11_erase 17 = .ok (.ireturn, 1) := by decide +kernel
theorem dX11_fault_0 : decode cX11_fault 0 = .ok (.aload_n 0, 1) := by decide +kernel
theorem dX11_fault_1 : decode cX11_fault 1 = .ok (.getfield 42, 3) := by decide +kernel
theorem dX11_fault_4 : decode cX11_fault 4 = .ok (.invokevirtual 192, 3) := by decide +kernel
theorem dX11_fault_7 : decode cX11_fault 7 = .ok (.ireturn, 1) := by decide +kernel
theorem dX11_steerer_0 : decode cX11_steerer 0 = .ok (.aload_n 0, 1) := by decide +kernel
theorem dX11_steerer_1 : decode cX11_steerer 1 = .ok (.getfield 42, 3) := by decide +kernel
theorem dX11_steerer_4 : decode cX11_steerer 4 = .ok (.invokevirtual 192, 3) := by decide +kernel
theorem dX11_steerer_7 : decode cX11_steerer 7 = .ok (.iconst (-1), 1) := by decide +kernel
theorem dX11_steerer_8 : decode cX11_steerer 8 = .ok (.if_icmp .eq 6, 3) := by decide +kernel
theorem dX11_steerer_11 : decode cX11_steerer 11 = .ok (.bipush (-4), 2) := by decide +kernel
theorem dX11_steerer_13 : decode cX11_steerer 13 = .ok (.ireturn, 1) := by decide +kernel
theorem dX11_steerer_14 : decode cX11_steerer 14 = .ok (.aload_n 0, 1) := by decide +kernel
theorem dX11_steerer_15 : decode cX11_steerer 15 = .ok (.getfield 35, 3) := by decide +kernel
theorem dX11_steerer_18 : decode cX11_steerer 18 = .ok (.aload_n 0, 1) := by decide +kernel
theorem dX11_steerer_19 : decode cX11_steerer 19 = .ok (.getfield 42, 3) := by decide +kernel
theorem dX11_steerer_22 : decode cX11_steerer 22 = .ok (.getfield 196, 3) := by decide +kernel
theorem dX11_steerer_25 : decode cX11_steerer 25 = .ok (.invokevirtual 199, 3) := by decide +kernel
theorem dX11_steerer_28 : decode cX11_steerer 28 = .ok (.aload_n 0, 1) := by decide +kernel
theorem dX11_steerer_29 : decode cX11_steerer 29 = .ok (.getfield 42, 3) := by decide +kernel
theorem dX11_steerer_32 : decode cX11_steerer 32 = .ok (.iconst 0, 1) := by decide +kernel
theorem dX11_steerer_33 : decode cX11_steerer 33 = .ok (.putfield 189, 3) := by decide +kernel
theorem dX11_steerer_36 : decode cX11_steerer 36 = .ok (.aload_n 0, 1) := by decide +kernel
theorem dX11_steerer_37 : decode cX11_steerer 37 = .ok (.getfield 42, 3) := by decide +kernel
theorem dX11_steerer_40 : decode cX11_steerer 40 = .ok (.getfield 203, 3) := by decide +kernel
theorem dX11_steerer_43 : decode cX11_steerer 43 = .ok (.ireturn, 1) := by decide +kernel
theorem dX11_steers_0 : decode cX11_steers 0 = .ok (.iload_n 1, 1) := by decide +kernel
theorem dX11_steers_1 : decode cX11_steers 1 = .ok (.iconst 0, 1) := by decide +kernel
theorem dX11_steers_2 : decode cX11_steers 2 = .ok (.iconst 5, 1) := by decide +kernel
theorem dX11_steers_3 : decode cX11_steers 3 = .ok (.invokestatic 97, 3) := by decide +kernel
theorem dX11_steers_6 : decode cX11_steers 6 = .ok (.ifCond .eq 15, 3) := by decide +kernel
theorem dX11_steers_9 : decode cX11_steers 9 = .ok (.aload_n 0, 1) := by decide +kernel
theorem dX11_steers_10 : decode cX11_steers 10 = .ok (.getfield 35, 3) := by decide +kernel
theorem dX11_steers_13 : decode cX11_steers 13 = .ok (.getfield 206, 3) := by decide +kernel
theorem dX11_steers_16 : decode cX11_steers 16 = .ok (.iload_n 1, 1) := by decide +kernel
theorem dX11_steers_17 : decode cX11_steers 17 = .ok (.iaload, 1) := by decide +kernel
theorem dX11_steers_18 : decode cX11_steers 18 = .ok (.goto 5, 3) := by decide +kernel
theorem dX11_steers_21 : decode cX11_steers 21 = .ok (.bipush (-3), 2) := by decide +kernel
theorem dX11_steers_23 : decode cX11_steers 23 = .ok (.ireturn, 1) := by decide +kernel
theorem dX11_course_0 : decode cX11_course 0 = .ok (.iload_n 1, 1) := by decide +kernel
theorem dX11_course_1 : decode cX11_course 1 = .ok (.invokestatic 107, 3) := by decide +kernel
theorem dX11_course_4 : decode cX11_course 4 = .ok (.ifCond .ne 6, 3) := by decide +kernel
theorem dX11_course_7 : decode cX11_course 7 = .ok (.bipush (-3), 2) := by decide +kernel
theorem dX11_course_9 : decode cX11_course 9 = .ok (.ireturn, 1) := by decide +kernel
theorem dX11_course_10 : decode cX11_course 10 = .ok (.aload_n 0, 1) := by decide +kernel
theorem dX11_course_11 : decode cX11_course 11 = .ok (.getfield 35, 3) := by decide +kernel
theorem dX11_course_14 : decode cX11_course 14 = .ok (.getfield 207, 3) := by decide +kernel
theorem dX11_course_17 : decode cX11_course 17 = .ok (.istore_n 2, 1) := by decide +kernel
theorem dX11_course_18 : decode cX11_course 18 = .ok (.aload_n 0, 1) := by decide +kernel
theorem dX11_course_19 : decode cX11_course 19 = .ok (.getfield 35, 3) := by decide +kernel
theorem dX11_course_22 : decode cX11_course 22 = .ok (.iload_n 1, 1) := by decide +kernel
theorem dX11_course_23 : decode cX11_course 23 = .ok (.invokevirtual 210, 3) := by decide +kernel
theorem dX11_course_26 : decode cX11_course 26 = .ok (.iload_n 2, 1) := by decide +kernel
theorem dX11_course_27 : decode cX11_course 27 = .ok (.ireturn, 1) := by decide +kernel
theorem dX11_swing_0 : decode cX11_swing 0 = .ok (.aload_n 0, 1) := by decide +kernel
theorem dX11_swing_1 : decode cX11_swing 1 = .ok (.getfield 28, 3) := by decide +kernel
theorem dX11_swing_4 : decode cX11_swing 4 = .ok (.iload_n 1, 1) := by decide +kernel
theorem dX11_swing_5 : decode cX11_swing 5 = .ok (.invokevirtual 123, 3) := by decide +kernel
theorem dX11_swing_8 : decode cX11_swing 8 = .ok (.astore 5, 2) := by decide +kernel
theorem dX11_swing_10 : decode cX11_swing 10 = .ok (.aload 5, 2) := by decide +kernel
theorem dX11_swing_12 : decode cX11_swing 12 = .ok (.ifnonnull 6, 3) := by decide +kernel
theorem dX11_swing_15 : decode cX11_swing 15 = .ok (.bipush (-2), 2) := by decide +kernel
theorem dX11_swing_17 : decode cX11_swing 17 = .ok (.ireturn, 1) := by decide +kernel
theorem dX11_swing_18 : decode cX11_swing 18 = .ok (.iload_n 2, 1) := by decide +kernel
theorem dX11_swing_19 : decode cX11_swing 19 = .ok (.sipush (-9000), 3) := by decide +kernel
theorem dX11_swing_22 : decode cX11_swing 22 = .ok (.sipush 9000, 3) := by decide +kernel
theorem dX11_swing_25 : decode cX11_swing 25 = .ok (.invokestatic 97, 3) := by decide +kernel
theorem dX11_swing_28 : decode cX11_swing 28 = .ok (.ifCond .eq 17, 3) := by decide +kernel
theorem dX11_swing_31 : decode cX11_swing 31 = .ok (.iload_n 2, 1) := by decide +kernel
theorem dX11_swing_32 : decode cX11_swing 32 = .ok (.ifCond .eq 13, 3) := by decide +kernel
theorem dX11_swing_35 : decode cX11_swing 35 = .ok (.iload 4, 2) := by decide +kernel
theorem dX11_swing_37 : decode cX11_swing 37 = .ok (.iconst 0, 1) := by decide +kernel
theorem dX11_swing_38 : decode cX11_swing 38 = .ok (.iconst 2, 1) := by decide +kernel
theorem dX11_swing_39 : decode cX11_swing 39 = .ok (.invokestatic 97, 3) := by decide +kernel
theorem dX11_swing_42 : decode cX11_swing 42 = .ok (.ifCond .ne 6, 3) := by decide +kernel
theorem dX11_swing_45 : decode cX11_swing 45 = .ok (.bipush (-3), 2) := by decide +kernel
theorem dX11_swing_47 : decode cX11_swing 47 = .ok (.ireturn, 1) := by decide +kernel
theorem dX11_swing_48 : decode cX11_swing 48 = .ok (.aload_n 0, 1) := by decide +kernel
theorem dX11_swing_49 : decode cX11_swing 49 = .ok (.getfield 49, 3) := by decide +kernel
theorem dX11_swing_52 : decode cX11_swing 52 = .ok (.aload 5, 2) := by decide +kernel
theorem dX11_swing_54 : decode cX11_swing 54 = .ok (.aload_n 0, 1) := by decide +kernel
theorem dX11_swing_55 : decode cX11_swing 55 = .ok (.getfield 28, 3) := by decide +kernel
theorem dX11_swing_58 : decode cX11_swing 58 = .ok (.getfield 87, 3) := by decide +kernel
theorem dX11_swing_61 : decode cX11_swing 61 = .ok (.invokestatic 213, 3) := by decide +kernel
theorem dX11_swing_64 : decode cX11_swing 64 = .ok (.iload_n 2, 1) := by decide +kernel
theorem dX11_swing_65 : decode cX11_swing 65 = .ok (.iload_n 3, 1) := by decide +kernel
theorem dX11_swing_66 : decode cX11_swing 66 = .ok (.invokevirtual 216, 3) := by decide +kernel
theorem dX11_swing_69 : decode cX11_swing 69 = .ok (.iload 4, 2) := by decide +kernel
theorem dX11_swing_71 : decode cX11_swing 71 = .ok (.ifCond .ne 11, 3) := by decide +kernel
theorem dX11_swing_74 : decode cX11_swing 74 = .ok (.aload_n 0, 1) := by decide +kernel
theorem dX11_swing_75 : decode cX11_swing 75 = .ok (.getfield 49, 3) := by decide +kernel
theorem dX11_swing_78 : decode cX11_swing 78 = .ok (.getfield 220, 3) := by decide +kernel
theorem dX11_swing_81 : decode cX11_swing 81 = .ok (.ireturn, 1) := by decide +kernel
theorem dX11_swing_82 : decode cX11_swing 82 = .ok (.iload 4, 2) := by decide +kernel
theorem dX11_swing_84 : decode cX11_swing 84 = .ok (.iconst 2, 1) := by decide +kernel
theorem dX11_swing_85 : decode cX11_swing 85 = .ok (.if_icmp .ne 11, 3) := by decide +kernel
theorem dX11_swing_88 : decode cX11_swing 88 = .ok (.aload_n 0, 1) := by decide +kernel
theorem dX11_swing_89 : decode cX11_swing 89 = .ok (.getfield 49, 3) := by decide +kernel
theorem dX11_swing_92 : decode cX11_swing 92 = .ok (.getfield 223, 3) := by decide +kernel
theorem dX11_swing_95 : decode cX11_swing 95 = .ok (.ireturn, 1) := by decide +kernel
theorem dX11_swing_96 : decode cX11_swing 96 = .ok (.aload_n 0, 1) := by decide +kernel
theorem dX11_swing_97 : decode cX11_swing 97 = .ok (.getfield 49, 3) := by decide +kernel
theorem dX11_swing_100 : decode cX11_swing 100 = .ok (.getfield 220, 3) := by decide +kernel
theorem dX11_swing_103 : decode cX11_swing 103 = .ok (.iconst (-1), 1) := by decide +kernel
theorem dX11_swing_104 : decode cX11_swing 104 = .ok (.if_icmp .ne 7, 3) := by decide +kernel
theorem dX11_swing_107 : decode cX11_swing 107 = .ok (.iconst (-1), 1) := by decide +kernel
theorem dX11_swing_108 : decode cX11_swing 108 = .ok (.goto 13, 3) := by decide +kernel
theorem dX11_swing_111 : decode cX11_swing 111 = .ok (.aload_n 0, 1) := by decide +kernel
theorem dX11_swing_112 : decode cX11_swing 112 = .ok (.getfield 49, 3) := by decide +kernel
theorem dX11_swing_115 : decode cX11_swing 115 = .ok (.getfield 226, 3) := by decide +kernel
theorem dX11_swing_118 : decode cX11_swing 118 = .ok (.ldc 166, 2) := by decide +kernel
theorem dX11_swing_120 : decode cX11_swing 120 = .ok (.iadd, 1) := by decide +kernel
theorem dX11_swing_121 : decode cX11_swing 121 = .ok (.ireturn, 1) := by decide +kernel
theorem dX11_noUse_0 : decode cX11_noUse 0 = .ok (.aload_n 0, 1) := by decide +kernel
theorem dX11_noUse_1 : decode cX11_noUse 1 = .ok (.getfield 28, 3) := by decide +kernel
theorem dX11_noUse_4 : decode cX11_noUse 4 = .ok (.iload_n 1, 1) := by decide +kernel
theorem dX11_noUse_5 : decode cX11_noUse 5 = .ok (.invokevirtual 123, 3) := by decide +kernel
theorem dX11_noUse_8 : decode cX11_noUse 8 = .ok (.astore_n 2, 1) := by decide +kernel
theorem dX11_noUse_9 : decode cX11_noUse 9 = .ok (.aload_n 2, 1) := by decide +kernel
theorem dX11_noUse_10 : decode cX11_noUse 10 = .ok (.ifnonnull 8, 3) := by decide +kernel
theorem dX11_noUse_13 : decode cX11_noUse 13 = .ok (.bipush (-2), 2) := by decide +kernel
theorem dX11_noUse_15 : decode cX11_noUse 15 = .ok (.goto 11, 3) := by decide +kernel
theorem dX11_noUse_18 : decode cX11_noUse 18 = .ok (.aload_n 0, 1) := by decide +kernel
theorem dX11_noUse_19 : decode cX11_noUse 19 = .ok (.getfield 49, 3) := by decide +kernel
theorem dX11_noUse_22 : decode cX11_noUse 22 = .ok (.aload_n 2, 1) := by decide +kernel
theorem dX11_noUse_23 : decode cX11_noUse 23 = .ok (.invokevirtual 229, 3) := by decide +kernel
theorem dX11_noUse_26 : decode cX11_noUse 26 = .ok (.ireturn, 1) := by decide +kernel
theorem dX11_turned_0 : decode cX11_turned 0 = .ok (.aload_n 0, 1) := by decide +kernel
theorem dX11_turned_1 : decode cX11_turned 1 = .ok (.getfield 28, 3) := by decide +kernel
theorem dX11_turned_4 : decode cX11_turned 4 = .ok (.iload_n 1, 1) := by decide +kernel
theorem dX11_turned_5 : decode cX11_turned 5 = .ok (.invokevirtual 123, 3) := by decide +kernel
theorem dX11_turned_8 : decode cX11_turned 8 = .ok (.astore 5, 2) := by decide +kernel
theorem dX11_turned_10 : decode cX11_turned 10 = .ok (.aload 5, 2) := by decide +kernel
theorem dX11_turned_12 : decode cX11_turned 12 = .ok (.ifnonnull 6, 3) := by decide +kernel
theorem dX11_turned_15 : decode cX11_turned 15 = .ok (.bipush (-2), 2) := by decide +kernel
theorem dX11_turned_17 : decode cX11_turned 17 = .ok (.ireturn, 1) := by decide +kernel
theorem dX11_turned_18 : decode cX11_turned 18 = .ok (.iload_n 2, 1) := by decide +kernel
theorem dX11_turned_19 : decode cX11_turned 19 = .ok (.iload_n 3, 1) := by decide +kernel
theorem dX11_turned_20 : decode cX11_turned 20 = .ok (.iload 4, 2) := by decide +kernel
theorem dX11_turned_22 : decode cX11_turned 22 = .ok (.invokestatic 233, 3) := by decide +kernel
theorem dX11_turned_25 : decode cX11_turned 25 = .ok (.ifCond .ne 6, 3) := by decide +kernel
theorem dX11_turned_28 : decode cX11_turned 28 = .ok (.bipush (-3), 2) := by decide +kernel
theorem dX11_turned_30 : decode cX11_turned 30 = .ok (.ireturn, 1) := by decide +kernel
theorem dX11_turned_31 : decode cX11_turned 31 = .ok (.aload_n 0, 1) := by decide +kernel
theorem dX11_turned_32 : decode cX11_turned 32 = .ok (.getfield 49, 3) := by decide +kernel
theorem dX11_turned_35 : decode cX11_turned 35 = .ok (.aload 5, 2) := by decide +kernel
theorem dX11_turned_37 : decode cX11_turned 37 = .ok (.aload 5, 2) := by decide +kernel
theorem dX11_turned_39 : decode cX11_turned 39 = .ok (.getfield 236, 3) := by decide +kernel
theorem dX11_turned_42 : decode cX11_turned 42 = .ok (.aload_n 0, 1) := by decide +kernel
theorem dX11_turned_43 : decode cX11_turned 43 = .ok (.getfield 28, 3) := by decide +kernel
theorem dX11_turned_46 : decode cX11_turned 46 = .ok (.getfield 87, 3) := by decide +kernel
theorem dX11_turned_49 : decode cX11_turned 49 = .ok (.invokestatic 213, 3) := by decide +kernel
theorem dX11_turned_52 : decode cX11_turned 52 = .ok (.iload_n 2, 1) := by decide +kernel
theorem dX11_turned_53 : decode cX11_turned 53 = .ok (.iload_n 3, 1) := by decide +kernel
theorem dX11_turned_54 : decode cX11_turned 54 = .ok (.iload 4, 2) := by decide +kernel
theorem dX11_turned_56 : decode cX11_turned 56 = .ok (.invokevirtual 239, 3) := by decide +kernel
theorem dX11_turned_59 : decode cX11_turned 59 = .ok (.ireturn, 1) := by decide +kernel
theorem dX11_bestPull_0 : decode cX11_bestPull 0 = .ok (.aload_n 0, 1) := by decide +kernel
theorem dX11_bestPull_1 : decode cX11_bestPull 1 = .ok (.getfield 28, 3) := by decide +kernel
theorem dX11_bestPull_4 : decode cX11_bestPull 4 = .ok (.iload_n 1, 1) := by decide +kernel
theorem dX11_bestPull_5 : decode cX11_bestPull 5 = .ok (.invokevirtual 123, 3) := by decide +kernel
theorem dX11_bestPull_8 : decode cX11_bestPull 8 = .ok (.astore 5, 2) := by decide +kernel
theorem dX11_bestPull_10 : decode cX11_bestPull 10 = .ok (.aload 5, 2) := by decide +kernel
theorem dX11_bestPull_12 : decode cX11_bestPull 12 = .ok (.ifnonnull 6, 3) := by decide +kernel
theorem dX11_bestPull_15 : decode cX11_bestPull 15 = .ok (.bipush (-2), 2) := by decide +kernel
theorem dX11_bestPull_17 : decode cX11_bestPull 17 = .ok (.ireturn, 1) := by decide +kernel
theorem dX11_bestPull_18 : decode cX11_bestPull 18 = .ok (.iload_n 2, 1) := by decide +kernel
theorem dX11_bestPull_19 : decode cX11_bestPull 19 = .ok (.iload_n 3, 1) := by decide +kernel
theorem dX11_bestPull_20 : decode cX11_bestPull 20 = .ok (.iload 4, 2) := by decide +kernel
theorem dX11_bestPull_22 : decode cX11_bestPull 22 = .ok (.invokestatic 233, 3) := by decide +kernel
theorem dX11_bestPull_25 : decode cX11_bestPull 25 = .ok (.ifCond .ne 6, 3) := by decide +kernel
theorem dX11_bestPull_28 : decode cX11_bestPull 28 = .ok (.bipush (-3), 2) := by decide +kernel
theorem dX11_bestPull_30 : decode cX11_bestPull 30 = .ok (.ireturn, 1) := by decide +kernel
theorem dX11_bestPull_31 : decode cX11_bestPull 31 = .ok (.aload_n 0, 1) := by decide +kernel
theorem dX11_bestPull_32 : decode cX11_bestPull 32 = .ok (.getfield 49, 3) := by decide +kernel
theorem dX11_bestPull_35 : decode cX11_bestPull 35 = .ok (.aload 5, 2) := by decide +kernel
theorem dX11_bestPull_37 : decode cX11_bestPull 37 = .ok (.aload_n 0, 1) := by decide +kernel
theorem dX11_bestPull_38 : decode cX11_bestPull 38 = .ok (.getfield 28, 3) := by decide +kernel
theorem dX11_bestPull_41 : decode cX11_bestPull 41 = .ok (.getfield 87, 3) := by decide +kernel
theorem dX11_bestPull_44 : decode cX11_bestPull 44 = .ok (.invokestatic 213, 3) := by decide +kernel
theorem dX11_bestPull_47 : decode cX11_bestPull 47 = .ok (.iload_n 2, 1) := by decide +kernel
theorem dX11_bestPull_48 : decode cX11_bestPull 48 = .ok (.iload_n 3, 1) := by decide +kernel
theorem dX11_bestPull_49 : decode cX11_bestPull 49 = .ok (.iload 4, 2) := by decide +kernel
theorem dX11_bestPull_51 : decode cX11_bestPull 51 = .ok (.invokevirtual 243, 3) := by decide +kernel
theorem dX11_bestPull_54 : decode cX11_bestPull 54 = .ok (.ireturn, 1) := by decide +kernel
theorem dX11_kept_0 : decode cX11_kept 0 = .ok (.iload_n 1, 1) := by decide +kernel
theorem dX11_kept_1 : decode cX11_kept 1 = .ok (.invokestatic 247, 3) := by decide +kernel
theorem dX11_kept_4 : decode cX11_kept 4 = .ok (.ifCond .eq 23, 3) := by decide +kernel
theorem dX11_kept_7 : decode cX11_kept 7 = .ok (.iload_n 2, 1) := by decide +kernel
theorem dX11_kept_8 : decode cX11_kept 8 = .ok (.iconst 0, 1) := by decide +kernel
theorem dX11_kept_9 : decode cX11_kept 9 = .ok (.sipush 999, 3) := by decide +kernel
theorem dX11_kept_12 : decode cX11_kept 12 = .ok (.invokestatic 97, 3) := by decide +kernel
theorem dX11_kept_15 : decode cX11_kept 15 = .ok (.ifCond .eq 12, 3) := by decide +kernel
theorem dX11_kept_18 : decode cX11_kept 18 = .ok (.iload_n 3, 1) := by decide +kernel
theorem dX11_kept_19 : decode cX11_kept 19 = .ok (.iconst 0, 1) := by decide +kernel
theorem dX11_kept_20 : decode cX11_kept 20 = .ok (.iconst 1, 1) := by decide +kernel
theorem dX11_kept_21 : decode cX11_kept 21 = .ok (.invokestatic 97, 3) := by decide +kernel
theorem dX11_kept_24 : decode cX11_kept 24 = .ok (.ifCond .ne 6, 3) := by decide +kernel
theorem dX11_kept_27 : decode cX11_kept 27 = .ok (.bipush (-3), 2) := by decide +kernel
theorem dX11_kept_29 : decode cX11_kept 29 = .ok (.ireturn, 1) := by decide +kernel
theorem dX11_kept_30 : decode cX11_kept 30 = .ok (.aload_n 0, 1) := by decide +kernel
theorem dX11_kept_31 : decode cX11_kept 31 = .ok (.getfield 58, 3) := by decide +kernel
theorem dX11_kept_34 : decode cX11_kept 34 = .ok (.aload_n 0, 1) := by decide +kernel
theorem dX11_kept_35 : decode cX11_kept 35 = .ok (.getfield 28, 3) := by decide +kernel
theorem dX11_kept_38 : decode cX11_kept 38 = .ok (.aload_n 0, 1) := by decide +kernel
theorem dX11_kept_39 : decode cX11_kept 39 = .ok (.getfield 35, 3) := by decide +kernel
theorem dX11_kept_42 : decode cX11_kept 42 = .ok (.iload_n 1, 1) := by decide +kernel
theorem dX11_kept_43 : decode cX11_kept 43 = .ok (.iload_n 2, 1) := by decide +kernel
theorem dX11_kept_44 : decode cX11_kept 44 = .ok (.invokevirtual 250, 3) := by decide +kernel
theorem dX11_kept_47 : decode cX11_kept 47 = .ok (.iload_n 3, 1) := by decide +kernel
theorem dX11_kept_48 : decode cX11_kept 48 = .ok (.ifCond .ne 13, 3) := by decide +kernel
theorem dX11_kept_51 : decode cX11_kept 51 = .ok (.aload_n 0, 1) := by decide +kernel
theorem dX11_kept_52 : decode cX11_kept 52 = .ok (.getfield 58, 3) := by decide +kernel
theorem dX11_kept_55 : decode cX11_kept 55 = .ok (.getfield 254, 3) := by decide +kernel
theorem dX11_kept_58 : decode cX11_kept 58 = .ok (.goto 10, 3) := by decide +kernel
theorem dX11_kept_61 : decode cX11_kept 61 = .ok (.aload_n 0, 1) := by decide +kernel
theorem dX11_kept_62 : decode cX11_kept 62 = .ok (.getfield 58, 3) := by decide +kernel
theorem dX11_kept_65 : decode cX11_kept 65 = .ok (.getfield 257, 3) := by decide +kernel
theorem dX11_kept_68 : decode cX11_kept 68 = .ok (.ireturn, 1) := by decide +kernel
theorem dX11_bestDead_0 : decode cX11_bestDead 0 = .ok (.iload_n 1, 1) := by decide +kernel
theorem dX11_bestDead_1 : decode cX11_bestDead 1 = .ok (.invokestatic 247, 3) := by decide +kernel
theorem dX11_bestDead_4 : decode cX11_bestDead 4 = .ok (.ifCond .eq 14, 3) := by decide +kernel
theorem dX11_bestDead_7 : decode cX11_bestDead 7 = .ok (.iload_n 2, 1) := by decide +kernel
theorem dX11_bestDead_8 : decode cX11_bestDead 8 = .ok (.iconst 0, 1) := by decide +kernel
theorem dX11_bestDead_9 : decode cX11_bestDead 9 = .ok (.sipush 18000, 3) := by decide +kernel
theorem dX11_bestDead_12 : decode cX11_bestDead 12 = .ok (.invokestatic 97, 3) := by decide +kernel
theorem dX11_bestDead_15 : decode cX11_bestDead 15 = .ok (.ifCond .ne 6, 3) := by decide +kernel
theorem dX11_bestDead_18 : decode cX11_bestDead 18 = .ok (.bipush (-3), 2) := by decide +kernel
theorem dX11_bestDead_20 : decode cX11_bestDead 20 = .ok (.ireturn, 1) := by decide +kernel
theorem dX11_bestDead_21 : decode cX11_bestDead 21 = .ok (.iconst (-1), 1) := by decide +kernel
theorem dX11_bestDead_22 : decode cX11_bestDead 22 = .ok (.istore_n 3, 1) := by decide +kernel
theorem dX11_bestDead_23 : decode cX11_bestDead 23 = .ok (.iconst 0, 1) := by decide +kernel
theorem dX11_bestDead_24 : decode cX11_bestDead 24 = .ok (.istore 4, 2) := by decide +kernel
theorem dX11_bestDead_26 : decode cX11_bestDead 26 = .ok (.iconst 0, 1) := by decide +kernel
theorem dX11_bestDead_27 : decode cX11_bestDead 27 = .ok (.istore 5, 2) := by decide +kernel
theorem dX11_bestDead_29 : decode cX11_bestDead 29 = .ok (.iload 5, 2) := by decide +kernel
theorem dX11_bestDead_31 : decode cX11_bestDead 31 = .ok (.sipush 990, 3) := by decide +kernel
theorem dX11_bestDead_34 : decode cX11_bestDead 34 = .ok (.if_icmp .gt 67, 3) := by decide +kernel
theorem dX11_bestDead_37 : decode cX11_bestDead 37 = .ok (.aload_n 0, 1) := by decide +kernel
theorem dX11_bestDead_38 : decode cX11_bestDead 38 = .ok (.getfield 58, 3) := by decide +kernel
theorem dX11_bestDead_41 : decode cX11_bestDead 41 = .ok (.aload_n 0, 1) := by decide +kernel
theorem dX11_bestDead_42 : decode cX11_bestDead 42 = .ok (.getfield 28, 3) := by decide +kernel
theorem dX11_bestDead_45 : decode cX11_bestDead 45 = .ok (.aload_n 0, 1) := by decide +kernel
theorem dX11_bestDead_46 : decode cX11_bestDead 46 = .ok (.getfield 35, 3) := by decide +kernel
theorem dX11_bestDead_49 : decode cX11_bestDead 49 = .ok (.iload_n 1, 1) := by decide +kernel
theorem dX11_bestDead_50 : decode cX11_bestDead 50 = .ok (.iload 5, 2) := by decide +kernel
theorem dX11_bestDead_52 : decode cX11_bestDead 52 = .ok (.invokevirtual 250, 3) := by decide +kernel
theorem dX11_bestDead_55 : decode cX11_bestDead 55 = .ok (.aload_n 0, 1) := by decide +kernel
theorem dX11_bestDead_56 : decode cX11_bestDead 56 = .ok (.getfield 58, 3) := by decide +kernel
theorem dX11_bestDead_59 : decode cX11_bestDead 59 = .ok (.getfield 254, 3) := by decide +kernel
theorem dX11_bestDead_62 : decode cX11_bestDead 62 = .ok (.iload_n 2, 1) := by decide +kernel
theorem dX11_bestDead_63 : decode cX11_bestDead 63 = .ok (.if_icmp .gt 32, 3) := by decide +kernel
theorem dX11_bestDead_66 : decode cX11_bestDead 66 = .ok (.iload_n 3, 1) := by decide +kernel
theorem dX11_bestDead_67 : decode cX11_bestDead 67 = .ok (.iconst (-1), 1) := by decide +kernel
theorem dX11_bestDead_68 : decode cX11_bestDead 68 = .ok (.if_icmp .eq 15, 3) := by decide +kernel
theorem dX11_bestDead_71 : decode cX11_bestDead 71 = .ok (.aload_n 0, 1) := by decide +kernel
theorem dX11_bestDead_72 : decode cX11_bestDead 72 = .ok (.getfield 58, 3) := by decide +kernel
theorem dX11_bestDead_75 : decode cX11_bestDead 75 = .ok (.getfield 257, 3) := by decide +kernel
theorem dX11_bestDead_78 : decode cX11_bestDead 78 = .ok (.iload 4, 2) := by decide +kernel
theorem dX11_bestDead_80 : decode cX11_bestDead 80 = .ok (.if_icmp .ge 15, 3) := by decide +kernel
theorem dX11_bestDead_83 : decode cX11_bestDead 83 = .ok (.iload 5, 2) := by decide +kernel
theorem dX11_bestDead_85 : decode cX11_bestDead 85 = .ok (.istore_n 3, 1) := by decide +kernel
theorem dX11_bestDead_86 : decode cX11_bestDead 86 = .ok (.aload_n 0, 1) := by decide +kernel
theorem dX11_bestDead_87 : decode cX11_bestDead 87 = .ok (.getfield 58, 3) := by decide +kernel
theorem dX11_bestDead_90 : decode cX11_bestDead 90 = .ok (.getfield 257, 3) := by decide +kernel
theorem dX11_bestDead_93 : decode cX11_bestDead 93 = .ok (.istore 4, 2) := by decide +kernel
theorem dX11_bestDead_95 : decode cX11_bestDead 95 = .ok (.iinc 5 10, 3) := by decide +kernel
theorem dX11_bestDead_98 : decode cX11_bestDead 98 = .ok (.goto (-69), 3) := by decide +kernel
theorem dX11_bestDead_101 : decode cX11_bestDead 101 = .ok (.iload_n 3, 1) := by decide +kernel
theorem dX11_bestDead_102 : decode cX11_bestDead 102 = .ok (.ireturn, 1) := by decide +kernel
theorem dX11_look_0 : decode cX11_look 0 = .ok (.iload_n 1, 1) := by decide +kernel
theorem dX11_look_1 : decode cX11_look 1 = .ok (.invokestatic 107, 3) := by decide +kernel
theorem dX11_look_4 : decode cX11_look 4 = .ok (.ifCond .eq 17, 3) := by decide +kernel
theorem dX11_look_7 : decode cX11_look 7 = .ok (.iload_n 2, 1) := by decide +kernel
theorem dX11_look_8 : decode cX11_look 8 = .ok (.invokestatic 107, 3) := by decide +kernel
theorem dX11_look_11 : decode cX11_look 11 = .ok (.ifCond .eq 10, 3) := by decide +kernel
theorem dX11_look_14 : decode cX11_look 14 = .ok (.iload_n 3, 1) := by decide +kernel
theorem dX11_look_15 : decode cX11_look 15 = .ok (.invokestatic 107, 3) := by decide +kernel
theorem dX11_look_18 : decode cX11_look 18 = .ok (.ifCond .ne 6, 3) := by decide +kernel
theorem dX11_look_21 : decode cX11_look 21 = .ok (.bipush (-3), 2) := by decide +kernel
theorem dX11_look_23 : decode cX11_look 23 = .ok (.ireturn, 1) := by decide +kernel
theorem dX11_look_24 : decode cX11_look 24 = .ok (.aload_n 0, 1) := by decide +kernel
theorem dX11_look_25 : decode cX11_look 25 = .ok (.getfield 65, 3) := by decide +kernel
theorem dX11_look_28 : decode cX11_look 28 = .ok (.iload_n 1, 1) := by decide +kernel
theorem dX11_look_29 : decode cX11_look 29 = .ok (.iload_n 2, 1) := by decide +kernel
theorem dX11_look_30 : decode cX11_look 30 = .ok (.iload_n 3, 1) := by decide +kernel
theorem dX11_look_31 : decode cX11_look 31 = .ok (.invokevirtual 260, 3) := by decide +kernel
theorem dX11_look_34 : decode cX11_look 34 = .ok (.ireturn, 1) := by decide +kernel
theorem dX11_wrong_0 : decode cX11_wrong 0 = .ok (.iload_n 1, 1) := by decide +kernel
theorem dX11_wrong_1 : decode cX11_wrong 1 = .ok (.iconst 0, 1) := by decide +kernel
theorem dX11_wrong_2 : decode cX11_wrong 2 = .ok (.sipush 9000, 3) := by decide +kernel
theorem dX11_wrong_5 : decode cX11_wrong 5 = .ok (.invokestatic 97, 3) := by decide +kernel
theorem dX11_wrong_8 : decode cX11_wrong 8 = .ok (.ifCond .eq 12, 3) := by decide +kernel
theorem dX11_wrong_11 : decode cX11_wrong 11 = .ok (.iload_n 2, 1) := by decide +kernel
theorem dX11_wrong_12 : decode cX11_wrong 12 = .ok (.iconst 0, 1) := by decide +kernel
theorem dX11_wrong_13 : decode cX11_wrong 13 = .ok (.iconst 1, 1) := by decide +kernel
theorem dX11_wrong_14 : decode cX11_wrong 14 = .ok (.invokestatic 97, 3) := by decide +kernel
theorem dX11_wrong_17 : decode cX11_wrong 17 = .ok (.ifCond .ne 6, 3) := by decide +kernel
theorem dX11_wrong_20 : decode cX11_wrong 20 = .ok (.bipush (-3), 2) := by decide +kernel
theorem dX11_wrong_22 : decode cX11_wrong 22 = .ok (.ireturn, 1) := by decide +kernel
theorem dX11_wrong_23 : decode cX11_wrong 23 = .ok (.iload_n 2, 1) := by decide +kernel
theorem dX11_wrong_24 : decode cX11_wrong 24 = .ok (.ifCond .ne 14, 3) := by decide +kernel
theorem dX11_wrong_27 : decode cX11_wrong 27 = .ok (.aload_n 0, 1) := by decide +kernel
theorem dX11_wrong_28 : decode cX11_wrong 28 = .ok (.getfield 65, 3) := by decide +kernel
theorem dX11_wrong_31 : decode cX11_wrong 31 = .ok (.iload_n 1, 1) := by decide +kernel
theorem dX11_wrong_32 : decode cX11_wrong 32 = .ok (.invokevirtual 262, 3) := by decide +kernel
theorem dX11_wrong_35 : decode cX11_wrong 35 = .ok (.goto 11, 3) := by decide +kernel
theorem dX11_wrong_38 : decode cX11_wrong 38 = .ok (.aload_n 0, 1) := by decide +kernel
theorem dX11_wrong_39 : decode cX11_wrong 39 = .ok (.getfield 65, 3) := by decide +kernel
theorem dX11_wrong_42 : decode cX11_wrong 42 = .ok (.iload_n 1, 1) := by decide +kernel
theorem dX11_wrong_43 : decode cX11_wrong 43 = .ok (.invokevirtual 265, 3) := by decide +kernel
theorem dX11_wrong_46 : decode cX11_wrong 46 = .ok (.ireturn, 1) := by decide +kernel
theorem dX11_about_0 : decode cX11_about 0 = .ok (.iload_n 1, 1) := by decide +kernel
theorem dX11_about_1 : decode cX11_about 1 = .ok (.invokestatic 107, 3) := by decide +kernel
theorem dX11_about_4 : decode cX11_about 4 = .ok (.ifCond .eq 10, 3) := by decide +kernel
theorem dX11_about_7 : decode cX11_about 7 = .ok (.iload_n 2, 1) := by decide +kernel
theorem dX11_about_8 : decode cX11_about 8 = .ok (.invokestatic 107, 3) := by decide +kernel
theorem dX11_about_11 : decode cX11_about 11 = .ok (.ifCond .ne 6, 3) := by decide +kernel
theorem dX11_about_14 : decode cX11_about 14 = .ok (.bipush (-3), 2) := by decide +kernel
theorem dX11_about_16 : decode cX11_about 16 = .ok (.ireturn, 1) := by decide +kernel
theorem dX11_about_17 : decode cX11_about 17 = .ok (.aload_n 0, 1) := by decide +kernel
theorem dX11_about_18 : decode cX11_about 18 = .ok (.getfield 72, 3) := by decide +kernel
theorem dX11_about_21 : decode cX11_about 21 = .ok (.iload_n 1, 1) := by decide +kernel
theorem dX11_about_22 : decode cX11_about 22 = .ok (.iload_n 2, 1) := by decide +kernel
theorem dX11_about_23 : decode cX11_about 23 = .ok (.invokevirtual 268, 3) := by decide +kernel
theorem dX11_about_26 : decode cX11_about 26 = .ok (.ireturn, 1) := by decide +kernel
theorem dX11_needle_0 : decode cX11_needle 0 = .ok (.iload_n 1, 1) := by decide +kernel
theorem dX11_needle_1 : decode cX11_needle 1 = .ok (.invokestatic 149, 3) := by decide +kernel
theorem dX11_needle_4 : decode cX11_needle 4 = .ok (.ifCond .eq 12, 3) := by decide +kernel
theorem dX11_needle_7 : decode cX11_needle 7 = .ok (.iload_n 2, 1) := by decide +kernel
theorem dX11_needle_8 : decode cX11_needle 8 = .ok (.iconst 0, 1) := by decide +kernel
theorem dX11_needle_9 : decode cX11_needle 9 = .ok (.iconst 1, 1) := by decide +kernel
theorem dX11_needle_10 : decode cX11_needle 10 = .ok (.invokestatic 97, 3) := by decide +kernel
theorem dX11_needle_13 : decode cX11_needle 13 = .ok (.ifCond .ne 6, 3) := by decide +kernel
theorem dX11_needle_16 : decode cX11_needle 16 = .ok (.bipush (-3), 2) := by decide +kernel
theorem dX11_needle_18 : decode cX11_needle 18 = .ok (.ireturn, 1) := by decide +kernel
theorem dX11_needle_19 : decode cX11_needle 19 = .ok (.aload_n 0, 1) := by decide +kernel
theorem dX11_needle_20 : decode cX11_needle 20 = .ok (.getfield 72, 3) := by decide +kernel
theorem dX11_needle_23 : decode cX11_needle 23 = .ok (.getfield 270, 3) := by decide +kernel
theorem dX11_needle_26 : decode cX11_needle 26 = .ok (.iload_n 1, 1) := by decide +kernel
theorem dX11_needle_27 : decode cX11_needle 27 = .ok (.iaload, 1) := by decide +kernel
theorem dX11_needle_28 : decode cX11_needle 28 = .ok (.ifCond .ne 5, 3) := by decide +kernel
theorem dX11_needle_31 : decode cX11_needle 31 = .ok (.iconst (-1), 1) := by decide +kernel
theorem dX11_needle_32 : decode cX11_needle 32 = .ok (.ireturn, 1) := by decide +kernel
theorem dX11_needle_33 : decode cX11_needle 33 = .ok (.iload_n 2, 1) := by decide +kernel
theorem dX11_needle_34 : decode cX11_needle 34 = .ok (.ifCond .ne 15, 3) := by decide +kernel
theorem dX11_needle_37 : decode cX11_needle 37 = .ok (.aload_n 0, 1) := by decide +kernel
theorem dX11_needle_38 : decode cX11_needle 38 = .ok (.getfield 72, 3) := by decide +kernel
theorem dX11_needle_41 : decode cX11_needle 41 = .ok (.getfield 273, 3) := by decide +kernel
theorem dX11_needle_44 : decode cX11_needle 44 = .ok (.iload_n 1, 1) := by decide +kernel
theorem dX11_needle_45 : decode cX11_needle 45 = .ok (.iaload, 1) := by decide +kernel
theorem dX11_needle_46 : decode cX11_needle 46 = .ok (.goto 12, 3) := by decide +kernel
theorem dX11_needle_49 : decode cX11_needle 49 = .ok (.aload_n 0, 1) := by decide +kernel
theorem dX11_needle_50 : decode cX11_needle 50 = .ok (.getfield 72, 3) := by decide +kernel
theorem dX11_needle_53 : decode cX11_needle 53 = .ok (.getfield 276, 3) := by decide +kernel
theorem dX11_needle_56 : decode cX11_needle 56 = .ok (.iload_n 1, 1) := by decide +kernel
theorem dX11_needle_57 : decode cX11_needle 57 = .ok (.iaload, 1) := by decide +kernel
theorem dX11_needle_58 : decode cX11_needle 58 = .ok (.ldc 166, 2) := by decide +kernel
theorem dX11_needle_60 : decode cX11_needle 60 = .ok (.iadd, 1) := by decide +kernel
theorem dX11_needle_61 : decode cX11_needle 61 = .ok (.ireturn, 1) := by decide +kernel
theorem dX11_watch_0 : decode cX11_watch 0 = .ok (.iload_n 1, 1) := by decide +kernel
theorem dX11_watch_1 : decode cX11_watch 1 = .ok (.iconst 0, 1) := by decide +kernel
theorem dX11_watch_2 : decode cX11_watch 2 = .ok (.bipush 60, 2) := by decide +kernel
theorem dX11_watch_4 : decode cX11_watch 4 = .ok (.invokestatic 97, 3) := by decide +kernel
theorem dX11_watch_7 : decode cX11_watch 7 = .ok (.ifCond .eq 10, 3) := by decide +kernel
theorem dX11_watch_10 : decode cX11_watch 10 = .ok (.iload_n 2, 1) := by decide +kernel
theorem dX11_watch_11 : decode cX11_watch 11 = .ok (.invokestatic 140, 3) := by decide +kernel
theorem dX11_watch_14 : decode cX11_watch 14 = .ok (.ifCond .ne 6, 3) := by decide +kernel
theorem dX11_watch_17 : decode cX11_watch 17 = .ok (.bipush (-3), 2) := by decide +kernel
theorem dX11_watch_19 : decode cX11_watch 19 = .ok (.ireturn, 1) := by decide +kernel
theorem dX11_watch_20 : decode cX11_watch 20 = .ok (.aload_n 0, 1) := by decide +kernel
theorem dX11_watch_21 : decode cX11_watch 21 = .ok (.getfield 79, 3) := by decide +kernel
theorem dX11_watch_24 : decode cX11_watch 24 = .ok (.iload_n 1, 1) := by decide +kernel
theorem dX11_watch_25 : decode cX11_watch 25 = .ok (.iload_n 2, 1) := by decide +kernel
theorem dX11_watch_26 : decode cX11_watch 26 = .ok (.invokevirtual 279, 3) := by decide +kernel
theorem dX11_watch_29 : decode cX11_watch 29 = .ok (.ireturn, 1) := by decide +kernel
theorem dX11_may_0 : decode cX11_may 0 = .ok (.iload_n 1, 1) := by decide +kernel
theorem dX11_may_1 : decode cX11_may 1 = .ok (.iconst 0, 1) := by decide +kernel
theorem dX11_may_2 : decode cX11_may 2 = .ok (.sipush 999, 3) := by decide +kernel
theorem dX11_may_5 : decode cX11_may 5 = .ok (.invokestatic 97, 3) := by decide +kernel
theorem dX11_may_8 : decode cX11_may 8 = .ok (.ifCond .eq 12, 3) := by decide +kernel
theorem dX11_may_11 : decode cX11_may 11 = .ok (.iload_n 2, 1) := by decide +kernel
theorem dX11_may_12 : decode cX11_may 12 = .ok (.iconst 0, 1) := by decide +kernel
theorem dX11_may_13 : decode cX11_may 13 = .ok (.iconst 2, 1) := by decide +kernel
theorem dX11_may_14 : decode cX11_may 14 = .ok (.invokestatic 97, 3) := by decide +kernel
theorem dX11_may_17 : decode cX11_may 17 = .ok (.ifCond .ne 6, 3) := by decide +kernel
theorem dX11_may_20 : decode cX11_may 20 = .ok (.bipush (-3), 2) := by decide +kernel
theorem dX11_may_22 : decode cX11_may 22 = .ok (.ireturn, 1) := by decide +kernel
theorem dX11_may_23 : decode cX11_may 23 = .ok (.aload_n 0, 1) := by decide +kernel
theorem dX11_may_24 : decode cX11_may 24 = .ok (.getfield 79, 3) := by decide +kernel
theorem dX11_may_27 : decode cX11_may 27 = .ok (.iload_n 1, 1) := by decide +kernel
theorem dX11_may_28 : decode cX11_may 28 = .ok (.invokevirtual 280, 3) := by decide +kernel
theorem dX11_may_31 : decode cX11_may 31 = .ok (.iload_n 2, 1) := by decide +kernel
theorem dX11_may_32 : decode cX11_may 32 = .ok (.ifCond .ne 11, 3) := by decide +kernel
theorem dX11_may_35 : decode cX11_may 35 = .ok (.aload_n 0, 1) := by decide +kernel
theorem dX11_may_36 : decode cX11_may 36 = .ok (.getfield 79, 3) := by decide +kernel
theorem dX11_may_39 : decode cX11_may 39 = .ok (.getfield 283, 3) := by decide +kernel
theorem dX11_may_42 : decode cX11_may 42 = .ok (.ireturn, 1) := by decide +kernel
theorem dX11_may_43 : decode cX11_may 43 = .ok (.iload_n 2, 1) := by decide +kernel
theorem dX11_may_44 : decode cX11_may 44 = .ok (.iconst 1, 1) := by decide +kernel
theorem dX11_may_45 : decode cX11_may 45 = .ok (.if_icmp .ne 13, 3) := by decide +kernel
theorem dX11_may_48 : decode cX11_may 48 = .ok (.aload_n 0, 1) := by decide +kernel
theorem dX11_may_49 : decode cX11_may 49 = .ok (.getfield 79, 3) := by decide +kernel
theorem dX11_may_52 : decode cX11_may 52 = .ok (.getfield 286, 3) := by decide +kernel
theorem dX11_may_55 : decode cX11_may 55 = .ok (.goto 10, 3) := by decide +kernel
theorem dX11_may_58 : decode cX11_may 58 = .ok (.aload_n 0, 1) := by decide +kernel
theorem dX11_may_59 : decode cX11_may 59 = .ok (.getfield 79, 3) := by decide +kernel
theorem dX11_may_62 : decode cX11_may 62 = .ok (.invokevirtual 289, 3) := by decide +kernel
theorem dX11_may_65 : decode cX11_may 65 = .ok (.ireturn, 1) := by decide +kernel
theorem dX11_count_0 : decode cX11_count 0 = .ok (.iload_n 1, 1) := by decide +kernel
theorem dX11_count_1 : decode cX11_count 1 = .ok (.tableswitch 114 0 7 #[47, 55, 63, 74, 82, 90, 98, 106], 47) := by decide +kernel
theorem dX11_count_48 : decode cX11_count 48 = .ok (.aload_n 0, 1) := by decide +kernel
theorem dX11_count_49 : decode cX11_count 49 = .ok (.getfield 28, 3) := by decide +kernel
theorem dX11_count_52 : decode cX11_count 52 = .ok (.getfield 175, 3) := by decide +kernel
theorem dX11_count_55 : decode cX11_count 55 = .ok (.ireturn, 1) := by decide +kernel
theorem dX11_count_56 : decode cX11_count 56 = .ok (.aload_n 0, 1) := by decide +kernel
theorem dX11_count_57 : decode cX11_count 57 = .ok (.getfield 28, 3) := by decide +kernel
theorem dX11_count_60 : decode cX11_count 60 = .ok (.getfield 110, 3) := by decide +kernel
theorem dX11_count_63 : decode cX11_count 63 = .ok (.ireturn, 1) := by decide +kernel
theorem dX11_count_64 : decode cX11_count 64 = .ok (.aload_n 0, 1) := by decide +kernel
theorem dX11_count_65 : decode cX11_count 65 = .ok (.getfield 28, 3) := by decide +kernel
theorem dX11_count_68 : decode cX11_count 68 = .ok (.getfield 104, 3) := by decide +kernel
theorem dX11_count_71 : decode cX11_count 71 = .ok (.bipush 50, 2) := by decide +kernel
theorem dX11_count_73 : decode cX11_count 73 = .ok (.iadd, 1) := by decide +kernel
theorem dX11_count_74 : decode cX11_count 74 = .ok (.ireturn, 1) := by decide +kernel
theorem dX11_count_75 : decode cX11_count 75 = .ok (.aload_n 0, 1) := by decide +kernel
theorem dX11_count_76 : decode cX11_count 76 = .ok (.getfield 10, 3) := by decide +kernel
theorem dX11_count_79 : decode cX11_count 79 = .ok (.getfield 120, 3) := by decide +kernel
theorem dX11_count_82 : decode cX11_count 82 = .ok (.ireturn, 1) := by decide +kernel
theorem dX11_count_83 : decode cX11_count 83 = .ok (.aload_n 0, 1) := by decide +kernel
theorem dX11_count_84 : decode cX11_count 84 = .ok (.getfield 42, 3) := by decide +kernel
theorem dX11_count_87 : decode cX11_count 87 = .ok (.getfield 189, 3) := by decide +kernel
theorem dX11_count_90 : decode cX11_count 90 = .ok (.ireturn, 1) := by decide +kernel
theorem dX11_count_91 : decode cX11_count 91 = .ok (.aload_n 0, 1) := by decide +kernel
theorem dX11_count_92 : decode cX11_count 92 = .ok (.getfield 65, 3) := by decide +kernel
theorem dX11_count_95 : decode cX11_count 95 = .ok (.getfield 292, 3) := by decide +kernel
theorem dX11_count_98 : decode cX11_count 98 = .ok (.ireturn, 1) := by decide +kernel
theorem dX11_count_99 : decode cX11_count 99 = .ok (.aload_n 0, 1) := by decide +kernel
theorem dX11_count_100 : decode cX11_count 100 = .ok (.getfield 72, 3) := by decide +kernel
theorem dX11_count_103 : decode cX11_count 103 = .ok (.getfield 293, 3) := by decide +kernel
theorem dX11_count_106 : decode cX11_count 106 = .ok (.ireturn, 1) := by decide +kernel
theorem dX11_count_107 : decode cX11_count 107 = .ok (.aload_n 0, 1) := by decide +kernel
theorem dX11_count_108 : decode cX11_count 108 = .ok (.getfield 79, 3) := by decide +kernel
theorem dX11_count_111 : decode cX11_count 111 = .ok (.getfield 294, 3) := by decide +kernel
theorem dX11_count_114 : decode cX11_count 114 = .ok (.ireturn, 1) := by decide +kernel
theorem dX11_count_115 : decode cX11_count 115 = .ok (.bipush (-3), 2) := by decide +kernel
theorem dX11_count_117 : decode cX11_count 117 = .ok (.ireturn, 1) := by decide +kernel
theorem dX11_isWithin_0 : decode cX11_isWithin 0 = .ok (.iload_n 0, 1) := by decide +kernel
theorem dX11_isWithin_1 : decode cX11_isWithin 1 = .ok (.iload_n 1, 1) := by decide +kernel
theorem dX11_isWithin_2 : decode cX11_isWithin 2 = .ok (.if_icmp .lt 12, 3) := by decide +kernel
theorem dX11_isWithin_5 : decode cX11_isWithin 5 = .ok (.iload_n 0, 1) := by decide +kernel
theorem dX11_isWithin_6 : decode cX11_isWithin 6 = .ok (.iload_n 2, 1) := by decide +kernel
theorem dX11_isWithin_7 : decode cX11_isWithin 7 = .ok (.if_icmp .gt 7, 3) := by decide +kernel
theorem dX11_isWithin_10 : decode cX11_isWithin 10 = .ok (.iconst 1, 1) := by decide +kernel
theorem dX11_isWithin_11 : decode cX11_isWithin 11 = .ok (.goto 4, 3) := by decide +kernel
theorem dX11_isWithin_14 : decode cX11_isWithin 14 = .ok (.iconst 0, 1) := by decide +kernel
theorem dX11_isWithin_15 : decode cX11_isWithin 15 = .ok (.ireturn, 1) := by decide +kernel
theorem dX11_isHeading_0 : decode cX11_isHeading 0 = .ok (.iload_n 0, 1) := by decide +kernel
theorem dX11_isHeading_1 : decode cX11_isHeading 1 = .ok (.iconst 0, 1) := by decide +kernel
theorem dX11_isHeading_2 : decode cX11_isHeading 2 = .ok (.ldc_w 295, 3) := by decide +kernel
theorem dX11_isHeading_5 : decode cX11_isHeading 5 = .ok (.invokestatic 97, 3) := by decide +kernel
theorem dX11_isHeading_8 : decode cX11_isHeading 8 = .ok (.ireturn, 1) := by decide +kernel
theorem dX11_isOff_0 : decode cX11_isOff 0 = .ok (.iload_n 0, 1) := by decide +kernel
theorem dX11_isOff_1 : decode cX11_isOff 1 = .ok (.sipush (-18000), 3) := by decide +kernel
theorem dX11_isOff_4 : decode cX11_isOff 4 = .ok (.sipush 17999, 3) := by decide +kernel
theorem dX11_isOff_7 : decode cX11_isOff 7 = .ok (.invokestatic 97, 3) := by decide +kernel
theorem dX11_isOff_10 : decode cX11_isOff 10 = .ok (.ireturn, 1) := by decide +kernel
theorem dX11_isPlace_0 : decode cX11_isPlace 0 = .ok (.iload_n 0, 1) := by decide +kernel
theorem dX11_isPlace_1 : decode cX11_isPlace 1 = .ok (.bipush (-89), 2) := by decide +kernel
theorem dX11_isPlace_3 : decode cX11_isPlace 3 = .ok (.bipush 89, 2) := by decide +kernel
theorem dX11_isPlace_5 : decode cX11_isPlace 5 = .ok (.invokestatic 97, 3) := by decide +kernel
theorem dX11_isPlace_8 : decode cX11_isPlace 8 = .ok (.ireturn, 1) := by decide +kernel
theorem dX11_isSpeed_0 : decode cX11_isSpeed 0 = .ok (.iload_n 0, 1) := by decide +kernel
theorem dX11_isSpeed_1 : decode cX11_isSpeed 1 = .ok (.iconst 0, 1) := by decide +kernel
theorem dX11_isSpeed_2 : decode cX11_isSpeed 2 = .ok (.bipush 40, 2) := by decide +kernel
theorem dX11_isSpeed_4 : decode cX11_isSpeed 4 = .ok (.invokestatic 97, 3) := by decide +kernel
theorem dX11_isSpeed_7 : decode cX11_isSpeed 7 = .ok (.ireturn, 1) := by decide +kernel
theorem dX11_isTurn_0 : decode cX11_isTurn 0 = .ok (.iload_n 0, 1) := by decide +kernel
theorem dX11_isTurn_1 : decode cX11_isTurn 1 = .ok (.sipush (-999), 3) := by decide +kernel
theorem dX11_isTurn_4 : decode cX11_isTurn 4 = .ok (.sipush 999, 3) := by decide +kernel
theorem dX11_isTurn_7 : decode cX11_isTurn 7 = .ok (.invokestatic 97, 3) := by decide +kernel
theorem dX11_isTurn_10 : decode cX11_isTurn 10 = .ok (.ireturn, 1) := by decide +kernel
theorem dX11_isEighth_0 : decode cX11_isEighth 0 = .ok (.iload_n 0, 1) := by decide +kernel
theorem dX11_isEighth_1 : decode cX11_isEighth 1 = .ok (.iconst 0, 1) := by decide +kernel
theorem dX11_isEighth_2 : decode cX11_isEighth 2 = .ok (.bipush 7, 2) := by decide +kernel
theorem dX11_isEighth_4 : decode cX11_isEighth 4 = .ok (.invokestatic 97, 3) := by decide +kernel
theorem dX11_isEighth_7 : decode cX11_isEighth 7 = .ok (.ireturn, 1) := by decide +kernel
theorem dX11_isTrial_0 : decode cX11_isTrial 0 = .ok (.iload_n 0, 1) := by decide +kernel
theorem dX11_isTrial_1 : decode cX11_isTrial 1 = .ok (.iconst 1, 1) := by decide +kernel
theorem dX11_isTrial_2 : decode cX11_isTrial 2 = .ok (.sipush 300, 3) := by decide +kernel
theorem dX11_isTrial_5 : decode cX11_isTrial 5 = .ok (.invokestatic 97, 3) := by decide +kernel
theorem dX11_isTrial_8 : decode cX11_isTrial 8 = .ok (.ireturn, 1) := by decide +kernel
theorem dX11_isQuickTurn_0 : decode cX11_isQuickTurn 0 = .ok (.iload_n 0, 1) := by decide +kernel
theorem dX11_isQuickTurn_1 : decode cX11_isQuickTurn 1 = .ok (.invokestatic 247, 3) := by decide +kernel
theorem dX11_isQuickTurn_4 : decode cX11_isQuickTurn 4 = .ok (.ifCond .eq 23, 3) := by decide +kernel
theorem dX11_isQuickTurn_7 : decode cX11_isQuickTurn 7 = .ok (.iload_n 1, 1) := by decide +kernel
theorem dX11_isQuickTurn_8 : decode cX11_isQuickTurn 8 = .ok (.iconst 0, 1) := by decide +kernel
theorem dX11_isQuickTurn_9 : decode cX11_isQuickTurn 9 = .ok (.iload_n 0, 1) := by decide +kernel
theorem dX11_isQuickTurn_10 : decode cX11_isQuickTurn 10 = .ok (.invokestatic 97, 3) := by decide +kernel
theorem dX11_isQuickTurn_13 : decode cX11_isQuickTurn 13 = .ok (.ifCond .eq 14, 3) := by decide +kernel
theorem dX11_isQuickTurn_16 : decode cX11_isQuickTurn 16 = .ok (.iload_n 2, 1) := by decide +kernel
theorem dX11_isQuickTurn_17 : decode cX11_isQuickTurn 17 = .ok (.invokestatic 113, 3) := by decide +kernel
theorem dX11_isQuickTurn_20 : decode cX11_isQuickTurn 20 = .ok (.ifCond .eq 7, 3) := by decide +kernel
theorem dX11_isQuickTurn_23 : decode cX11_isQuickTurn 23 = .ok (.iconst 1, 1) := by decide +kernel
theorem dX11_isQuickTurn_24 : decode cX11_isQuickTurn 24 = .ok (.goto 4, 3) := by decide +kernel
theorem dX11_isQuickTurn_27 : decode cX11_isQuickTurn 27 = .ok (.iconst 0, 1) := by decide +kernel
theorem dX11_isQuickTurn_28 : decode cX11_isQuickTurn 28 = .ok (.ireturn, 1) := by decide +kernel
theorem dX11_asHeading_0 : decode cX11_asHeading 0 = .ok (.iload_n 0, 1) := by decide +kernel
theorem dX11_asHeading_1 : decode cX11_asHeading 1 = .ok (.ldc_w 296, 3) := by decide +kernel
theorem dX11_asHeading_4 : decode cX11_asHeading 4 = .ok (.invokestatic 297, 3) := by decide +kernel
theorem dX11_asHeading_7 : decode cX11_asHeading 7 = .ok (.ireturn, 1) := by decide +kernel
theorem dX11_asOff_0 : decode cX11_asOff 0 = .ok (.iload_n 0, 1) := by decide +kernel
theorem dX11_asOff_1 : decode cX11_asOff 1 = .ok (.sipush 18000, 3) := by decide +kernel
theorem dX11_asOff_4 : decode cX11_asOff 4 = .ok (.iadd, 1) := by decide +kernel
theorem dX11_asOff_5 : decode cX11_asOff 5 = .ok (.ldc_w 296, 3) := by decide +kernel
theorem dX11_asOff_8 : decode cX11_asOff 8 = .ok (.invokestatic 297, 3) := by decide +kernel
theorem dX11_asOff_11 : decode cX11_asOff 11 = .ok (.sipush 18000, 3) := by decide +kernel
theorem dX11_asOff_14 : decode cX11_asOff 14 = .ok (.isub, 1) := by decide +kernel
theorem dX11_asOff_15 : decode cX11_asOff 15 = .ok (.ireturn, 1) := by decide +kernel
theorem dX11_apart_0 : decode cX11_apart 0 = .ok (.iload_n 0, 1) := by decide +kernel
theorem dX11_apart_1 : decode cX11_apart 1 = .ok (.iload_n 1, 1) := by decide +kernel
theorem dX11_apart_2 : decode cX11_apart 2 = .ok (.isub, 1) := by decide +kernel
theorem dX11_apart_3 : decode cX11_apart 3 = .ok (.invokestatic 302, 3) := by decide +kernel
theorem dX11_apart_6 : decode cX11_apart 6 = .ok (.invokestatic 305, 3) := by decide +kernel
theorem dX11_apart_9 : decode cX11_apart 9 = .ok (.ireturn, 1) := by decide +kernel
theorem dX11_bounded_0 : decode cX11_bounded 0 = .ok (.iload_n 1, 1) := by decide +kernel
theorem dX11_bounded_1 : decode cX11_bounded 1 = .ok (.ineg, 1) := by decide +kernel
theorem dX11_bounded_2 : decode cX11_bounded 2 = .ok (.iload_n 1, 1) := by decide +kernel
theorem dX11_bounded_3 : decode cX11_bounded 3 = .ok (.iload_n 0, 1) := by decide +kernel
theorem dX11_bounded_4 : decode cX11_bounded 4 = .ok (.invokestatic 308, 3) := by decide +kernel
theorem dX11_bounded_7 : decode cX11_bounded 7 = .ok (.invokestatic 311, 3) := by decide +kernel
theorem dX11_bounded_10 : decode cX11_bounded 10 = .ok (.ireturn, 1) := by decide +kernel
theorem dX11_holdOf_0 : decode cX11_holdOf 0 = .ok (.bipush 90, 2) := by decide +kernel
theorem dX11_holdOf_2 : decode cX11_holdOf 2 = .ok (.iload_n 0, 1) := by decide +kernel
theorem dX11_holdOf_3 : decode cX11_holdOf 3 = .ok (.invokestatic 305, 3) := by decide +kernel
theorem dX11_holdOf_6 : decode cX11_holdOf 6 = .ok (.isub, 1) := by decide +kernel
theorem dX11_holdOf_7 : decode cX11_holdOf 7 = .ok (.ireturn, 1) := by decide +kernel
theorem dX11_leanOf_0 : decode cX11_leanOf 0 = .ok (.iload_n 1, 1) := by decide +kernel
theorem dX11_leanOf_1 : decode cX11_leanOf 1 = .ok (.invokestatic 213, 3) := by decide +kernel
theorem dX11_leanOf_4 : decode cX11_leanOf 4 = .ok (.istore_n 3, 1) := by decide +kernel
theorem dX11_leanOf_5 : decode cX11_leanOf 5 = .ok (.iload_n 2, 1) := by decide +kernel
theorem dX11_leanOf_6 : decode cX11_leanOf 6 = .ok (.ldc_w 296, 3) := by decide +kernel
theorem dX11_leanOf_9 : decode cX11_leanOf 9 = .ok (.iload_n 2, 1) := by decide +kernel
theorem dX11_leanOf_10 : decode cX11_leanOf 10 = .ok (.isub, 1) := by decide +kernel
theorem dX11_leanOf_11 : decode cX11_leanOf 11 = .ok (.invokestatic 308, 3) := by decide +kernel
theorem dX11_leanOf_14 : decode cX11_leanOf 14 = .ok (.bipush 100, 2) := by decide +kernel
theorem dX11_leanOf_16 : decode cX11_leanOf 16 = .ok (.idiv, 1) := by decide +kernel
theorem dX11_leanOf_17 : decode cX11_leanOf 17 = .ok (.istore 4, 2) := by decide +kernel
theorem dX11_leanOf_19 : decode cX11_leanOf 19 = .ok (.iload_n 3, 1) := by decide +kernel
theorem dX11_leanOf_20 : decode cX11_leanOf 20 = .ok (.iconst 1, 1) := by decide +kernel
theorem dX11_leanOf_21 : decode cX11_leanOf 21 = .ok (.if_icmp .ge 7, 3) := by decide +kernel
theorem dX11_leanOf_24 : decode cX11_leanOf 24 = .ok (.iconst 0, 1) := by decide +kernel
theorem dX11_leanOf_25 : decode cX11_leanOf 25 = .ok (.goto 15, 3) := by decide +kernel
theorem dX11_leanOf_28 : decode cX11_leanOf 28 = .ok (.iload_n 0, 1) := by decide +kernel
theorem dX11_leanOf_29 : decode cX11_leanOf 29 = .ok (.bipush 90, 2) := by decide +kernel
theorem dX11_leanOf_31 : decode cX11_leanOf 31 = .ok (.iload 4, 2) := by decide +kernel
theorem dX11_leanOf_33 : decode cX11_leanOf 33 = .ok (.isub, 1) := by decide +kernel
theorem dX11_leanOf_34 : decode cX11_leanOf 34 = .ok (.imul, 1) := by decide +kernel
theorem dX11_leanOf_35 : decode cX11_leanOf 35 = .ok (.bipush 20, 2) := by decide +kernel
theorem dX11_leanOf_37 : decode cX11_leanOf 37 = .ok (.imul, 1) := by decide +kernel
theorem dX11_leanOf_38 : decode cX11_leanOf 38 = .ok (.iload_n 3, 1) := by decide +kernel
theorem dX11_leanOf_39 : decode cX11_leanOf 39 = .ok (.idiv, 1) := by decide +kernel
theorem dX11_leanOf_40 : decode cX11_leanOf 40 = .ok (.ireturn, 1) := by decide +kernel
theorem dJ9_floorMod_7cf53_0 : decode cJ9_floorMod_7cf53 0 = .ok (.iload_n 0, 1) := by decide +kernel
theorem dJ9_floorMod_7cf53_1 : decode cJ9_floorMod_7cf53 1 = .ok (.iload_n 1, 1) := by decide +kernel
theorem dJ9_floorMod_7cf53_2 : decode cJ9_floorMod_7cf53 2 = .ok (.irem, 1) := by decide +kernel
theorem dJ9_floorMod_7cf53_3 : decode cJ9_floorMod_7cf53 3 = .ok (.istore_n 2, 1) := by decide +kernel
theorem dJ9_floorMod_7cf53_4 : decode cJ9_floorMod_7cf53 4 = .ok (.iload_n 0, 1) := by decide +kernel
theorem dJ9_floorMod_7cf53_5 : decode cJ9_floorMod_7cf53 5 = .ok (.iload_n 1, 1) := by decide +kernel
theorem dJ9_floorMod_7cf53_6 : decode cJ9_floorMod_7cf53 6 = .ok (.ixor, 1) := by decide +kernel
theorem dJ9_floorMod_7cf53_7 : decode cJ9_floorMod_7cf53 7 = .ok (.ifCond .ge 11, 3) := by decide +kernel
theorem dJ9_floorMod_7cf53_10 : decode cJ9_floorMod_7cf53 10 = .ok (.iload_n 2, 1) := by decide +kernel
theorem dJ9_floorMod_7cf53_11 : decode cJ9_floorMod_7cf53 11 = .ok (.ifCond .eq 7, 3) := by decide +kernel
theorem dJ9_floorMod_7cf53_14 : decode cJ9_floorMod_7cf53 14 = .ok (.iload_n 2, 1) := by decide +kernel
theorem dJ9_floorMod_7cf53_15 : decode cJ9_floorMod_7cf53 15 = .ok (.iload_n 1, 1) := by decide +kernel
theorem dJ9_floorMod_7cf53_16 : decode cJ9_floorMod_7cf53 16 = .ok (.iadd, 1) := by decide +kernel
theorem dJ9_floorMod_7cf53_17 : decode cJ9_floorMod_7cf53 17 = .ok (.ireturn, 1) := by decide +kernel
theorem dJ9_floorMod_7cf53_18 : decode cJ9_floorMod_7cf53 18 = .ok (.iload_n 2, 1) := by decide +kernel
theorem dJ9_floorMod_7cf53_19 : decode cJ9_floorMod_7cf53 19 = .ok (.ireturn, 1) := by decide +kernel
theorem dJ9_abs_0f7a4_0 : decode cJ9_abs_0f7a4 0 = .ok (.iload_n 0, 1) := by decide +kernel
theorem dJ9_abs_0f7a4_1 : decode cJ9_abs_0f7a4 1 = .ok (.ifCond .ge 8, 3) := by decide +kernel
theorem dJ9_abs_0f7a4_4 : decode cJ9_abs_0f7a4 4 = .ok (.iload_n 0, 1) := by decide +kernel
theorem dJ9_abs_0f7a4_5 : decode cJ9_abs_0f7a4 5 = .ok (.ineg, 1) := by decide +kernel
theorem dJ9_abs_0f7a4_6 : decode cJ9_abs_0f7a4 6 = .ok (.goto 4, 3) := by decide +kernel
theorem dJ9_abs_0f7a4_9 : decode cJ9_abs_0f7a4 9 = .ok (.iload_n 0, 1) := by decide +kernel
theorem dJ9_abs_0f7a4_10 : decode cJ9_abs_0f7a4 10 = .ok (.ireturn, 1) := by decide +kernel
theorem dJ9_max_7cf53_0 : decode cJ9_max_7cf53 0 = .ok (.iload_n 0, 1) := by decide +kernel
theorem dJ9_max_7cf53_1 : decode cJ9_max_7cf53 1 = .ok (.iload_n 1, 1) := by decide +kernel
theorem dJ9_max_7cf53_2 : decode cJ9_max_7cf53 2 = .ok (.if_icmp .lt 7, 3) := by decide +kernel
theorem dJ9_max_7cf53_5 : decode cJ9_max_7cf53 5 = .ok (.iload_n 0, 1) := by decide +kernel
theorem dJ9_max_7cf53_6 : decode cJ9_max_7cf53 6 = .ok (.goto 4, 3) := by decide +kernel
theorem dJ9_max_7cf53_9 : decode cJ9_max_7cf53 9 = .ok (.iload_n 1, 1) := by decide +kernel
theorem dJ9_max_7cf53_10 : decode cJ9_max_7cf53 10 = .ok (.ireturn, 1) := by decide +kernel
theorem dJ9_min_7cf53_0 : decode cJ9_min_7cf53 0 = .ok (.iload_n 0, 1) := by decide +kernel
theorem dJ9_min_7cf53_1 : decode cJ9_min_7cf53 1 = .ok (.iload_n 1, 1) := by decide +kernel
theorem dJ9_min_7cf53_2 : decode cJ9_min_7cf53 2 = .ok (.if_icmp .gt 7, 3) := by decide +kernel
theorem dJ9_min_7cf53_5 : decode cJ9_min_7cf53 5 = .ok (.iload_n 0, 1) := by decide +kernel
theorem dJ9_min_7cf53_6 : decode cJ9_min_7cf53 6 = .ok (.goto 4, 3) := by decide +kernel
theorem dJ9_min_7cf53_9 : decode cJ9_min_7cf53 9 = .ok (.iload_n 1, 1) := by decide +kernel
theorem dJ9_min_7cf53_10 : decode cJ9_min_7cf53 10 = .ok (.ireturn, 1) := by decide +kernel
theorem dJ0_length_8abf5_0 : decode cJ0_length_8abf5 0 = .ok (.aload_n 0, 1) := by decide +kernel
theorem dJ0_length_8abf5_1 : decode cJ0_length_8abf5 1 = .ok (.getfield 9, 3) := by decide +kernel
theorem dJ0_length_8abf5_4 : decode cJ0_length_8abf5 4 = .ok (.arraylength, 1) := by decide +kernel
theorem dJ0_length_8abf5_5 : decode cJ0_length_8abf5 5 = .ok (.aload_n 0, 1) := by decide +kernel
theorem dJ0_length_8abf5_6 : decode cJ0_length_8abf5 6 = .ok (.invokevirtual 335, 3) := by decide +kernel
theorem dJ0_length_8abf5_9 : decode cJ0_length_8abf5 9 = .ok (.ishr, 1) := by decide +kernel
theorem dJ0_length_8abf5_10 : decode cJ0_length_8abf5 10 = .ok (.ireturn, 1) := by decide +kernel
theorem dJ0_charAt_5068e_0 : decode cJ0_charAt_5068e 0 = .ok (.aload_n 0, 1) := by decide +kernel
theorem dJ0_charAt_5068e_1 : decode cJ0_charAt_5068e 1 = .ok (.invokevirtual 492, 3) := by decide +kernel
theorem dJ0_charAt_5068e_4 : decode cJ0_charAt_5068e 4 = .ok (.ifCond .eq 12, 3) := by decide +kernel
theorem dJ0_charAt_5068e_7 : decode cJ0_charAt_5068e 7 = .ok (.aload_n 0, 1) := by decide +kernel
theorem dJ0_charAt_5068e_8 : decode cJ0_charAt_5068e 8 = .ok (.getfield 9, 3) := by decide +kernel
theorem dJ0_charAt_5068e_11 : decode cJ0_charAt_5068e 11 = .ok (.iload_n 1, 1) := by decide +kernel
theorem dJ0_charAt_5068e_12 : decode cJ0_charAt_5068e 12 = .ok (.invokestatic 495, 3) := by decide +kernel
theorem dJ0_charAt_5068e_15 : decode cJ0_charAt_5068e 15 = .ok (.ireturn, 1) := by decide +kernel
theorem dJ0_charAt_5068e_16 : decode cJ0_charAt_5068e 16 = .ok (.aload_n 0, 1) := by decide +kernel
theorem dJ0_charAt_5068e_17 : decode cJ0_charAt_5068e 17 = .ok (.getfield 9, 3) := by decide +kernel
theorem dJ0_charAt_5068e_20 : decode cJ0_charAt_5068e 20 = .ok (.iload_n 1, 1) := by decide +kernel
theorem dJ0_charAt_5068e_21 : decode cJ0_charAt_5068e 21 = .ok (.invokestatic 498, 3) := by decide +kernel
theorem dJ0_charAt_5068e_24 : decode cJ0_charAt_5068e 24 = .ok (.ireturn, 1) := by decide +kernel
theorem dJ0_coder_7d493_0 : decode cJ0_coder_7d493 0 = .ok (.getstatic 38, 3) := by decide +kernel
theorem dJ0_coder_7d493_3 : decode cJ0_coder_7d493 3 = .ok (.ifCond .eq 10, 3) := by decide +kernel
theorem dJ0_coder_7d493_6 : decode cJ0_coder_7d493 6 = .ok (.aload_n 0, 1) := by decide +kernel
theorem dJ0_coder_7d493_7 : decode cJ0_coder_7d493 7 = .ok (.getfield 15, 3) := by decide +kernel
theorem dJ0_coder_7d493_10 : decode cJ0_coder_7d493 10 = .ok (.goto 4, 3) := by decide +kernel
theorem dJ0_coder_7d493_13 : decode cJ0_coder_7d493 13 = .ok (.iconst 1, 1) := by decide +kernel
theorem dJ0_coder_7d493_14 : decode cJ0_coder_7d493 14 = .ok (.ireturn, 1) := by decide +kernel
theorem dJ0_isLatin1_aae02_0 : decode cJ0_isLatin1_aae02 0 = .ok (.getstatic 38, 3) := by decide +kernel
theorem dJ0_isLatin1_aae02_3 : decode cJ0_isLatin1_aae02 3 = .ok (.ifCond .eq 14, 3) := by decide +kernel
theorem dJ0_isLatin1_aae02_6 : decode cJ0_isLatin1_aae02 6 = .ok (.aload_n 0, 1) := by decide +kernel
theorem dJ0_isLatin1_aae02_7 : decode cJ0_isLatin1_aae02 7 = .ok (.getfield 15, 3) := by decide +kernel
theorem dJ0_isLatin1_aae02_10 : decode cJ0_isLatin1_aae02 10 = .ok (.ifCond .ne 7, 3) := by decide +kernel
theorem dJ0_isLatin1_aae02_13 : decode cJ0_isLatin1_aae02 13 = .ok (.iconst 1, 1) := by decide +kernel
theorem dJ0_isLatin1_aae02_14 : decode cJ0_isLatin1_aae02 14 = .ok (.goto 4, 3) := by decide +kernel
theorem dJ0_isLatin1_aae02_17 : decode cJ0_isLatin1_aae02 17 = .ok (.iconst 0, 1) := by decide +kernel
theorem dJ0_isLatin1_aae02_18 : decode cJ0_isLatin1_aae02 18 = .ok (.ireturn, 1) := by decide +kernel
theorem dJ0_checkIndex_df160_0 : decode cJ0_checkIndex_df160 0 = .ok (.iload_n 0, 1) := by decide +kernel
theorem dJ0_checkIndex_df160_1 : decode cJ0_checkIndex_df160 1 = .ok (.iload_n 1, 1) := by decide +kernel
theorem dJ0_checkIndex_df160_2 : decode cJ0_checkIndex_df160 2 = .ok (.getstatic 1053, 3) := by decide +kernel
theorem dJ0_checkIndex_df160_5 : decode cJ0_checkIndex_df160 5 = .ok (.invokestatic 1059, 3) := by decide +kernel
theorem dJ0_checkIndex_df160_8 : decode cJ0_checkIndex_df160 8 = .ok (.pop, 1) := by decide +kernel
theorem dJ0_checkIndex_df160_9 : decode cJ0_checkIndex_df160 9 = .ok (.return_, 1) := by decide +kernel
theorem dJ1_charAt_3b067_0 : decode cJ1_charAt_3b067 0 = .ok (.iload_n 1, 1) := by decide +kernel
theorem dJ1_charAt_3b067_1 : decode cJ1_charAt_3b067 1 = .ok (.aload_n 0, 1) := by decide +kernel
theorem dJ1_charAt_3b067_2 : decode cJ1_charAt_3b067 2 = .ok (.arraylength, 1) := by decide +kernel
theorem dJ1_charAt_3b067_3 : decode cJ1_charAt_3b067 3 = .ok (.invokestatic 9, 3) := by decide +kernel
theorem dJ1_charAt_3b067_6 : decode cJ1_charAt_3b067 6 = .ok (.aload_n 0, 1) := by decide +kernel
theorem dJ1_charAt_3b067_7 : decode cJ1_charAt_3b067 7 = .ok (.iload_n 1, 1) := by decide +kernel
theorem dJ1_charAt_3b067_8 : decode cJ1_charAt_3b067 8 = .ok (.baload, 1) := by decide +kernel
theorem dJ1_charAt_3b067_9 : decode cJ1_charAt_3b067 9 = .ok (.sipush 255, 3) := by decide +kernel
theorem dJ1_charAt_3b067_12 : decode cJ1_charAt_3b067 12 = .ok (.iand, 1) := by decide +kernel
theorem dJ1_charAt_3b067_13 : decode cJ1_charAt_3b067 13 = .ok (.i2c, 1) := by decide +kernel
theorem dJ1_charAt_3b067_14 : decode cJ1_charAt_3b067 14 = .ok (.ireturn, 1) := by decide +kernel
theorem dJ2_getChar_3b067_0 : decode cJ2_getChar_3b067 0 = .ok (.getstatic 44, 3) := by decide +kernel
theorem dJ2_getChar_3b067_3 : decode cJ2_getChar_3b067 3 = .ok (.ifCond .ne 25, 3) := by decide +kernel
theorem dJ2_getChar_3b067_6 : decode cJ2_getChar_3b067 6 = .ok (.iload_n 1, 1) := by decide +kernel
theorem dJ2_getChar_3b067_7 : decode cJ2_getChar_3b067 7 = .ok (.ifCond .lt 11, 3) := by decide +kernel
theorem dJ2_getChar_3b067_10 : decode cJ2_getChar_3b067 10 = .ok (.iload_n 1, 1) := by decide +kernel
theorem dJ2_getChar_3b067_11 : decode cJ2_getChar_3b067 11 = .ok (.aload_n 0, 1) := by decide +kernel
theorem dJ2_getChar_3b067_12 : decode cJ2_getChar_3b067 12 = .ok (.invokestatic 48, 3) := by decide +kernel
theorem dJ2_getChar_3b067_15 : decode cJ2_getChar_3b067 15 = .ok (.if_icmp .lt 13, 3) := by decide +kernel
theorem dJ2_getChar_3b067_18 : decode cJ2_getChar_3b067 18 = .ok (.new 52, 3) := by decide +kernel
theorem dJ2_getChar_3b067_21 : decode cJ2_getChar_3b067 21 = .ok (.dup, 1) := by decide +kernel
theorem dJ2_getChar_3b067_22 : decode cJ2_getChar_3b067 22 = .ok (.ldc 54, 2) := by decide +kernel
theorem dJ2_getChar_3b067_24 : decode cJ2_getChar_3b067 24 = .ok (.invokespecial 56, 3) := by decide +kernel
theorem dJ2_getChar_3b067_27 : decode cJ2_getChar_3b067 27 = .ok (.athrow, 1) := by decide +kernel
theorem dJ2_getChar_3b067_28 : decode cJ2_getChar_3b067 28 = .ok (.iload_n 1, 1) := by decide +kernel
theorem dJ2_getChar_3b067_29 : decode cJ2_getChar_3b067 29 = .ok (.iconst 1, 1) := by decide +kernel
theorem dJ2_getChar_3b067_30 : decode cJ2_getChar_3b067 30 = .ok (.ishl, 1) := by decide +kernel
theorem dJ2_getChar_3b067_31 : decode cJ2_getChar_3b067 31 = .ok (.istore_n 1, 1) := by decide +kernel
theorem dJ2_getChar_3b067_32 : decode cJ2_getChar_3b067 32 = .ok (.aload_n 0, 1) := by decide +kernel
theorem dJ2_getChar_3b067_33 : decode cJ2_getChar_3b067 33 = .ok (.iload_n 1, 1) := by decide +kernel
theorem dJ2_getChar_3b067_34 : decode cJ2_getChar_3b067 34 = .ok (.iinc 1 1, 3) := by decide +kernel
theorem dJ2_getChar_3b067_37 : decode cJ2_getChar_3b067 37 = .ok (.baload, 1) := by decide +kernel
theorem dJ2_getChar_3b067_38 : decode cJ2_getChar_3b067 38 = .ok (.sipush 255, 3) := by decide +kernel
theorem dJ2_getChar_3b067_41 : decode cJ2_getChar_3b067 41 = .ok (.iand, 1) := by decide +kernel
theorem dJ2_getChar_3b067_42 : decode cJ2_getChar_3b067 42 = .ok (.getstatic 59, 3) := by decide +kernel
theorem dJ2_getChar_3b067_45 : decode cJ2_getChar_3b067 45 = .ok (.ishl, 1) := by decide +kernel
theorem dJ2_getChar_3b067_46 : decode cJ2_getChar_3b067 46 = .ok (.aload_n 0, 1) := by decide +kernel
theorem dJ2_getChar_3b067_47 : decode cJ2_getChar_3b067 47 = .ok (.iload_n 1, 1) := by decide +kernel
theorem dJ2_getChar_3b067_48 : decode cJ2_getChar_3b067 48 = .ok (.baload, 1) := by decide +kernel
theorem dJ2_getChar_3b067_49 : decode cJ2_getChar_3b067 49 = .ok (.sipush 255, 3) := by decide +kernel
theorem dJ2_getChar_3b067_52 : decode cJ2_getChar_3b067 52 = .ok (.iand, 1) := by decide +kernel
theorem dJ2_getChar_3b067_53 : decode cJ2_getChar_3b067 53 = .ok (.getstatic 63, 3) := by decide +kernel
theorem dJ2_getChar_3b067_56 : decode cJ2_getChar_3b067 56 = .ok (.ishl, 1) := by decide +kernel
theorem dJ2_getChar_3b067_57 : decode cJ2_getChar_3b067 57 = .ok (.ior, 1) := by decide +kernel
theorem dJ2_getChar_3b067_58 : decode cJ2_getChar_3b067 58 = .ok (.i2c, 1) := by decide +kernel
theorem dJ2_getChar_3b067_59 : decode cJ2_getChar_3b067 59 = .ok (.ireturn, 1) := by decide +kernel
theorem dJ2_length_9d52b_0 : decode cJ2_length_9d52b 0 = .ok (.aload_n 0, 1) := by decide +kernel
theorem dJ2_length_9d52b_1 : decode cJ2_length_9d52b 1 = .ok (.arraylength, 1) := by decide +kernel
theorem dJ2_length_9d52b_2 : decode cJ2_length_9d52b 2 = .ok (.iconst 1, 1) := by decide +kernel
theorem dJ2_length_9d52b_3 : decode cJ2_length_9d52b 3 = .ok (.ishr, 1) := by decide +kernel
theorem dJ2_length_9d52b_4 : decode cJ2_length_9d52b 4 = .ok (.ireturn, 1) := by decide +kernel
theorem dJ2_charAt_3b067_0 : decode cJ2_charAt_3b067 0 = .ok (.iload_n 1, 1) := by decide +kernel
theorem dJ2_charAt_3b067_1 : decode cJ2_charAt_3b067 1 = .ok (.aload_n 0, 1) := by decide +kernel
theorem dJ2_charAt_3b067_2 : decode cJ2_charAt_3b067 2 = .ok (.invokestatic 67, 3) := by decide +kernel
theorem dJ2_charAt_3b067_5 : decode cJ2_charAt_3b067 5 = .ok (.aload_n 0, 1) := by decide +kernel
theorem dJ2_charAt_3b067_6 : decode cJ2_charAt_3b067 6 = .ok (.iload_n 1, 1) := by decide +kernel
theorem dJ2_charAt_3b067_7 : decode cJ2_charAt_3b067 7 = .ok (.invokestatic 71, 3) := by decide +kernel
theorem dJ2_charAt_3b067_10 : decode cJ2_charAt_3b067 10 = .ok (.ireturn, 1) := by decide +kernel
theorem dJ2_checkIndex_2214a_0 : decode cJ2_checkIndex_2214a 0 = .ok (.iload_n 0, 1) := by decide +kernel
theorem dJ2_checkIndex_2214a_1 : decode cJ2_checkIndex_2214a 1 = .ok (.aload_n 1, 1) := by decide +kernel
theorem dJ2_checkIndex_2214a_2 : decode cJ2_checkIndex_2214a 2 = .ok (.invokestatic 48, 3) := by decide +kernel
theorem dJ2_checkIndex_2214a_5 : decode cJ2_checkIndex_2214a 5 = .ok (.invokestatic 414, 3) := by decide +kernel
theorem dJ2_checkIndex_2214a_8 : decode cJ2_checkIndex_2214a 8 = .ok (.return_, 1) := by decide +kernel
theorem dJ3_checkIndex_8e157_0 : decode cJ3_checkIndex_8e157 0 = .ok (.iload_n 0, 1) := by decide +kernel
theorem dJ3_checkIndex_8e157_1 : decode cJ3_checkIndex_8e157 1 = .ok (.ifCond .lt 8, 3) := by decide +kernel
theorem dJ3_checkIndex_8e157_4 : decode cJ3_checkIndex_8e157 4 = .ok (.iload_n 0, 1) := by decide +kernel
theorem dJ3_checkIndex_8e157_5 : decode cJ3_checkIndex_8e157 5 = .ok (.iload_n 1, 1) := by decide +kernel
theorem dJ3_checkIndex_8e157_6 : decode cJ3_checkIndex_8e157 6 = .ok (.if_icmp .lt 10, 3) := by decide +kernel
theorem dJ3_checkIndex_8e157_9 : decode cJ3_checkIndex_8e157 9 = .ok (.aload_n 2, 1) := by decide +kernel
theorem dJ3_checkIndex_8e157_10 : decode cJ3_checkIndex_8e157 10 = .ok (.iload_n 0, 1) := by decide +kernel
theorem dJ3_checkIndex_8e157_11 : decode cJ3_checkIndex_8e157 11 = .ok (.iload_n 1, 1) := by decide +kernel
theorem dJ3_checkIndex_8e157_12 : decode cJ3_checkIndex_8e157 12 = .ok (.invokestatic 95, 3) := by decide +kernel
theorem dJ3_checkIndex_8e157_15 : decode cJ3_checkIndex_8e157 15 = .ok (.athrow, 1) := by decide +kernel
theorem dJ3_checkIndex_8e157_16 : decode cJ3_checkIndex_8e157 16 = .ok (.iload_n 0, 1) := by decide +kernel
theorem dJ3_checkIndex_8e157_17 : decode cJ3_checkIndex_8e157 17 = .ok (.ireturn, 1) := by decide +kernel
end
section
theorem dX12_init_0 : decode cX12_init 0 = .ok (.aload_n 0, 1) := by decide +kernel
theorem dX12_init_1 : decode cX12_init 1 = .ok (.invokespecial 1, 3) := by decide +kernel
theorem dX12_init_4 : decode cX12_init 4 = .ok (.aload_n 0, 1) := by decide +kernel
theorem dX12_init_5 : decode cX12_init 5 = .ok (.bipush 8, 2) := by decide +kernel
theorem dX12_init_7 : decode cX12_init 7 = .ok (.newarray .int, 2) := by decide +kernel
theorem dX12_init_9 : decode cX12_init 9 = .ok (.dup, 1) := by decide +kernel
theorem dX12_init_10 : decode cX12_init 10 = .ok (.iconst 0, 1) := by decide +kernel
theorem dX12_init_11 : decode cX12_init 11 = .ok (.iconst 0, 1) := by decide +kernel
theorem dX12_init_12 : decode cX12_init 12 = .ok (.iastore, 1) := by decide +kernel
theorem dX12_init_13 : decode cX12_init 13 = .ok (.dup, 1) := by decide +kernel
theorem dX12_init_14 : decode cX12_init 14 = .ok (.iconst 1, 1) := by decide +kernel
theorem dX12_init_15 : decode cX12_init 15 = .ok (.iconst 0, 1) := by decide +kernel
theorem dX12_init_16 : decode cX12_init 16 = .ok (.iastore, 1) := by decide +kernel
theorem dX12_init_17 : decode cX12_init 17 = .ok (.dup, 1) := by decide +kernel
theorem dX12_init_18 : decode cX12_init 18 = .ok (.iconst 2, 1) := by decide +kernel
theorem dX12_init_19 : decode cX12_init 19 = .ok (.bipush 20, 2) := by decide +kernel
theorem dX12_init_21 : decode cX12_init 21 = .ok (.iastore, 1) := by decide +kernel
theorem dX12_init_22 : decode cX12_init 22 = .ok (.dup, 1) := by decide +kernel
theorem dX12_init_23 : decode cX12_init 23 = .ok (.iconst 3, 1) := by decide +kernel
theorem dX12_init_24 : decode cX12_init 24 = .ok (.iconst 0, 1) := by decide +kernel
theorem dX12_init_25 : decode cX12_init 25 = .ok (.iastore, 1) := by decide +kernel
theorem dX12_init_26 : decode cX12_init 26 = .ok (.dup, 1) := by decide +kernel
theorem dX12_init_27 : decode cX12_init 27 = .ok (.iconst 4, 1) := by decide +kernel
theorem dX12_init_28 : decode cX12_init 28 = .ok (.iconst 0, 1) := by decide +kernel
theorem dX12_init_29 : decode cX12_init 29 = .ok (.iastore, 1) := by decide +kernel
theorem dX12_init_30 : decode cX12_init 30 = .ok (.dup, 1) := by decide +kernel
theorem dX12_init_31 : decode cX12_init 31 = .ok (.iconst 5, 1) := by decide +kernel
theorem dX12_init_32 : decode cX12_init 32 = .ok (.iconst 0, 1) := by decide +kernel
theorem dX12_init_33 : decode cX12_init 33 = .ok (.iastore, 1) := by decide +kernel
theorem dX12_init_34 : decode cX12_init 34 = .ok (.dup, 1) := by decide +kernel
theorem dX12_init_35 : decode cX12_init 35 = .ok (.bipush 6, 2) := by decide +kernel
theorem dX12_init_37 : decode cX12_init 37 = .ok (.bipush 20, 2) := by decide +kernel
theorem dX12_init_39 : decode cX12_init 39 = .ok (.iastore, 1) := by decide +kernel
theorem dX12_init_40 : decode cX12_init 40 = .ok (.dup, 1) := by decide +kernel
theorem dX12_init_41 : decode cX12_init 41 = .ok (.bipush 7, 2) := by decide +kernel
theorem dX12_init_43 : decode cX12_init 43 = .ok (.iconst 0, 1) := by decide +kernel
theorem dX12_init_44 : decode cX12_init 44 = .ok (.iastore, 1) := by decide +kernel
theorem dX12_init_45 : decode cX12_init 45 = .ok (.putfield 7, 3) := by decide +kernel
theorem dX12_init_48 : decode cX12_init 48 = .ok (.aload_n 0, 1) := by decide +kernel
theorem dX12_init_49 : decode cX12_init 49 = .ok (.iconst 2, 1) := by decide +kernel
theorem dX12_init_50 : decode cX12_init 50 = .ok (.newarray .int, 2) := by decide +kernel
theorem dX12_init_52 : decode cX12_init 52 = .ok (.putfield 13, 3) := by decide +kernel
theorem dX12_init_55 : decode cX12_init 55 = .ok (.aload_n 0, 1) := by decide +kernel
theorem dX12_init_56 : decode cX12_init 56 = .ok (.iconst 2, 1) := by decide +kernel
theorem dX12_init_57 : decode cX12_init 57 = .ok (.newarray .int, 2) := by decide +kernel
theorem dX12_init_59 : decode cX12_init 59 = .ok (.putfield 16, 3) := by decide +kernel
theorem dX12_init_62 : decode cX12_init 62 = .ok (.aload_n 0, 1) := by decide +kernel
theorem dX12_init_63 : decode cX12_init 63 = .ok (.iconst 2, 1) := by decide +kernel
theorem dX12_init_64 : decode cX12_init 64 = .ok (.newarray .int, 2) := by decide +kernel
theorem dX12_init_66 : decode cX12_init 66 = .ok (.dup, 1) := by decide +kernel
theorem dX12_init_67 : decode cX12_init 67 = .ok (.iconst 0, 1) := by decide +kernel
theorem dX12_init_68 : decode cX12_init 68 = .ok (.iconst (-1), 1) := by decide +kernel
theorem dX12_init_69 : decode cX12_init 69 = .ok (.iastore, 1) := by decide +kernel
theorem dX12_init_70 : decode cX12_init 70 = .ok (.dup, 1) := by decide +kernel
theorem dX12_init_71 : decode cX12_init 71 = .ok (.iconst 1, 1) := by decide +kernel
theorem dX12_init_72 : decode cX12_init 72 = .ok (.iconst (-1), 1) := by decide +kernel
theorem dX12_init_73 : decode cX12_init 73 = .ok (.iastore, 1) := by decide +kernel
theorem dX12_init_74 : decode cX12_init 74 = .ok (.putfield 19, 3) := by decide +kernel
theorem dX12_init_77 : decode cX12_init 77 = .ok (.aload_n 0, 1) := by decide +kernel
theorem dX12_init_78 : decode cX12_init 78 = .ok (.bipush 24, 2) := by decide +kernel
theorem dX12_init_80 : decode cX12_init 80 = .ok (.newarray .int, 2) := by decide +kernel
theorem dX12_init_82 : decode cX12_init 82 = .ok (.putfield 22, 3) := by decide +kernel
theorem dX12_init_85 : decode cX12_init 85 = .ok (.aload_n 0, 1) := by decide +kernel
theorem dX12_init_86 : decode cX12_init 86 = .ok (.iconst 3, 1) := by decide +kernel
theorem dX12_init_87 : decode cX12_init 87 = .ok (.newarray .int, 2) := by decide +kernel
theorem dX12_init_89 : decode cX12_init 89 = .ok (.putfield 25, 3) := by decide +kernel
theorem dX12_init_92 : decode cX12_init 92 = .ok (.aload_n 0, 1) := by decide +kernel
theorem dX12_init_93 : decode cX12_init 93 = .ok (.iconst 3, 1) := by decide +kernel
theorem dX12_init_94 : decode cX12_init 94 = .ok (.newarray .int, 2) := by decide +kernel
theorem dX12_init_96 : decode cX12_init 96 = .ok (.dup, 1) := by decide +kernel
theorem dX12_init_97 : decode cX12_init 97 = .ok (.iconst 0, 1) := by decide +kernel
theorem dX12_init_98 : decode cX12_init 98 = .ok (.bipush 10, 2) := by decide +kernel
theorem dX12_init_100 : decode cX12_init 100 = .ok (.iastore, 1) := by decide +kernel
theorem dX12_init_101 : decode cX12_init 101 = .ok (.dup, 1) := by decide +kernel
theorem dX12_init_102 : decode cX12_init 102 = .ok (.iconst 1, 1) := by decide +kernel
theorem dX12_init_103 : decode cX12_init 103 = .ok (.bipush 10, 2) := by decide +kernel
theorem dX12_init_105 : decode cX12_init 105 = .ok (.iastore, 1) := by decide +kernel
theorem dX12_init_106 : decode cX12_init 106 = .ok (.dup, 1) := by decide +kernel
theorem dX12_init_107 : decode cX12_init 107 = .ok (.iconst 2, 1) := by decide +kernel
theorem dX12_init_108 : decode cX12_init 108 = .ok (.bipush 10, 2) := by decide +kernel
theorem dX12_init_110 : decode cX12_init 110 = .ok (.iastore, 1) := by decide +kernel
theorem dX12_init_111 : decode cX12_init 111 = .ok (.putfield 28, 3) := by decide +kernel
theorem dX12_init_114 : decode cX12_init 114 = .ok (.aload_n 0, 1) := by decide +kernel
theorem dX12_init_115 : decode cX12_init 115 = .ok (.iconst 3, 1) := by decide +kernel
theorem dX12_init_116 : decode cX12_init 116 = .ok (.newarray .int, 2) := by decide +kernel
theorem dX12_init_118 : decode cX12_init 118 = .ok (.dup, 1) := by decide +kernel
theorem dX12_init_119 : decode cX12_init 119 = .ok (.iconst 0, 1) := by decide +kernel
theorem dX12_init_120 : decode cX12_init 120 = .ok (.bipush 20, 2) := by decide +kernel
theorem dX12_init_122 : decode cX12_init 122 = .ok (.iastore, 1) := by decide +kernel
theorem dX12_init_123 : decode cX12_init 123 = .ok (.dup, 1) := by decide +kernel
theorem dX12_init_124 : decode cX12_init 124 = .ok (.iconst 1, 1) := by decide +kernel
theorem dX12_init_125 : decode cX12_init 125 = .ok (.bipush 20, 2) := by decide +kernel
theorem dX12_init_127 : decode cX12_init 127 = .ok (.iastore, 1) := by decide +kernel
theorem dX12_init_128 : decode cX12_init 128 = .ok (.dup, 1) := by decide +kernel
theorem dX12_init_129 : decode cX12_init 129 = .ok (.iconst 2, 1) := by decide +kernel
theorem dX12_init_130 : decode cX12_init 130 = .ok (.bipush 20, 2) := by decide +kernel
theorem dX12_init_132 : decode cX12_init 132 = .ok (.iastore, 1) := by decide +kernel
theorem dX12_init_133 : decode cX12_init 133 = .ok (.putfield 31, 3) := by decide +kernel
theorem dX12_init_136 : decode cX12_init 136 = .ok (.aload_n 0, 1) := by decide +kernel
theorem dX12_init_137 : decode cX12_init 137 = .ok (.iconst 3, 1) := by decide +kernel
theorem dX12_init_138 : decode cX12_init 138 = .ok (.newarray .int, 2) := by decide +kernel
theorem dX12_init_140 : decode cX12_init 140 = .ok (.putfield 34, 3) := by decide +kernel
theorem dX12_init_143 : decode cX12_init 143 = .ok (.aload_n 0, 1) := by decide +kernel
theorem dX12_init_144 : decode cX12_init 144 = .ok (.bipush 6, 2) := by decide +kernel
theorem dX12_init_146 : decode cX12_init 146 = .ok (.newarray .int, 2) := by decide +kernel
theorem dX12_init_148 : decode cX12_init 148 = .ok (.putfield 37, 3) := by decide +kernel
theorem dX12_init_151 : decode cX12_init 151 = .ok (.aload_n 0, 1) := by decide +kernel
theorem dX12_init_152 : decode cX12_init 152 = .ok (.bipush 6, 2) := by decide +kernel
theorem dX12_init_154 : decode cX12_init 154 = .ok (.newarray .int, 2) := by decide +kernel
theorem dX12_init_156 : decode cX12_init 156 = .ok (.putfield 40, 3) := by decide +kernel
theorem dX12_init_159 : decode cX12_init 159 = .ok (.aload_n 0, 1) := by decide +kernel
theorem dX12_init_160 : decode cX12_init 160 = .ok (.iconst 3, 1) := by decide +kernel
theorem dX12_init_161 : decode cX12_init 161 = .ok (.newarray .int, 2) := by decide +kernel
theorem dX12_init_163 : decode cX12_init 163 = .ok (.putfield 43, 3) := by decide +kernel
theorem dX12_init_166 : decode cX12_init 166 = .ok (.aload_n 0, 1) := by decide +kernel
theorem dX12_init_167 : decode cX12_init 167 = .ok (.iconst 3, 1) := by decide +kernel
theorem dX12_init_168 : decode cX12_init 168 = .ok (.newarray .int, 2) := by decide +kernel
theorem dX12_init_170 : decode cX12_init 170 = .ok (.putfield 46, 3) := by decide +kernel
theorem dX12_init_173 : decode cX12_init 173 = .ok (.aload_n 0, 1) := by decide +kernel
theorem dX12_init_174 : decode cX12_init 174 = .ok (.bipush 8, 2) := by decide +kernel
theorem dX12_init_176 : decode cX12_init 176 = .ok (.newarray .int, 2) := by decide +kernel
theorem dX12_init_178 : decode cX12_init 178 = .ok (.putfield 49, 3) := by decide +kernel
theorem dX12_init_181 : decode cX12_init 181 = .ok (.aload_n 0, 1) := by decide +kernel
theorem dX12_init_182 : decode cX12_init 182 = .ok (.sipush 160, 3) := by decide +kernel
theorem dX12_init_185 : decode cX12_init 185 = .ok (.newarray .int, 2) := by decide +kernel
theorem dX12_init_187 : decode cX12_init 187 = .ok (.putfield 52, 3) := by decide +kernel
theorem dX12_init_190 : decode cX12_init 190 = .ok (.aload_n 0, 1) := by decide +kernel
theorem dX12_init_191 : decode cX12_init 191 = .ok (.bipush 6, 2) := by decide +kernel
theorem dX12_init_193 : decode cX12_init 193 = .ok (.newarray .int, 2) := by decide +kernel
theorem dX12_init_195 : decode cX12_init 195 = .ok (.dup, 1) := by decide +kernel
theorem dX12_init_196 : decode cX12_init 196 = .ok (.iconst 0, 1) := by decide +kernel
theorem dX12_init_197 : decode cX12_init 197 = .ok (.iconst 0, 1) := by decide +kernel
theorem dX12_init_198 : decode cX12_init 198 = .ok (.iastore, 1) := by decide +kernel
theorem dX12_init_199 : decode cX12_init 199 = .ok (.dup, 1) := by decide +kernel
theorem dX12_init_200 : decode cX12_init 200 = .ok (.iconst 1, 1) := by decide +kernel
theorem dX12_init_201 : decode cX12_init 201 = .ok (.bipush 100, 2) := by decide +kernel
theorem dX12_init_203 : decode cX12_init 203 = .ok (.iastore, 1) := by decide +kernel
theorem dX12_init_204 : decode cX12_init 204 = .ok (.dup, 1) := by decide +kernel
theorem dX12_init_205 : decode cX12_init 205 = .ok (.iconst 2, 1) := by decide +kernel
theorem dX12_init_206 : decode cX12_init 206 = .ok (.iconst 0, 1) := by decide +kernel
theorem dX12_init_207 : decode cX12_init 207 = .ok (.iastore, 1) := by decide +kernel
theorem dX12_init_208 : decode cX12_init 208 = .ok (.dup, 1) := by decide +kernel
theorem dX12_init_209 : decode cX12_init 209 = .ok (.iconst 3, 1) := by decide +kernel
theorem dX12_init_210 : decode cX12_init 210 = .ok (.bipush 35, 2) := by decide +kernel
theorem dX12_init_212 : decode cX12_init 212 = .ok (.iastore, 1) := by decide +kernel
theorem dX12_init_213 : decode cX12_init 213 = .ok (.dup, 1) := by decide +kernel
theorem dX12_init_214 : decode cX12_init 214 = .ok (.iconst 4, 1) := by decide +kernel
theorem dX12_init_215 : decode cX12_init 215 = .ok (.iconst 1, 1) := by decide +kernel
theorem dX12_init_216 : decode cX12_init 216 = .ok (.iastore, 1) := by decide +kernel
theorem dX12_init_217 : decode cX12_init 217 = .ok (.dup, 1) := by decide +kernel
theorem dX12_init_218 : decode cX12_init 218 = .ok (.iconst 5, 1) := by decide +kernel
theorem dX12_init_219 : decode cX12_init 219 = .ok (.iconst 0, 1) := by decide +kernel
theorem dX12_init_220 : decode cX12_init 220 = .ok (.iastore, 1) := by decide +kernel
theorem dX12_init_221 : decode cX12_init 221 = .ok (.putfield 55, 3) := by decide +kernel
theorem dX12_init_224 : decode cX12_init 224 = .ok (.aload_n 0, 1) := by decide +kernel
theorem dX12_init_225 : decode cX12_init 225 = .ok (.bipush 6, 2) := by decide +kernel
theorem dX12_init_227 : decode cX12_init 227 = .ok (.newarray .int, 2) := by decide +kernel
theorem dX12_init_229 : decode cX12_init 229 = .ok (.putfield 58, 3) := by decide +kernel
theorem dX12_init_232 : decode cX12_init 232 = .ok (.aload_n 0, 1) := by decide +kernel
theorem dX12_init_233 : decode cX12_init 233 = .ok (.bipush 48, 2) := by decide +kernel
theorem dX12_init_235 : decode cX12_init 235 = .ok (.newarray .int, 2) := by decide +kernel
theorem dX12_init_237 : decode cX12_init 237 = .ok (.putfield 61, 3) := by decide +kernel
theorem dX12_init_240 : decode cX12_init 240 = .ok (.aload_n 0, 1) := by decide +kernel
theorem dX12_init_241 : decode cX12_init 241 = .ok (.bipush 24, 2) := by decide +kernel
theorem dX12_init_243 : decode cX12_init 243 = .ok (.newarray .int, 2) := by decide +kernel
theorem dX12_init_245 : decode cX12_init 245 = .ok (.putfield 64, 3) := by decide +kernel
theorem dX12_init_248 : decode cX12_init 248 = .ok (.aload_n 0, 1) := by decide +kernel
theorem dX12_init_249 : decode cX12_init 249 = .ok (.bipush 24, 2) := by decide +kernel
theorem dX12_init_251 : decode cX12_init 251 = .ok (.newarray .int, 2) := by decide +kernel
theorem dX12_init_253 : decode cX12_init 253 = .ok (.putfield 67, 3) := by decide +kernel
theorem dX12_init_256 : decode cX12_init 256 = .ok (.aload_n 0, 1) := by decide +kernel
theorem dX12_init_257 : decode cX12_init 257 = .ok (.bipush 10, 2) := by decide +kernel
theorem dX12_init_259 : decode cX12_init 259 = .ok (.newarray .int, 2) := by decide +kernel
theorem dX12_init_261 : decode cX12_init 261 = .ok (.putfield 70, 3) := by decide +kernel
theorem dX12_init_264 : decode cX12_init 264 = .ok (.aload_n 0, 1) := by decide +kernel
theorem dX12_init_265 : decode cX12_init 265 = .ok (.bipush 10, 2) := by decide +kernel
theorem dX12_init_267 : decode cX12_init 267 = .ok (.newarray .int, 2) := by decide +kernel
theorem dX12_init_269 : decode cX12_init 269 = .ok (.putfield 73, 3) := by decide +kernel
theorem dX12_init_272 : decode cX12_init 272 = .ok (.aload_n 0, 1) := by decide +kernel
theorem dX12_init_273 : decode cX12_init 273 = .ok (.sipush 601, 3) := by decide +kernel
theorem dX12_init_276 : decode cX12_init 276 = .ok (.newarray .int, 2) := by decide +kernel
theorem dX12_init_278 : decode cX12_init 278 = .ok (.putfield 76, 3) := by decide +kernel
theorem dX12_init_281 : decode cX12_init 281 = .ok (.aload_n 0, 1) := by decide +kernel
theorem dX12_init_282 : decode cX12_init 282 = .ok (.bipush 61, 2) := by decide +kernel
theorem dX12_init_284 : decode cX12_init 284 = .ok (.newarray .int, 2) := by decide +kernel
theorem dX12_init_286 : decode cX12_init 286 = .ok (.putfield 79, 3) := by decide +kernel
theorem dX12_init_289 : decode cX12_init 289 = .ok (.aload_n 0, 1) := by decide +kernel
theorem dX12_init_290 : decode cX12_init 290 = .ok (.bipush 61, 2) := by decide +kernel
theorem dX12_init_292 : decode cX12_init 292 = .ok (.newarray .int, 2) := by decide +kernel
theorem dX12_init_294 : decode cX12_init 294 = .ok (.putfield 82, 3) := by decide +kernel
theorem dX12_init_297 : decode cX12_init 297 = .ok (.return_, 1) := by decide +kernel
theorem dX12_in_0 : decode cX12_in 0 = .ok (.lload_n 0, 1) := by decide +kernel
theorem dX12_in_1 : decode cX12_in 1 = .ok (.lload_n 2, 1) := by decide +kernel
theorem dX12_in_2 : decode cX12_in 2 = .ok (.lcmp, 1) := by decide +kernel
theorem dX12_in_3 : decode cX12_in 3 = .ok (.ifCond .lt 14, 3) := by decide +kernel
theorem dX12_in_6 : decode cX12_in 6 = .ok (.lload_n 0, 1) := by decide +kernel
theorem dX12_in_7 : decode cX12_in 7 = .ok (.lload 4, 2) := by decide +kernel
theorem dX12_in_9 : decode cX12_in 9 = .ok (.lcmp, 1) := by decide +kernel
theorem dX12_in_10 : decode cX12_in 10 = .ok (.ifCond .gt 7, 3) := by decide +kernel
theorem dX12_in_13 : decode cX12_in 13 = .ok (.iconst 1, 1) := by decide +kernel
theorem dX12_in_14 : decode cX12_in 14 = .ok (.goto 4, 3) := by decide +kernel
theorem dX12_in_17 : decode cX12_in 17 = .ok (.iconst 0, 1) := by decide +kernel
theorem dX12_in_18 : decode cX12_in 18 = .ok (.ireturn, 1) := by decide +kernel
theorem dX12_isPointer_0 : decode cX12_isPointer 0 = .ok (.iload_n 0, 1) := by decide +kernel
theorem dX12_isPointer_1 : decode cX12_isPointer 1 = .ok (.i2l, 1) := by decide +kernel
theorem dX12_isPointer_2 : decode cX12_isPointer 2 = .ok (.lconst 0, 1) := by decide +kernel
theorem dX12_isPointer_3 : decode cX12_isPointer 3 = .ok (.ldc2_w 85, 3) := by decide +kernel
theorem dX12_isPointer_6 : decode cX12_isPointer 6 = .ok (.invokestatic 87, 3) := by decide +kernel
theorem dX12_isPointer_9 : decode cX12_isPointer 9 = .ok (.ireturn, 1) := by decide +kernel
theorem dX12_round_0 : decode cX12_round 0 = .ok (.iload_n 0, 1) := by decide +kernel
theorem dX12_round_1 : decode cX12_round 1 = .ok (.ldc 91, 2) := by decide +kernel
theorem dX12_round_3 : decode cX12_round 3 = .ok (.irem, 1) := by decide +kernel
theorem dX12_round_4 : decode cX12_round 4 = .ok (.istore_n 1, 1) := by decide +kernel
theorem dX12_round_5 : decode cX12_round 5 = .ok (.iload_n 1, 1) := by decide +kernel
theorem dX12_round_6 : decode cX12_round 6 = .ok (.ifCond .ge 10, 3) := by decide +kernel
theorem dX12_round_9 : decode cX12_round 9 = .ok (.iload_n 1, 1) := by decide +kernel
theorem dX12_round_10 : decode cX12_round 10 = .ok (.ldc 91, 2) := by decide +kernel
theorem dX12_round_12 : decode cX12_round 12 = .ok (.iadd, 1) := by decide +kernel
theorem dX12_round_13 : decode cX12_round 13 = .ok (.goto 4, 3) := by decide +kernel
theorem dX12_round_16 : decode cX12_round 16 = .ok (.iload_n 1, 1) := by decide +kernel
theorem dX12_round_17 : decode cX12_round 17 = .ok (.ireturn, 1) := by decide +kernel
theorem dX12_wrapped_0 : decode cX12_wrapped 0 = .ok (.iload_n 0, 1) := by decide +kernel
theorem dX12_wrapped_1 : decode cX12_wrapped 1 = .ok (.invokestatic 92, 3) := by decide +kernel
theorem dX12_wrapped_4 : decode cX12_wrapped 4 = .ok (.istore_n 1, 1) := by decide +kernel
theorem dX12_wrapped_5 : decode cX12_wrapped 5 = .ok (.iload_n 1, 1) := by decide +kernel
theorem dX12_wrapped_6 : decode cX12_wrapped 6 = .ok (.sipush 18000, 3) := by decide +kernel
theorem dX12_wrapped_9 : decode cX12_wrapped 9 = .ok (.if_icmp .lt 10, 3) := by decide +kernel
theorem dX12_wrapped_12 : decode cX12_wrapped 12 = .ok (.iload_n 1, 1) := by decide +kernel
theorem dX12_wrapped_13 : decode cX12_wrapped 13 = .ok (.ldc 91, 2) := by decide +kernel
theorem dX12_wrapped_15 : decode cX12_wrapped 15 = .ok (.isub, 1) := by decide +kernel
theorem dX12_wrapped_16 : decode cX12_wrapped 16 = .ok (.goto 4, 3) := by decide +kernel
theorem dX12_wrapped_19 : decode cX12_wrapped 19 = .ok (.iload_n 1, 1) := by decide +kernel
theorem dX12_wrapped_20 : decode cX12_wrapped 20 = .ok (.ireturn, 1) := by decide +kernel
theorem dX12_size_0 : decode cX12_size 0 = .ok (.iload_n 0, 1) := by decide +kernel
theorem dX12_size_1 : decode cX12_size 1 = .ok (.ifCond .ge 8, 3) := by decide +kernel
theorem dX12_size_4 : decode cX12_size 4 = .ok (.iload_n 0, 1) := by decide +kernel
theorem dX12_size_5 : decode cX12_size 5 = .ok (.ineg, 1) := by decide +kernel
theorem dX12_size_6 : decode cX12_size 6 = .ok (.goto 4, 3) := by decide +kernel
theorem dX12_size_9 : decode cX12_size 9 = .ok (.iload_n 0, 1) := by decide +kernel
theorem dX12_size_10 : decode cX12_size 10 = .ok (.ireturn, 1) := by decide +kernel
theorem dX12_held_0 : decode cX12_held 0 = .ok (.iload_n 0, 1) := by decide +kernel
theorem dX12_held_1 : decode cX12_held 1 = .ok (.iload_n 1, 1) := by decide +kernel
theorem dX12_held_2 : decode cX12_held 2 = .ok (.ineg, 1) := by decide +kernel
theorem dX12_held_3 : decode cX12_held 3 = .ok (.if_icmp .ge 8, 3) := by decide +kernel
theorem dX12_held_6 : decode cX12_held 6 = .ok (.iload_n 1, 1) := by decide +kernel
theorem dX12_held_7 : decode cX12_held 7 = .ok (.ineg, 1) := by decide +kernel
theorem dX12_held_8 : decode cX12_held 8 = .ok (.goto 13, 3) := by decide +kernel
theorem dX12_held_11 : decode cX12_held 11 = .ok (.iload_n 0, 1) := by decide +kernel
theorem dX12_held_12 : decode cX12_held 12 = .ok (.iload_n 1, 1) := by decide +kernel
theorem dX12_held_13 : decode cX12_held 13 = .ok (.if_icmp .le 7, 3) := by decide +kernel
theorem dX12_held_16 : decode cX12_held 16 = .ok (.iload_n 1, 1) := by decide +kernel
theorem dX12_held_17 : decode cX12_held 17 = .ok (.goto 4, 3) := by decide +kernel
theorem dX12_held_20 : decode cX12_held 20 = .ok (.iload_n 0, 1) := by decide +kernel
theorem dX12_held_21 : decode cX12_held 21 = .ok (.ireturn, 1) := by decide +kernel
theorem dX12_holdOf_0 : decode cX12_holdOf 0 = .ok (.bipush 90, 2) := by decide +kernel
theorem dX12_holdOf_2 : decode cX12_holdOf 2 = .ok (.iload_n 0, 1) := by decide +kernel
theorem dX12_holdOf_3 : decode cX12_holdOf 3 = .ok (.invokestatic 96, 3) := by decide +kernel
theorem dX12_holdOf_6 : decode cX12_holdOf 6 = .ok (.isub, 1) := by decide +kernel
theorem dX12_holdOf_7 : decode cX12_holdOf 7 = .ok (.ireturn, 1) := by decide +kernel
theorem dX12_set_0 : decode cX12_set 0 = .ok (.iload_n 1, 1) := by decide +kernel
theorem dX12_set_1 : decode cX12_set 1 = .ok (.i2l, 1) := by decide +kernel
theorem dX12_set_2 : decode cX12_set 2 = .ok (.lconst 0, 1) := by decide +kernel
theorem dX12_set_3 : decode cX12_set 3 = .ok (.ldc2_w 99, 3) := by decide +kernel
theorem dX12_set_6 : decode cX12_set 6 = .ok (.invokestatic 87, 3) := by decide +kernel
theorem dX12_set_9 : decode cX12_set 9 = .ok (.ifCond .eq 68, 3) := by decide +kernel
theorem dX12_set_12 : decode cX12_set 12 = .ok (.iload_n 2, 1) := by decide +kernel
theorem dX12_set_13 : decode cX12_set 13 = .ok (.i2l, 1) := by decide +kernel
theorem dX12_set_14 : decode cX12_set 14 = .ok (.iload_n 1, 1) := by decide +kernel
theorem dX12_set_15 : decode cX12_set 15 = .ok (.ifCond .ne 9, 3) := by decide +kernel
theorem dX12_set_18 : decode cX12_set 18 = .ok (.ldc2_w 101, 3) := by decide +kernel
theorem dX12_set_21 : decode cX12_set 21 = .ok (.goto 15, 3) := by decide +kernel
theorem dX12_set_24 : decode cX12_set 24 = .ok (.iload_n 1, 1) := by decide +kernel
theorem dX12_set_25 : decode cX12_set 25 = .ok (.iconst 3, 1) := by decide +kernel
theorem dX12_set_26 : decode cX12_set 26 = .ok (.if_icmp .ne 9, 3) := by decide +kernel
theorem dX12_set_29 : decode cX12_set 29 = .ok (.ldc2_w 103, 3) := by decide +kernel
theorem dX12_set_32 : decode cX12_set 32 = .ok (.goto 4, 3) := by decide +kernel
theorem dX12_set_35 : decode cX12_set 35 = .ok (.lconst 0, 1) := by decide +kernel
theorem dX12_set_36 : decode cX12_set 36 = .ok (.iload_n 1, 1) := by decide +kernel
theorem dX12_set_37 : decode cX12_set 37 = .ok (.ifCond .ne 9, 3) := by decide +kernel
theorem dX12_set_40 : decode cX12_set 40 = .ok (.ldc2_w 105, 3) := by decide +kernel
theorem dX12_set_43 : decode cX12_set 43 = .ok (.goto 28, 3) := by decide +kernel
theorem dX12_set_46 : decode cX12_set 46 = .ok (.iload_n 1, 1) := by decide +kernel
theorem dX12_set_47 : decode cX12_set 47 = .ok (.iconst 1, 1) := by decide +kernel
theorem dX12_set_48 : decode cX12_set 48 = .ok (.if_icmp .ne 9, 3) := by decide +kernel
theorem dX12_set_51 : decode cX12_set 51 = .ok (.ldc2_w 107, 3) := by decide +kernel
theorem dX12_set_54 : decode cX12_set 54 = .ok (.goto 17, 3) := by decide +kernel
theorem dX12_set_57 : decode cX12_set 57 = .ok (.iload_n 1, 1) := by decide +kernel
theorem dX12_set_58 : decode cX12_set 58 = .ok (.iconst 2, 1) := by decide +kernel
theorem dX12_set_59 : decode cX12_set 59 = .ok (.if_icmp .ne 9, 3) := by decide +kernel
theorem dX12_set_62 : decode cX12_set 62 = .ok (.ldc2_w 109, 3) := by decide +kernel
theorem dX12_set_65 : decode cX12_set 65 = .ok (.goto 6, 3) := by decide +kernel
theorem dX12_set_68 : decode cX12_set 68 = .ok (.ldc2_w 111, 3) := by decide +kernel
theorem dX12_set_71 : decode cX12_set 71 = .ok (.invokestatic 87, 3) := by decide +kernel
theorem dX12_set_74 : decode cX12_set 74 = .ok (.ifCond .ne 6, 3) := by decide +kernel
theorem dX12_set_77 : decode cX12_set 77 = .ok (.bipush (-3), 2) := by decide +kernel
theorem dX12_set_79 : decode cX12_set 79 = .ok (.ireturn, 1) := by decide +kernel
theorem dX12_set_80 : decode cX12_set 80 = .ok (.aload_n 0, 1) := by decide +kernel
theorem dX12_set_81 : decode cX12_set 81 = .ok (.getfield 7, 3) := by decide +kernel
theorem dX12_set_84 : decode cX12_set 84 = .ok (.iload_n 1, 1) := by decide +kernel
theorem dX12_set_85 : decode cX12_set 85 = .ok (.iaload, 1) := by decide +kernel
theorem dX12_set_86 : decode cX12_set 86 = .ok (.istore_n 3, 1) := by decide +kernel
theorem dX12_set_87 : decode cX12_set 87 = .ok (.aload_n 0, 1) := by decide +kernel
theorem dX12_set_88 : decode cX12_set 88 = .ok (.getfield 7, 3) := by decide +kernel
theorem dX12_set_91 : decode cX12_set 91 = .ok (.iload_n 1, 1) := by decide +kernel
theorem dX12_set_92 : decode cX12_set 92 = .ok (.iload_n 2, 1) := by decide +kernel
theorem dX12_set_93 : decode cX12_set 93 = .ok (.iastore, 1) := by decide +kernel
theorem dX12_set_94 : decode cX12_set 94 = .ok (.iload_n 3, 1) := by decide +kernel
theorem dX12_set_95 : decode cX12_set 95 = .ok (.bipush 100, 2) := by decide +kernel
theorem dX12_set_97 : decode cX12_set 97 = .ok (.iadd, 1) := by decide +kernel
theorem dX12_set_98 : decode cX12_set 98 = .ok (.ireturn, 1) := by decide +kernel
theorem dX12_isHeading_0 : decode cX12_isHeading 0 = .ok (.iload_n 0, 1) := by decide +kernel
theorem dX12_isHeading_1 : decode cX12_isHeading 1 = .ok (.i2l, 1) := by decide +kernel
theorem dX12_isHeading_2 : decode cX12_isHeading 2 = .ok (.lconst 0, 1) := by decide +kernel
theorem dX12_isHeading_3 : decode cX12_isHeading 3 = .ok (.ldc2_w 113, 3) := by decide +kernel
theorem dX12_isHeading_6 : decode cX12_isHeading 6 = .ok (.invokestatic 87, 3) := by decide +kernel
theorem dX12_isHeading_9 : decode cX12_isHeading 9 = .ok (.ireturn, 1) := by decide +kernel
theorem dX12_head_0 : decode cX12_head 0 = .ok (.iload_n 1, 1) := by decide +kernel
theorem dX12_head_1 : decode cX12_head 1 = .ok (.invokestatic 115, 3) := by decide +kernel
theorem dX12_head_4 : decode cX12_head 4 = .ok (.ifCond .ne 6, 3) := by decide +kernel
theorem dX12_head_7 : decode cX12_head 7 = .ok (.bipush (-3), 2) := by decide +kernel
theorem dX12_head_9 : decode cX12_head 9 = .ok (.ireturn, 1) := by decide +kernel
theorem dX12_head_10 : decode cX12_head 10 = .ok (.aload_n 0, 1) := by decide +kernel
theorem dX12_head_11 : decode cX12_head 11 = .ok (.getfield 13, 3) := by decide +kernel
theorem dX12_head_14 : decode cX12_head 14 = .ok (.iconst 0, 1) := by decide +kernel
theorem dX12_head_15 : decode cX12_head 15 = .ok (.iaload, 1) := by decide +kernel
theorem dX12_head_16 : decode cX12_head 16 = .ok (.istore_n 2, 1) := by decide +kernel
theorem dX12_head_17 : decode cX12_head 17 = .ok (.aload_n 0, 1) := by decide +kernel
theorem dX12_head_18 : decode cX12_head 18 = .ok (.getfield 13, 3) := by decide +kernel
theorem dX12_head_21 : decode cX12_head 21 = .ok (.iconst 0, 1) := by decide +kernel
theorem dX12_head_22 : decode cX12_head 22 = .ok (.iload_n 1, 1) := by decide +kernel
theorem dX12_head_23 : decode cX12_head 23 = .ok (.iastore, 1) := by decide +kernel
theorem dX12_head_24 : decode cX12_head 24 = .ok (.iload_n 2, 1) := by decide +kernel
theorem dX12_head_25 : decode cX12_head 25 = .ok (.ireturn, 1) := by decide +kernel
theorem dX12_sea_0 : decode cX12_sea 0 = .ok (.iload_n 1, 1) := by decide +kernel
theorem dX12_sea_1 : decode cX12_sea 1 = .ok (.i2l, 1) := by decide +kernel
theorem dX12_sea_2 : decode cX12_sea 2 = .ok (.ldc2_w 119, 3) := by decide +kernel
theorem dX12_sea_5 : decode cX12_sea 5 = .ok (.ldc2_w 121, 3) := by decide +kernel
theorem dX12_sea_8 : decode cX12_sea 8 = .ok (.invokestatic 87, 3) := by decide +kernel
theorem dX12_sea_11 : decode cX12_sea 11 = .ok (.ifCond .ne 6, 3) := by decide +kernel
theorem dX12_sea_14 : decode cX12_sea 14 = .ok (.bipush (-3), 2) := by decide +kernel
theorem dX12_sea_16 : decode cX12_sea 16 = .ok (.ireturn, 1) := by decide +kernel
theorem dX12_sea_17 : decode cX12_sea 17 = .ok (.aload_n 0, 1) := by decide +kernel
theorem dX12_sea_18 : decode cX12_sea 18 = .ok (.getfield 123, 3) := by decide +kernel
theorem dX12_sea_21 : decode cX12_sea 21 = .ok (.bipush 24, 2) := by decide +kernel
theorem dX12_sea_23 : decode cX12_sea 23 = .ok (.if_icmp .ne 6, 3) := by decide +kernel
theorem dX12_sea_26 : decode cX12_sea 26 = .ok (.bipush (-5), 2) := by decide +kernel
theorem dX12_sea_28 : decode cX12_sea 28 = .ok (.ireturn, 1) := by decide +kernel
theorem dX12_sea_29 : decode cX12_sea 29 = .ok (.aload_n 0, 1) := by decide +kernel
theorem dX12_sea_30 : decode cX12_sea 30 = .ok (.getfield 22, 3) := by decide +kernel
theorem dX12_sea_33 : decode cX12_sea 33 = .ok (.aload_n 0, 1) := by decide +kernel
theorem dX12_sea_34 : decode cX12_sea 34 = .ok (.getfield 123, 3) := by decide +kernel
theorem dX12_sea_37 : decode cX12_sea 37 = .ok (.iload_n 1, 1) := by decide +kernel
theorem dX12_sea_38 : decode cX12_sea 38 = .ok (.iastore, 1) := by decide +kernel
theorem dX12_sea_39 : decode cX12_sea 39 = .ok (.aload_n 0, 1) := by decide +kernel
theorem dX12_sea_40 : decode cX12_sea 40 = .ok (.dup, 1) := by decide +kernel
theorem dX12_sea_41 : decode cX12_sea 41 = .ok (.getfield 123, 3) := by decide +kernel
theorem dX12_sea_44 : decode cX12_sea 44 = .ok (.iconst 1, 1) := by decide +kernel
theorem dX12_sea_45 : decode cX12_sea 45 = .ok (.iadd, 1) := by decide +kernel
theorem dX12_sea_46 : decode cX12_sea 46 = .ok (.putfield 123, 3) := by decide +kernel
theorem dX12_sea_49 : decode cX12_sea 49 = .ok (.aload_n 0, 1) := by decide +kernel
theorem dX12_sea_50 : decode cX12_sea 50 = .ok (.getfield 123, 3) := by decide +kernel
theorem dX12_sea_53 : decode cX12_sea 53 = .ok (.ireturn, 1) := by decide +kernel
theorem dX12_calm_0 : decode cX12_calm 0 = .ok (.aload_n 0, 1) := by decide +kernel
theorem dX12_calm_1 : decode cX12_calm 1 = .ok (.getfield 123, 3) := by decide +kernel
theorem dX12_calm_4 : decode cX12_calm 4 = .ok (.istore_n 1, 1) := by decide +kernel
theorem dX12_calm_5 : decode cX12_calm 5 = .ok (.aload_n 0, 1) := by decide +kernel
theorem dX12_calm_6 : decode cX12_calm 6 = .ok (.iconst 0, 1) := by decide +kernel
theorem dX12_calm_7 : decode cX12_calm 7 = .ok (.putfield 123, 3) := by decide +kernel
theorem dX12_calm_10 : decode cX12_calm 10 = .ok (.iload_n 1, 1) := by decide +kernel
theorem dX12_calm_11 : decode cX12_calm 11 = .ok (.ireturn, 1) := by decide +kernel
theorem dX12_kind_0 : decode cX12_kind 0 = .ok (.iload_n 1, 1) := by decide +kernel
theorem dX12_kind_1 : decode cX12_kind 1 = .ok (.invokestatic 127, 3) := by decide +kernel
theorem dX12_kind_4 : decode cX12_kind 4 = .ok (.ifCond .ne 6, 3) := by decide +kernel
theorem dX12_kind_7 : decode cX12_kind 7 = .ok (.bipush (-2), 2) := by decide +kernel
theorem dX12_kind_9 : decode cX12_kind 9 = .ok (.ireturn, 1) := by decide +kernel
theorem dX12_kind_10 : decode cX12_kind 10 = .ok (.iload_n 2, 1) := by decide +kernel
theorem dX12_kind_11 : decode cX12_kind 11 = .ok (.i2l, 1) := by decide +kernel
theorem dX12_kind_12 : decode cX12_kind 12 = .ok (.lconst 0, 1) := by decide +kernel
theorem dX12_kind_13 : decode cX12_kind 13 = .ok (.ldc2_w 130, 3) := by decide +kernel
theorem dX12_kind_16 : decode cX12_kind 16 = .ok (.invokestatic 87, 3) := by decide +kernel
theorem dX12_kind_19 : decode cX12_kind 19 = .ok (.ifCond .ne 6, 3) := by decide +kernel
theorem dX12_kind_22 : decode cX12_kind 22 = .ok (.bipush (-3), 2) := by decide +kernel
theorem dX12_kind_24 : decode cX12_kind 24 = .ok (.ireturn, 1) := by decide +kernel
theorem dX12_kind_25 : decode cX12_kind 25 = .ok (.aload_n 0, 1) := by decide +kernel
theorem dX12_kind_26 : decode cX12_kind 26 = .ok (.getfield 25, 3) := by decide +kernel
theorem dX12_kind_29 : decode cX12_kind 29 = .ok (.iload_n 1, 1) := by decide +kernel
theorem dX12_kind_30 : decode cX12_kind 30 = .ok (.iaload, 1) := by decide +kernel
theorem dX12_kind_31 : decode cX12_kind 31 = .ok (.istore_n 3, 1) := by decide +kernel
theorem dX12_kind_32 : decode cX12_kind 32 = .ok (.aload_n 0, 1) := by decide +kernel
theorem dX12_kind_33 : decode cX12_kind 33 = .ok (.getfield 25, 3) := by decide +kernel
theorem dX12_kind_36 : decode cX12_kind 36 = .ok (.iload_n 1, 1) := by decide +kernel
theorem dX12_kind_37 : decode cX12_kind 37 = .ok (.iload_n 2, 1) := by decide +kernel
theorem dX12_kind_38 : decode cX12_kind 38 = .ok (.iastore, 1) := by decide +kernel
theorem dX12_kind_39 : decode cX12_kind 39 = .ok (.aload_n 0, 1) := by decide +kernel
theorem dX12_kind_40 : decode cX12_kind 40 = .ok (.getfield 37, 3) := by decide +kernel
theorem dX12_kind_43 : decode cX12_kind 43 = .ok (.iload_n 1, 1) := by decide +kernel
theorem dX12_kind_44 : decode cX12_kind 44 = .ok (.iconst 0, 1) := by decide +kernel
theorem dX12_kind_45 : decode cX12_kind 45 = .ok (.iastore, 1) := by decide +kernel
theorem dX12_kind_46 : decode cX12_kind 46 = .ok (.aload_n 0, 1) := by decide +kernel
theorem dX12_kind_47 : decode cX12_kind 47 = .ok (.getfield 40, 3) := by decide +kernel
theorem dX12_kind_50 : decode cX12_kind 50 = .ok (.iload_n 1, 1) := by decide +kernel
theorem dX12_kind_51 : decode cX12_kind 51 = .ok (.iconst 0, 1) := by decide +kernel
theorem dX12_kind_52 : decode cX12_kind 52 = .ok (.iastore, 1) := by decide +kernel
theorem dX12_kind_53 : decode cX12_kind 53 = .ok (.iload_n 3, 1) := by decide +kernel
theorem dX12_kind_54 : decode cX12_kind 54 = .ok (.ireturn, 1) := by decide +kernel
theorem dX12_tune_0 : decode cX12_tune 0 = .ok (.iload_n 1, 1) := by decide +kernel
theorem dX12_tune_1 : decode cX12_tune 1 = .ok (.invokestatic 127, 3) := by decide +kernel
theorem dX12_tune_4 : decode cX12_tune 4 = .ok (.ifCond .ne 6, 3) := by decide +kernel
theorem dX12_tune_7 : decode cX12_tune 7 = .ok (.bipush (-2), 2) := by decide +kernel
theorem dX12_tune_9 : decode cX12_tune 9 = .ok (.ireturn, 1) := by decide +kernel
theorem dX12_tune_10 : decode cX12_tune 10 = .ok (.iload_n 2, 1) := by decide +kernel
theorem dX12_tune_11 : decode cX12_tune 11 = .ok (.i2l, 1) := by decide +kernel
theorem dX12_tune_12 : decode cX12_tune 12 = .ok (.lconst 0, 1) := by decide +kernel
theorem dX12_tune_13 : decode cX12_tune 13 = .ok (.ldc2_w 85, 3) := by decide +kernel
theorem dX12_tune_16 : decode cX12_tune 16 = .ok (.invokestatic 87, 3) := by decide +kernel
theorem dX12_tune_19 : decode cX12_tune 19 = .ok (.ifCond .eq 15, 3) := by decide +kernel
theorem dX12_tune_22 : decode cX12_tune 22 = .ok (.iload_n 3, 1) := by decide +kernel
theorem dX12_tune_23 : decode cX12_tune 23 = .ok (.i2l, 1) := by decide +kernel
theorem dX12_tune_24 : decode cX12_tune 24 = .ok (.lconst 0, 1) := by decide +kernel
theorem dX12_tune_25 : decode cX12_tune 25 = .ok (.ldc2_w 109, 3) := by decide +kernel
theorem dX12_tune_28 : decode cX12_tune 28 = .ok (.invokestatic 87, 3) := by decide +kernel
theorem dX12_tune_31 : decode cX12_tune 31 = .ok (.ifCond .ne 6, 3) := by decide +kernel
theorem dX12_tune_34 : decode cX12_tune 34 = .ok (.bipush (-3), 2) := by decide +kernel
theorem dX12_tune_36 : decode cX12_tune 36 = .ok (.ireturn, 1) := by decide +kernel
theorem dX12_tune_37 : decode cX12_tune 37 = .ok (.iload_n 2, 1) := by decide +kernel
theorem dX12_tune_38 : decode cX12_tune 38 = .ok (.ifCond .ne 12, 3) := by decide +kernel
theorem dX12_tune_41 : decode cX12_tune 41 = .ok (.aload_n 0, 1) := by decide +kernel
theorem dX12_tune_42 : decode cX12_tune 42 = .ok (.getfield 28, 3) := by decide +kernel
theorem dX12_tune_45 : decode cX12_tune 45 = .ok (.iload_n 1, 1) := by decide +kernel
theorem dX12_tune_46 : decode cX12_tune 46 = .ok (.iaload, 1) := by decide +kernel
theorem dX12_tune_47 : decode cX12_tune 47 = .ok (.goto 23, 3) := by decide +kernel
theorem dX12_tune_50 : decode cX12_tune 50 = .ok (.iload_n 2, 1) := by decide +kernel
theorem dX12_tune_51 : decode cX12_tune 51 = .ok (.iconst 1, 1) := by decide +kernel
theorem dX12_tune_52 : decode cX12_tune 52 = .ok (.if_icmp .ne 12, 3) := by decide +kernel
theorem dX12_tune_55 : decode cX12_tune 55 = .ok (.aload_n 0, 1) := by decide +kernel
theorem dX12_tune_56 : decode cX12_tune 56 = .ok (.getfield 31, 3) := by decide +kernel
theorem dX12_tune_59 : decode cX12_tune 59 = .ok (.iload_n 1, 1) := by decide +kernel
theorem dX12_tune_60 : decode cX12_tune 60 = .ok (.iaload, 1) := by decide +kernel
theorem dX12_tune_61 : decode cX12_tune 61 = .ok (.goto 9, 3) := by decide +kernel
theorem dX12_tune_64 : decode cX12_tune 64 = .ok (.aload_n 0, 1) := by decide +kernel
theorem dX12_tune_65 : decode cX12_tune 65 = .ok (.getfield 34, 3) := by decide +kernel
theorem dX12_tune_68 : decode cX12_tune 68 = .ok (.iload_n 1, 1) := by decide +kernel
theorem dX12_tune_69 : decode cX12_tune 69 = .ok (.iaload, 1) := by decide +kernel
theorem dX12_tune_70 : decode cX12_tune 70 = .ok (.istore 4, 2) := by decide +kernel
theorem dX12_tune_72 : decode cX12_tune 72 = .ok (.aload_n 0, 1) := by decide +kernel
theorem dX12_tune_73 : decode cX12_tune 73 = .ok (.getfield 28, 3) := by decide +kernel
theorem dX12_tune_76 : decode cX12_tune 76 = .ok (.iload_n 1, 1) := by decide +kernel
theorem dX12_tune_77 : decode cX12_tune 77 = .ok (.iload_n 2, 1) := by decide +kernel
theorem dX12_tune_78 : decode cX12_tune 78 = .ok (.ifCond .ne 7, 3) := by decide +kernel
theorem dX12_tune_81 : decode cX12_tune 81 = .ok (.iload_n 3, 1) := by decide +kernel
theorem dX12_tune_82 : decode cX12_tune 82 = .ok (.goto 9, 3) := by decide +kernel
theorem dX12_tune_85 : decode cX12_tune 85 = .ok (.aload_n 0, 1) := by decide +kernel
theorem dX12_tune_86 : decode cX12_tune 86 = .ok (.getfield 28, 3) := by decide +kernel
theorem dX12_tune_89 : decode cX12_tune 89 = .ok (.iload_n 1, 1) := by decide +kernel
theorem dX12_tune_90 : decode cX12_tune 90 = .ok (.iaload, 1) := by decide +kernel
theorem dX12_tune_91 : decode cX12_tune 91 = .ok (.iastore, 1) := by decide +kernel
theorem dX12_tune_92 : decode cX12_tune 92 = .ok (.aload_n 0, 1) := by decide +kernel
theorem dX12_tune_93 : decode cX12_tune 93 = .ok (.getfield 31, 3) := by decide +kernel
theorem dX12_tune_96 : decode cX12_tune 96 = .ok (.iload_n 1, 1) := by decide +kernel
theorem dX12_tune_97 : decode cX12_tune 97 = .ok (.iload_n 2, 1) := by decide +kernel
theorem dX12_tune_98 : decode cX12_tune 98 = .ok (.iconst 1, 1) := by decide +kernel
theorem dX12_tune_99 : decode cX12_tune 99 = .ok (.if_icmp .ne 7, 3) := by decide +kernel
theorem dX12_tune_102 : decode cX12_tune 102 = .ok (.iload_n 3, 1) := by decide +kernel
theorem dX12_tune_103 : decode cX12_tune 103 = .ok (.goto 9, 3) := by decide +kernel
theorem dX12_tune_106 : decode cX12_tune 106 = .ok (.aload_n 0, 1) := by decide +kernel
theorem dX12_tune_107 : decode cX12_tune 107 = .ok (.getfield 31, 3) := by decide +kernel
theorem dX12_tune_110 : decode cX12_tune 110 = .ok (.iload_n 1, 1) := by decide +kernel
theorem dX12_tune_111 : decode cX12_tune 111 = .ok (.iaload, 1) := by decide +kernel
theorem dX12_tune_112 : decode cX12_tune 112 = .ok (.iastore, 1) := by decide +kernel
theorem dX12_tune_113 : decode cX12_tune 113 = .ok (.aload_n 0, 1) := by decide +kernel
theorem dX12_tune_114 : decode cX12_tune 114 = .ok (.getfield 34, 3) := by decide +kernel
theorem dX12_tune_117 : decode cX12_tune 117 = .ok (.iload_n 1, 1) := by decide +kernel
theorem dX12_tune_118 : decode cX12_tune 118 = .ok (.iload_n 2, 1) := by decide +kernel
theorem dX12_tune_119 : decode cX12_tune 119 = .ok (.iconst 2, 1) := by decide +kernel
theorem dX12_tune_120 : decode cX12_tune 120 = .ok (.if_icmp .ne 7, 3) := by decide +kernel
theorem dX12_tune_123 : decode cX12_tune 123 = .ok (.iload_n 3, 1) := by decide +kernel
theorem dX12_tune_124 : decode cX12_tune 124 = .ok (.goto 9, 3) := by decide +kernel
theorem dX12_tune_127 : decode cX12_tune 127 = .ok (.aload_n 0, 1) := by decide +kernel
theorem dX12_tune_128 : decode cX12_tune 128 = .ok (.getfield 34, 3) := by decide +kernel
theorem dX12_tune_131 : decode cX12_tune 131 = .ok (.iload_n 1, 1) := by decide +kernel
theorem dX12_tune_132 : decode cX12_tune 132 = .ok (.iaload, 1) := by decide +kernel
theorem dX12_tune_133 : decode cX12_tune 133 = .ok (.iastore, 1) := by decide +kernel
theorem dX12_tune_134 : decode cX12_tune 134 = .ok (.iload 4, 2) := by decide +kernel
theorem dX12_tune_136 : decode cX12_tune 136 = .ok (.ireturn, 1) := by decide +kernel
theorem dX12_isOff_0 : decode cX12_isOff 0 = .ok (.iload_n 0, 1) := by decide +kernel
theorem dX12_isOff_1 : decode cX12_isOff 1 = .ok (.i2l, 1) := by decide +kernel
theorem dX12_isOff_2 : decode cX12_isOff 2 = .ok (.ldc2_w 132, 3) := by decide +kernel
theorem dX12_isOff_5 : decode cX12_isOff 5 = .ok (.ldc2_w 134, 3) := by decide +kernel
theorem dX12_isOff_8 : decode cX12_isOff 8 = .ok (.invokestatic 87, 3) := by decide +kernel
theorem dX12_isOff_11 : decode cX12_isOff 11 = .ok (.ireturn, 1) := by decide +kernel
theorem dX12_off_0 : decode cX12_off 0 = .ok (.iload_n 1, 1) := by decide +kernel
theorem dX12_off_1 : decode cX12_off 1 = .ok (.invokestatic 127, 3) := by decide +kernel
theorem dX12_off_4 : decode cX12_off 4 = .ok (.ifCond .ne 6, 3) := by decide +kernel
theorem dX12_off_7 : decode cX12_off 7 = .ok (.bipush (-2), 2) := by decide +kernel
theorem dX12_off_9 : decode cX12_off 9 = .ok (.ireturn, 1) := by decide +kernel
theorem dX12_off_10 : decode cX12_off 10 = .ok (.iload_n 2, 1) := by decide +kernel
theorem dX12_off_11 : decode cX12_off 11 = .ok (.invokestatic 136, 3) := by decide +kernel
theorem dX12_off_14 : decode cX12_off 14 = .ok (.ifCond .ne 6, 3) := by decide +kernel
theorem dX12_off_17 : decode cX12_off 17 = .ok (.bipush (-3), 2) := by decide +kernel
theorem dX12_off_19 : decode cX12_off 19 = .ok (.ireturn, 1) := by decide +kernel
theorem dX12_off_20 : decode cX12_off 20 = .ok (.aload_n 0, 1) := by decide +kernel
theorem dX12_off_21 : decode cX12_off 21 = .ok (.getfield 37, 3) := by decide +kernel
theorem dX12_off_24 : decode cX12_off 24 = .ok (.iload_n 1, 1) := by decide +kernel
theorem dX12_off_25 : decode cX12_off 25 = .ok (.iload_n 2, 1) := by decide +kernel
theorem dX12_off_26 : decode cX12_off 26 = .ok (.iastore, 1) := by decide +kernel
theorem dX12_off_27 : decode cX12_off 27 = .ok (.aload_n 0, 1) := by decide +kernel
theorem dX12_off_28 : decode cX12_off 28 = .ok (.getfield 40, 3) := by decide +kernel
theorem dX12_off_31 : decode cX12_off 31 = .ok (.iload_n 1, 1) := by decide +kernel
theorem dX12_off_32 : decode cX12_off 32 = .ok (.iconst 0, 1) := by decide +kernel
theorem dX12_off_33 : decode cX12_off 33 = .ok (.iastore, 1) := by decide +kernel
theorem dX12_off_34 : decode cX12_off 34 = .ok (.iconst 1, 1) := by decide +kernel
theorem dX12_off_35 : decode cX12_off 35 = .ok (.ireturn, 1) := by decide +kernel
theorem dX12_isSpeed_0 : decode cX12_isSpeed 0 = .ok (.iload_n 0, 1) := by decide +kernel
theorem dX12_isSpeed_1 : decode cX12_isSpeed 1 = .ok (.i2l, 1) := by decide +kernel
theorem dX12_isSpeed_2 : decode cX12_isSpeed 2 = .ok (.lconst 0, 1) := by decide +kernel
theorem dX12_isSpeed_3 : decode cX12_isSpeed 3 = .ok (.ldc2_w 107, 3) := by decide +kernel
theorem dX12_isSpeed_6 : decode cX12_isSpeed 6 = .ok (.invokestatic 87, 3) := by decide +kernel
theorem dX12_isSpeed_9 : decode cX12_isSpeed 9 = .ok (.ireturn, 1) := by decide +kernel
theorem dX12_isPlace_0 : decode cX12_isPlace 0 = .ok (.iload_n 0, 1) := by decide +kernel
theorem dX12_isPlace_1 : decode cX12_isPlace 1 = .ok (.i2l, 1) := by decide +kernel
theorem dX12_isPlace_2 : decode cX12_isPlace 2 = .ok (.ldc2_w 101, 3) := by decide +kernel
theorem dX12_isPlace_5 : decode cX12_isPlace 5 = .ok (.ldc2_w 105, 3) := by decide +kernel
theorem dX12_isPlace_8 : decode cX12_isPlace 8 = .ok (.invokestatic 87, 3) := by decide +kernel
theorem dX12_isPlace_11 : decode cX12_isPlace 11 = .ok (.ireturn, 1) := by decide +kernel
theorem dX12_told_0 : decode cX12_told 0 = .ok (.iload_n 1, 1) := by decide +kernel
theorem dX12_told_1 : decode cX12_told 1 = .ok (.invokestatic 127, 3) := by decide +kernel
theorem dX12_told_4 : decode cX12_told 4 = .ok (.ifCond .ne 6, 3) := by decide +kernel
theorem dX12_told_7 : decode cX12_told 7 = .ok (.bipush (-2), 2) := by decide +kernel
theorem dX12_told_9 : decode cX12_told 9 = .ok (.ireturn, 1) := by decide +kernel
theorem dX12_told_10 : decode cX12_told 10 = .ok (.iload_n 2, 1) := by decide +kernel
theorem dX12_told_11 : decode cX12_told 11 = .ok (.invokestatic 139, 3) := by decide +kernel
theorem dX12_told_14 : decode cX12_told 14 = .ok (.ifCond .eq 10, 3) := by decide +kernel
theorem dX12_told_17 : decode cX12_told 17 = .ok (.iload_n 3, 1) := by decide +kernel
theorem dX12_told_18 : decode cX12_told 18 = .ok (.invokestatic 142, 3) := by decide +kernel
theorem dX12_told_21 : decode cX12_told 21 = .ok (.ifCond .ne 6, 3) := by decide +kernel
theorem dX12_told_24 : decode cX12_told 24 = .ok (.bipush (-3), 2) := by decide +kernel
theorem dX12_told_26 : decode cX12_told 26 = .ok (.ireturn, 1) := by decide +kernel
theorem dX12_told_27 : decode cX12_told 27 = .ok (.aload_n 0, 1) := by decide +kernel
theorem dX12_told_28 : decode cX12_told 28 = .ok (.getfield 43, 3) := by decide +kernel
theorem dX12_told_31 : decode cX12_told 31 = .ok (.iload_n 1, 1) := by decide +kernel
theorem dX12_told_32 : decode cX12_told 32 = .ok (.iload_n 2, 1) := by decide +kernel
theorem dX12_told_33 : decode cX12_told 33 = .ok (.iastore, 1) := by decide +kernel
theorem dX12_told_34 : decode cX12_told 34 = .ok (.aload_n 0, 1) := by decide +kernel
theorem dX12_told_35 : decode cX12_told 35 = .ok (.getfield 46, 3) := by decide +kernel
theorem dX12_told_38 : decode cX12_told 38 = .ok (.iload_n 1, 1) := by decide +kernel
theorem dX12_told_39 : decode cX12_told 39 = .ok (.iload_n 3, 1) := by decide +kernel
theorem dX12_told_40 : decode cX12_told 40 = .ok (.iastore, 1) := by decide +kernel
theorem dX12_told_41 : decode cX12_told 41 = .ok (.iconst 1, 1) := by decide +kernel
theorem dX12_told_42 : decode cX12_told 42 = .ok (.ireturn, 1) := by decide +kernel
theorem dX12_iron_0 : decode cX12_iron 0 = .ok (.iload_n 1, 1) := by decide +kernel
theorem dX12_iron_1 : decode cX12_iron 1 = .ok (.i2l, 1) := by decide +kernel
theorem dX12_iron_2 : decode cX12_iron 2 = .ok (.lconst 0, 1) := by decide +kernel
theorem dX12_iron_3 : decode cX12_iron 3 = .ok (.ldc2_w 145, 3) := by decide +kernel
theorem dX12_iron_6 : decode cX12_iron 6 = .ok (.invokestatic 87, 3) := by decide +kernel
theorem dX12_iron_9 : decode cX12_iron 9 = .ok (.ifCond .eq 17, 3) := by decide +kernel
theorem dX12_iron_12 : decode cX12_iron 12 = .ok (.iload_n 2, 1) := by decide +kernel
theorem dX12_iron_13 : decode cX12_iron 13 = .ok (.i2l, 1) := by decide +kernel
theorem dX12_iron_14 : decode cX12_iron 14 = .ok (.ldc2_w 147, 3) := by decide +kernel
theorem dX12_iron_17 : decode cX12_iron 17 = .ok (.ldc2_w 149, 3) := by decide +kernel
theorem dX12_iron_20 : decode cX12_iron 20 = .ok (.invokestatic 87, 3) := by decide +kernel
theorem dX12_iron_23 : decode cX12_iron 23 = .ok (.ifCond .ne 6, 3) := by decide +kernel
theorem dX12_iron_26 : decode cX12_iron 26 = .ok (.bipush (-3), 2) := by decide +kernel
theorem dX12_iron_28 : decode cX12_iron 28 = .ok (.ireturn, 1) := by decide +kernel
theorem dX12_iron_29 : decode cX12_iron 29 = .ok (.aload_n 0, 1) := by decide +kernel
theorem dX12_iron_30 : decode cX12_iron 30 = .ok (.getfield 49, 3) := by decide +kernel
theorem dX12_iron_33 : decode cX12_iron 33 = .ok (.iload_n 1, 1) := by decide +kernel
theorem dX12_iron_34 : decode cX12_iron 34 = .ok (.iload_n 2, 1) := by decide +kernel
theorem dX12_iron_35 : decode cX12_iron 35 = .ok (.iastore, 1) := by decide +kernel
theorem dX12_iron_36 : decode cX12_iron 36 = .ok (.iconst 1, 1) := by decide +kernel
theorem dX12_iron_37 : decode cX12_iron 37 = .ok (.ireturn, 1) := by decide +kernel
theorem dX12_leanOf_0 : decode cX12_leanOf 0 = .ok (.iload_n 2, 1) := by decide +kernel
theorem dX12_leanOf_1 : decode cX12_leanOf 1 = .ok (.sipush 18000, 3) := by decide +kernel
theorem dX12_leanOf_4 : decode cX12_leanOf 4 = .ok (.if_icmp .le 10, 3) := by decide +kernel
theorem dX12_leanOf_7 : decode cX12_leanOf 7 = .ok (.ldc 91, 2) := by decide +kernel
theorem dX12_leanOf_9 : decode cX12_leanOf 9 = .ok (.iload_n 2, 1) := by decide +kernel
theorem dX12_leanOf_10 : decode cX12_leanOf 10 = .ok (.isub, 1) := by decide +kernel
theorem dX12_leanOf_11 : decode cX12_leanOf 11 = .ok (.goto 4, 3) := by decide +kernel
theorem dX12_leanOf_14 : decode cX12_leanOf 14 = .ok (.iload_n 2, 1) := by decide +kernel
theorem dX12_leanOf_15 : decode cX12_leanOf 15 = .ok (.istore_n 3, 1) := by decide +kernel
theorem dX12_leanOf_16 : decode cX12_leanOf 16 = .ok (.iload_n 0, 1) := by decide +kernel
theorem dX12_leanOf_17 : decode cX12_leanOf 17 = .ok (.bipush 90, 2) := by decide +kernel
theorem dX12_leanOf_19 : decode cX12_leanOf 19 = .ok (.iload_n 3, 1) := by decide +kernel
theorem dX12_leanOf_20 : decode cX12_leanOf 20 = .ok (.bipush 100, 2) := by decide +kernel
theorem dX12_leanOf_22 : decode cX12_leanOf 22 = .ok (.idiv, 1) := by decide +kernel
theorem dX12_leanOf_23 : decode cX12_leanOf 23 = .ok (.isub, 1) := by decide +kernel
theorem dX12_leanOf_24 : decode cX12_leanOf 24 = .ok (.imul, 1) := by decide +kernel
theorem dX12_leanOf_25 : decode cX12_leanOf 25 = .ok (.bipush 20, 2) := by decide +kernel
theorem dX12_leanOf_27 : decode cX12_leanOf 27 = .ok (.imul, 1) := by decide +kernel
theorem dX12_leanOf_28 : decode cX12_leanOf 28 = .ok (.iload_n 1, 1) := by decide +kernel
theorem dX12_leanOf_29 : decode cX12_leanOf 29 = .ok (.invokestatic 151, 3) := by decide +kernel
theorem dX12_leanOf_32 : decode cX12_leanOf 32 = .ok (.idiv, 1) := by decide +kernel
theorem dX12_leanOf_33 : decode cX12_leanOf 33 = .ok (.ireturn, 1) := by decide +kernel
theorem dX12_ironAt_0 : decode cX12_ironAt 0 = .ok (.iload_n 1, 1) := by decide +kernel
theorem dX12_ironAt_1 : decode cX12_ironAt 1 = .ok (.sipush 4500, 3) := by decide +kernel
theorem dX12_ironAt_4 : decode cX12_ironAt 4 = .ok (.idiv, 1) := by decide +kernel
theorem dX12_ironAt_5 : decode cX12_ironAt 5 = .ok (.istore_n 2, 1) := by decide +kernel
theorem dX12_ironAt_6 : decode cX12_ironAt 6 = .ok (.aload_n 0, 1) := by decide +kernel
theorem dX12_ironAt_7 : decode cX12_ironAt 7 = .ok (.getfield 49, 3) := by decide +kernel
theorem dX12_ironAt_10 : decode cX12_ironAt 10 = .ok (.iload_n 2, 1) := by decide +kernel
theorem dX12_ironAt_11 : decode cX12_ironAt 11 = .ok (.iaload, 1) := by decide +kernel
theorem dX12_ironAt_12 : decode cX12_ironAt 12 = .ok (.aload_n 0, 1) := by decide +kernel
theorem dX12_ironAt_13 : decode cX12_ironAt 13 = .ok (.getfield 49, 3) := by decide +kernel
theorem dX12_ironAt_16 : decode cX12_ironAt 16 = .ok (.iload_n 2, 1) := by decide +kernel
theorem dX12_ironAt_17 : decode cX12_ironAt 17 = .ok (.iconst 1, 1) := by decide +kernel
theorem dX12_ironAt_18 : decode cX12_ironAt 18 = .ok (.iadd, 1) := by decide +kernel
theorem dX12_ironAt_19 : decode cX12_ironAt 19 = .ok (.bipush 8, 2) := by decide +kernel
theorem dX12_ironAt_21 : decode cX12_ironAt 21 = .ok (.irem, 1) := by decide +kernel
theorem dX12_ironAt_22 : decode cX12_ironAt 22 = .ok (.iaload, 1) := by decide +kernel
theorem dX12_ironAt_23 : decode cX12_ironAt 23 = .ok (.aload_n 0, 1) := by decide +kernel
theorem dX12_ironAt_24 : decode cX12_ironAt 24 = .ok (.getfield 49, 3) := by decide +kernel
theorem dX12_ironAt_27 : decode cX12_ironAt 27 = .ok (.iload_n 2, 1) := by decide +kernel
theorem dX12_ironAt_28 : decode cX12_ironAt 28 = .ok (.iaload, 1) := by decide +kernel
theorem dX12_ironAt_29 : decode cX12_ironAt 29 = .ok (.isub, 1) := by decide +kernel
theorem dX12_ironAt_30 : decode cX12_ironAt 30 = .ok (.iload_n 1, 1) := by decide +kernel
theorem dX12_ironAt_31 : decode cX12_ironAt 31 = .ok (.sipush 4500, 3) := by decide +kernel
theorem dX12_ironAt_34 : decode cX12_ironAt 34 = .ok (.irem, 1) := by decide +kernel
theorem dX12_ironAt_35 : decode cX12_ironAt 35 = .ok (.imul, 1) := by decide +kernel
theorem dX12_ironAt_36 : decode cX12_ironAt 36 = .ok (.sipush 4500, 3) := by decide +kernel
theorem dX12_ironAt_39 : decode cX12_ironAt 39 = .ok (.idiv, 1) := by decide +kernel
theorem dX12_ironAt_40 : decode cX12_ironAt 40 = .ok (.iadd, 1) := by decide +kernel
theorem dX12_ironAt_41 : decode cX12_ironAt 41 = .ok (.ireturn, 1) := by decide +kernel
theorem dX12_showsOf_0 : decode cX12_showsOf 0 = .ok (.aload_n 0, 1) := by decide +kernel
theorem dX12_showsOf_1 : decode cX12_showsOf 1 = .ok (.getfield 13, 3) := by decide +kernel
theorem dX12_showsOf_4 : decode cX12_showsOf 4 = .ok (.iload_n 1, 1) := by decide +kernel
theorem dX12_showsOf_5 : decode cX12_showsOf 5 = .ok (.iaload, 1) := by decide +kernel
theorem dX12_showsOf_6 : decode cX12_showsOf 6 = .ok (.aload_n 0, 1) := by decide +kernel
theorem dX12_showsOf_7 : decode cX12_showsOf 7 = .ok (.getfield 37, 3) := by decide +kernel
theorem dX12_showsOf_10 : decode cX12_showsOf 10 = .ok (.iconst 3, 1) := by decide +kernel
theorem dX12_showsOf_11 : decode cX12_showsOf 11 = .ok (.iload_n 1, 1) := by decide +kernel
theorem dX12_showsOf_12 : decode cX12_showsOf 12 = .ok (.imul, 1) := by decide +kernel
theorem dX12_showsOf_13 : decode cX12_showsOf 13 = .ok (.iload_n 2, 1) := by decide +kernel
theorem dX12_showsOf_14 : decode cX12_showsOf 14 = .ok (.iadd, 1) := by decide +kernel
theorem dX12_showsOf_15 : decode cX12_showsOf 15 = .ok (.iaload, 1) := by decide +kernel
theorem dX12_showsOf_16 : decode cX12_showsOf 16 = .ok (.isub, 1) := by decide +kernel
theorem dX12_showsOf_17 : decode cX12_showsOf 17 = .ok (.invokestatic 92, 3) := by decide +kernel
theorem dX12_showsOf_20 : decode cX12_showsOf 20 = .ok (.istore_n 3, 1) := by decide +kernel
theorem dX12_showsOf_21 : decode cX12_showsOf 21 = .ok (.aload_n 0, 1) := by decide +kernel
theorem dX12_showsOf_22 : decode cX12_showsOf 22 = .ok (.getfield 25, 3) := by decide +kernel
theorem dX12_showsOf_25 : decode cX12_showsOf 25 = .ok (.iload_n 2, 1) := by decide +kernel
theorem dX12_showsOf_26 : decode cX12_showsOf 26 = .ok (.iaload, 1) := by decide +kernel
theorem dX12_showsOf_27 : decode cX12_showsOf 27 = .ok (.istore 4, 2) := by decide +kernel
theorem dX12_showsOf_29 : decode cX12_showsOf 29 = .ok (.iload 4, 2) := by decide +kernel
theorem dX12_showsOf_31 : decode cX12_showsOf 31 = .ok (.ifCond .ne 5, 3) := by decide +kernel
theorem dX12_showsOf_34 : decode cX12_showsOf 34 = .ok (.iconst 0, 1) := by decide +kernel
theorem dX12_showsOf_35 : decode cX12_showsOf 35 = .ok (.ireturn, 1) := by decide +kernel
theorem dX12_showsOf_36 : decode cX12_showsOf 36 = .ok (.iload 4, 2) := by decide +kernel
theorem dX12_showsOf_38 : decode cX12_showsOf 38 = .ok (.iconst 5, 1) := by decide +kernel
theorem dX12_showsOf_39 : decode cX12_showsOf 39 = .ok (.if_icmp .ne 24, 3) := by decide +kernel
theorem dX12_showsOf_42 : decode cX12_showsOf 42 = .ok (.aload_n 0, 1) := by decide +kernel
theorem dX12_showsOf_43 : decode cX12_showsOf 43 = .ok (.getfield 13, 3) := by decide +kernel
theorem dX12_showsOf_46 : decode cX12_showsOf 46 = .ok (.iload_n 1, 1) := by decide +kernel
theorem dX12_showsOf_47 : decode cX12_showsOf 47 = .ok (.iaload, 1) := by decide +kernel
theorem dX12_showsOf_48 : decode cX12_showsOf 48 = .ok (.aload_n 0, 1) := by decide +kernel
theorem dX12_showsOf_49 : decode cX12_showsOf 49 = .ok (.aload_n 0, 1) := by decide +kernel
theorem dX12_showsOf_50 : decode cX12_showsOf 50 = .ok (.getfield 13, 3) := by decide +kernel
theorem dX12_showsOf_53 : decode cX12_showsOf 53 = .ok (.iload_n 1, 1) := by decide +kernel
theorem dX12_showsOf_54 : decode cX12_showsOf 54 = .ok (.iaload, 1) := by decide +kernel
theorem dX12_showsOf_55 : decode cX12_showsOf 55 = .ok (.invokevirtual 154, 3) := by decide +kernel
theorem dX12_showsOf_58 : decode cX12_showsOf 58 = .ok (.isub, 1) := by decide +kernel
theorem dX12_showsOf_59 : decode cX12_showsOf 59 = .ok (.invokestatic 92, 3) := by decide +kernel
theorem dX12_showsOf_62 : decode cX12_showsOf 62 = .ok (.ireturn, 1) := by decide +kernel
theorem dX12_showsOf_63 : decode cX12_showsOf 63 = .ok (.iload 4, 2) := by decide +kernel
theorem dX12_showsOf_65 : decode cX12_showsOf 65 = .ok (.iconst 4, 1) := by decide +kernel
theorem dX12_showsOf_66 : decode cX12_showsOf 66 = .ok (.if_icmp .ne 27, 3) := by decide +kernel
theorem dX12_showsOf_69 : decode cX12_showsOf 69 = .ok (.iload_n 3, 1) := by decide +kernel
theorem dX12_showsOf_70 : decode cX12_showsOf 70 = .ok (.aload_n 0, 1) := by decide +kernel
theorem dX12_showsOf_71 : decode cX12_showsOf 71 = .ok (.getfield 43, 3) := by decide +kernel
theorem dX12_showsOf_74 : decode cX12_showsOf 74 = .ok (.iload_n 2, 1) := by decide +kernel
theorem dX12_showsOf_75 : decode cX12_showsOf 75 = .ok (.iaload, 1) := by decide +kernel
theorem dX12_showsOf_76 : decode cX12_showsOf 76 = .ok (.aload_n 0, 1) := by decide +kernel
theorem dX12_showsOf_77 : decode cX12_showsOf 77 = .ok (.getfield 46, 3) := by decide +kernel
theorem dX12_showsOf_80 : decode cX12_showsOf 80 = .ok (.iload_n 2, 1) := by decide +kernel
theorem dX12_showsOf_81 : decode cX12_showsOf 81 = .ok (.iaload, 1) := by decide +kernel
theorem dX12_showsOf_82 : decode cX12_showsOf 82 = .ok (.iload_n 3, 1) := by decide +kernel
theorem dX12_showsOf_83 : decode cX12_showsOf 83 = .ok (.invokestatic 157, 3) := by decide +kernel
theorem dX12_showsOf_86 : decode cX12_showsOf 86 = .ok (.iadd, 1) := by decide +kernel
theorem dX12_showsOf_87 : decode cX12_showsOf 87 = .ok (.invokestatic 92, 3) := by decide +kernel
theorem dX12_showsOf_90 : decode cX12_showsOf 90 = .ok (.goto 4, 3) := by decide +kernel
theorem dX12_showsOf_93 : decode cX12_showsOf 93 = .ok (.iload_n 3, 1) := by decide +kernel
theorem dX12_showsOf_94 : decode cX12_showsOf 94 = .ok (.ireturn, 1) := by decide +kernel
theorem dX12_shows_0 : decode cX12_shows 0 = .ok (.iload_n 1, 1) := by decide +kernel
theorem dX12_shows_1 : decode cX12_shows 1 = .ok (.invokestatic 127, 3) := by decide +kernel
theorem dX12_shows_4 : decode cX12_shows 4 = .ok (.ifCond .eq 12, 3) := by decide +kernel
theorem dX12_shows_7 : decode cX12_shows 7 = .ok (.aload_n 0, 1) := by decide +kernel
theorem dX12_shows_8 : decode cX12_shows 8 = .ok (.iconst 0, 1) := by decide +kernel
theorem dX12_shows_9 : decode cX12_shows 9 = .ok (.iload_n 1, 1) := by decide +kernel
theorem dX12_shows_10 : decode cX12_shows 10 = .ok (.invokevirtual 161, 3) := by decide +kernel
theorem dX12_shows_13 : decode cX12_shows 13 = .ok (.goto 5, 3) := by decide +kernel
theorem dX12_shows_16 : decode cX12_shows 16 = .ok (.bipush (-2), 2) := by decide +kernel
theorem dX12_shows_18 : decode cX12_shows 18 = .ok (.ireturn, 1) := by decide +kernel
theorem dX12_now_0 : decode cX12_now 0 = .ok (.iload_n 1, 1) := by decide +kernel
theorem dX12_now_1 : decode cX12_now 1 = .ok (.invokestatic 127, 3) := by decide +kernel
theorem dX12_now_4 : decode cX12_now 4 = .ok (.ifCond .ne 6, 3) := by decide +kernel
theorem dX12_now_7 : decode cX12_now 7 = .ok (.bipush (-2), 2) := by decide +kernel
theorem dX12_now_9 : decode cX12_now 9 = .ok (.ireturn, 1) := by decide +kernel
theorem dX12_now_10 : decode cX12_now 10 = .ok (.iload_n 2, 1) := by decide +kernel
theorem dX12_now_11 : decode cX12_now 11 = .ok (.i2l, 1) := by decide +kernel
theorem dX12_now_12 : decode cX12_now 12 = .ok (.lconst 0, 1) := by decide +kernel
theorem dX12_now_13 : decode cX12_now 13 = .ok (.lconst 1, 1) := by decide +kernel
theorem dX12_now_14 : decode cX12_now 14 = .ok (.invokestatic 87, 3) := by decide +kernel
theorem dX12_now_17 : decode cX12_now 17 = .ok (.ifCond .ne 8, 3) := by decide +kernel
theorem dX12_now_20 : decode cX12_now 20 = .ok (.bipush (-3), 2) := by decide +kernel
theorem dX12_now_22 : decode cX12_now 22 = .ok (.goto 25, 3) := by decide +kernel
theorem dX12_now_25 : decode cX12_now 25 = .ok (.ldc 165, 2) := by decide +kernel
theorem dX12_now_27 : decode cX12_now 27 = .ok (.iload_n 2, 1) := by decide +kernel
theorem dX12_now_28 : decode cX12_now 28 = .ok (.ifCond .ne 12, 3) := by decide +kernel
theorem dX12_now_31 : decode cX12_now 31 = .ok (.aload_n 0, 1) := by decide +kernel
theorem dX12_now_32 : decode cX12_now 32 = .ok (.getfield 37, 3) := by decide +kernel
theorem dX12_now_35 : decode cX12_now 35 = .ok (.iload_n 1, 1) := by decide +kernel
theorem dX12_now_36 : decode cX12_now 36 = .ok (.iaload, 1) := by decide +kernel
theorem dX12_now_37 : decode cX12_now 37 = .ok (.goto 9, 3) := by decide +kernel
theorem dX12_now_40 : decode cX12_now 40 = .ok (.aload_n 0, 1) := by decide +kernel
theorem dX12_now_41 : decode cX12_now 41 = .ok (.getfield 40, 3) := by decide +kernel
theorem dX12_now_44 : decode cX12_now 44 = .ok (.iload_n 1, 1) := by decide +kernel
theorem dX12_now_45 : decode cX12_now 45 = .ok (.iaload, 1) := by decide +kernel
theorem dX12_now_46 : decode cX12_now 46 = .ok (.iadd, 1) := by decide +kernel
theorem dX12_now_47 : decode cX12_now 47 = .ok (.ireturn, 1) := by decide +kernel
theorem dX12_lean_0 : decode cX12_lean 0 = .ok (.iload_n 1, 1) := by decide +kernel
theorem dX12_lean_1 : decode cX12_lean 1 = .ok (.invokestatic 139, 3) := by decide +kernel
theorem dX12_lean_4 : decode cX12_lean 4 = .ok (.ifCond .eq 29, 3) := by decide +kernel
theorem dX12_lean_7 : decode cX12_lean 7 = .ok (.iload_n 2, 1) := by decide +kernel
theorem dX12_lean_8 : decode cX12_lean 8 = .ok (.invokestatic 142, 3) := by decide +kernel
theorem dX12_lean_11 : decode cX12_lean 11 = .ok (.ifCond .eq 22, 3) := by decide +kernel
theorem dX12_lean_14 : decode cX12_lean 14 = .ok (.iload_n 3, 1) := by decide +kernel
theorem dX12_lean_15 : decode cX12_lean 15 = .ok (.invokestatic 115, 3) := by decide +kernel
theorem dX12_lean_18 : decode cX12_lean 18 = .ok (.ifCond .eq 15, 3) := by decide +kernel
theorem dX12_lean_21 : decode cX12_lean 21 = .ok (.ldc 166, 2) := by decide +kernel
theorem dX12_lean_23 : decode cX12_lean 23 = .ok (.iload_n 1, 1) := by decide +kernel
theorem dX12_lean_24 : decode cX12_lean 24 = .ok (.iload_n 2, 1) := by decide +kernel
theorem dX12_lean_25 : decode cX12_lean 25 = .ok (.iload_n 3, 1) := by decide +kernel
theorem dX12_lean_26 : decode cX12_lean 26 = .ok (.invokestatic 157, 3) := by decide +kernel
theorem dX12_lean_29 : decode cX12_lean 29 = .ok (.iadd, 1) := by decide +kernel
theorem dX12_lean_30 : decode cX12_lean 30 = .ok (.goto 5, 3) := by decide +kernel
theorem dX12_lean_33 : decode cX12_lean 33 = .ok (.bipush (-3), 2) := by decide +kernel
theorem dX12_lean_35 : decode cX12_lean 35 = .ok (.ireturn, 1) := by decide +kernel
theorem dX12_deviation_0 : decode cX12_deviation 0 = .ok (.iload_n 1, 1) := by decide +kernel
theorem dX12_deviation_1 : decode cX12_deviation 1 = .ok (.invokestatic 115, 3) := by decide +kernel
theorem dX12_deviation_4 : decode cX12_deviation 4 = .ok (.ifCond .eq 14, 3) := by decide +kernel
theorem dX12_deviation_7 : decode cX12_deviation 7 = .ok (.ldc 165, 2) := by decide +kernel
theorem dX12_deviation_9 : decode cX12_deviation 9 = .ok (.aload_n 0, 1) := by decide +kernel
theorem dX12_deviation_10 : decode cX12_deviation 10 = .ok (.iload_n 1, 1) := by decide +kernel
theorem dX12_deviation_11 : decode cX12_deviation 11 = .ok (.invokevirtual 154, 3) := by decide +kernel
theorem dX12_deviation_14 : decode cX12_deviation 14 = .ok (.iadd, 1) := by decide +kernel
theorem dX12_deviation_15 : decode cX12_deviation 15 = .ok (.goto 5, 3) := by decide +kernel
theorem dX12_deviation_18 : decode cX12_deviation 18 = .ok (.bipush (-3), 2) := by decide +kernel
theorem dX12_deviation_20 : decode cX12_deviation 20 = .ok (.ireturn, 1) := by decide +kernel
theorem dX12_pulled_0 : decode cX12_pulled 0 = .ok (.iload_n 0, 1) := by decide +kernel
theorem dX12_pulled_1 : decode cX12_pulled 1 = .ok (.iload_n 1, 1) := by decide +kernel
theorem dX12_pulled_2 : decode cX12_pulled 2 = .ok (.iload_n 2, 1) := by decide +kernel
theorem dX12_pulled_3 : decode cX12_pulled 3 = .ok (.invokestatic 151, 3) := by decide +kernel
theorem dX12_pulled_6 : decode cX12_pulled 6 = .ok (.imul, 1) := by decide +kernel
theorem dX12_pulled_7 : decode cX12_pulled 7 = .ok (.iload_n 3, 1) := by decide +kernel
theorem dX12_pulled_8 : decode cX12_pulled 8 = .ok (.imul, 1) := by decide +kernel
theorem dX12_pulled_9 : decode cX12_pulled 9 = .ok (.sipush 9000, 3) := by decide +kernel
theorem dX12_pulled_12 : decode cX12_pulled 12 = .ok (.idiv, 1) := by decide +kernel
theorem dX12_pulled_13 : decode cX12_pulled 13 = .ok (.isub, 1) := by decide +kernel
theorem dX12_pulled_14 : decode cX12_pulled 14 = .ok (.ireturn, 1) := by decide +kernel
theorem dX12_damped_0 : decode cX12_damped 0 = .ok (.iload_n 0, 1) := by decide +kernel
theorem dX12_damped_1 : decode cX12_damped 1 = .ok (.iload_n 0, 1) := by decide +kernel
theorem dX12_damped_2 : decode cX12_damped 2 = .ok (.iload_n 1, 1) := by decide +kernel
theorem dX12_damped_3 : decode cX12_damped 3 = .ok (.imul, 1) := by decide +kernel
theorem dX12_damped_4 : decode cX12_damped 4 = .ok (.bipush 100, 2) := by decide +kernel
theorem dX12_damped_6 : decode cX12_damped 6 = .ok (.idiv, 1) := by decide +kernel
theorem dX12_damped_7 : decode cX12_damped 7 = .ok (.isub, 1) := by decide +kernel
theorem dX12_damped_8 : decode cX12_damped 8 = .ok (.ireturn, 1) := by decide +kernel
theorem dX12_kicked_0 : decode cX12_kicked 0 = .ok (.iload_n 0, 1) := by decide +kernel
theorem dX12_kicked_1 : decode cX12_kicked 1 = .ok (.iload_n 1, 1) := by decide +kernel
theorem dX12_kicked_2 : decode cX12_kicked 2 = .ok (.iload_n 2, 1) := by decide +kernel
theorem dX12_kicked_3 : decode cX12_kicked 3 = .ok (.imul, 1) := by decide +kernel
theorem dX12_kicked_4 : decode cX12_kicked 4 = .ok (.bipush 100, 2) := by decide +kernel
theorem dX12_kicked_6 : decode cX12_kicked 6 = .ok (.idiv, 1) := by decide +kernel
theorem dX12_kicked_7 : decode cX12_kicked 7 = .ok (.iadd, 1) := by decide +kernel
theorem dX12_kicked_8 : decode cX12_kicked 8 = .ok (.ireturn, 1) := by decide +kernel
theorem dX12_tick_0 : decode cX12_tick 0 = .ok (.aload_n 0, 1) := by decide +kernel
theorem dX12_tick_1 : decode cX12_tick 1 = .ok (.getfield 7, 3) := by decide +kernel
theorem dX12_tick_4 : decode cX12_tick 4 = .ok (.iconst 4, 1) := by decide +kernel
theorem dX12_tick_5 : decode cX12_tick 5 = .ok (.iload_n 1, 1) := by decide +kernel
theorem dX12_tick_6 : decode cX12_tick 6 = .ok (.imul, 1) := by decide +kernel
theorem dX12_tick_7 : decode cX12_tick 7 = .ok (.iconst 3, 1) := by decide +kernel
theorem dX12_tick_8 : decode cX12_tick 8 = .ok (.iadd, 1) := by decide +kernel
theorem dX12_tick_9 : decode cX12_tick 9 = .ok (.iaload, 1) := by decide +kernel
theorem dX12_tick_10 : decode cX12_tick 10 = .ok (.aload_n 0, 1) := by decide +kernel
theorem dX12_tick_11 : decode cX12_tick 11 = .ok (.getfield 7, 3) := by decide +kernel
theorem dX12_tick_14 : decode cX12_tick 14 = .ok (.iconst 4, 1) := by decide +kernel
theorem dX12_tick_15 : decode cX12_tick 15 = .ok (.iload_n 1, 1) := by decide +kernel
theorem dX12_tick_16 : decode cX12_tick 16 = .ok (.imul, 1) := by decide +kernel
theorem dX12_tick_17 : decode cX12_tick 17 = .ok (.iconst 2, 1) := by decide +kernel
theorem dX12_tick_18 : decode cX12_tick 18 = .ok (.iadd, 1) := by decide +kernel
theorem dX12_tick_19 : decode cX12_tick 19 = .ok (.iaload, 1) := by decide +kernel
theorem dX12_tick_20 : decode cX12_tick 20 = .ok (.imul, 1) := by decide +kernel
theorem dX12_tick_21 : decode cX12_tick 21 = .ok (.aload_n 0, 1) := by decide +kernel
theorem dX12_tick_22 : decode cX12_tick 22 = .ok (.getfield 123, 3) := by decide +kernel
theorem dX12_tick_25 : decode cX12_tick 25 = .ok (.ifCond .ne 7, 3) := by decide +kernel
theorem dX12_tick_28 : decode cX12_tick 28 = .ok (.iconst 0, 1) := by decide +kernel
theorem dX12_tick_29 : decode cX12_tick 29 = .ok (.goto 19, 3) := by decide +kernel
theorem dX12_tick_32 : decode cX12_tick 32 = .ok (.aload_n 0, 1) := by decide +kernel
theorem dX12_tick_33 : decode cX12_tick 33 = .ok (.getfield 22, 3) := by decide +kernel
theorem dX12_tick_36 : decode cX12_tick 36 = .ok (.aload_n 0, 1) := by decide +kernel
theorem dX12_tick_37 : decode cX12_tick 37 = .ok (.getfield 16, 3) := by decide +kernel
theorem dX12_tick_40 : decode cX12_tick 40 = .ok (.iload_n 1, 1) := by decide +kernel
theorem dX12_tick_41 : decode cX12_tick 41 = .ok (.iaload, 1) := by decide +kernel
theorem dX12_tick_42 : decode cX12_tick 42 = .ok (.aload_n 0, 1) := by decide +kernel
theorem dX12_tick_43 : decode cX12_tick 43 = .ok (.getfield 123, 3) := by decide +kernel
theorem dX12_tick_46 : decode cX12_tick 46 = .ok (.irem, 1) := by decide +kernel
theorem dX12_tick_47 : decode cX12_tick 47 = .ok (.iaload, 1) := by decide +kernel
theorem dX12_tick_48 : decode cX12_tick 48 = .ok (.iadd, 1) := by decide +kernel
theorem dX12_tick_49 : decode cX12_tick 49 = .ok (.istore_n 2, 1) := by decide +kernel
theorem dX12_tick_50 : decode cX12_tick 50 = .ok (.aload_n 0, 1) := by decide +kernel
theorem dX12_tick_51 : decode cX12_tick 51 = .ok (.getfield 13, 3) := by decide +kernel
theorem dX12_tick_54 : decode cX12_tick 54 = .ok (.iload_n 1, 1) := by decide +kernel
theorem dX12_tick_55 : decode cX12_tick 55 = .ok (.aload_n 0, 1) := by decide +kernel
theorem dX12_tick_56 : decode cX12_tick 56 = .ok (.getfield 13, 3) := by decide +kernel
theorem dX12_tick_59 : decode cX12_tick 59 = .ok (.iload_n 1, 1) := by decide +kernel
theorem dX12_tick_60 : decode cX12_tick 60 = .ok (.iaload, 1) := by decide +kernel
theorem dX12_tick_61 : decode cX12_tick 61 = .ok (.iload_n 2, 1) := by decide +kernel
theorem dX12_tick_62 : decode cX12_tick 62 = .ok (.iadd, 1) := by decide +kernel
theorem dX12_tick_63 : decode cX12_tick 63 = .ok (.invokestatic 92, 3) := by decide +kernel
theorem dX12_tick_66 : decode cX12_tick 66 = .ok (.iastore, 1) := by decide +kernel
theorem dX12_tick_67 : decode cX12_tick 67 = .ok (.aload_n 0, 1) := by decide +kernel
theorem dX12_tick_68 : decode cX12_tick 68 = .ok (.getfield 7, 3) := by decide +kernel
theorem dX12_tick_71 : decode cX12_tick 71 = .ok (.iconst 4, 1) := by decide +kernel
theorem dX12_tick_72 : decode cX12_tick 72 = .ok (.iload_n 1, 1) := by decide +kernel
theorem dX12_tick_73 : decode cX12_tick 73 = .ok (.imul, 1) := by decide +kernel
theorem dX12_tick_74 : decode cX12_tick 74 = .ok (.iaload, 1) := by decide +kernel
theorem dX12_tick_75 : decode cX12_tick 75 = .ok (.istore_n 3, 1) := by decide +kernel
theorem dX12_tick_76 : decode cX12_tick 76 = .ok (.iconst 0, 1) := by decide +kernel
theorem dX12_tick_77 : decode cX12_tick 77 = .ok (.istore 4, 2) := by decide +kernel
theorem dX12_tick_79 : decode cX12_tick 79 = .ok (.iload 4, 2) := by decide +kernel
theorem dX12_tick_81 : decode cX12_tick 81 = .ok (.iconst 3, 1) := by decide +kernel
theorem dX12_tick_82 : decode cX12_tick 82 = .ok (.if_icmp .ge 219, 3) := by decide +kernel
theorem dX12_tick_85 : decode cX12_tick 85 = .ok (.iconst 3, 1) := by decide +kernel
theorem dX12_tick_86 : decode cX12_tick 86 = .ok (.iload_n 1, 1) := by decide +kernel
theorem dX12_tick_87 : decode cX12_tick 87 = .ok (.imul, 1) := by decide +kernel
theorem dX12_tick_88 : decode cX12_tick 88 = .ok (.iload 4, 2) := by decide +kernel
theorem dX12_tick_90 : decode cX12_tick 90 = .ok (.iadd, 1) := by decide +kernel
theorem dX12_tick_91 : decode cX12_tick 91 = .ok (.istore 5, 2) := by decide +kernel
theorem dX12_tick_93 : decode cX12_tick 93 = .ok (.aload_n 0, 1) := by decide +kernel
theorem dX12_tick_94 : decode cX12_tick 94 = .ok (.getfield 25, 3) := by decide +kernel
theorem dX12_tick_97 : decode cX12_tick 97 = .ok (.iload 4, 2) := by decide +kernel
theorem dX12_tick_99 : decode cX12_tick 99 = .ok (.iaload, 1) := by decide +kernel
theorem dX12_tick_100 : decode cX12_tick 100 = .ok (.istore 6, 2) := by decide +kernel
theorem dX12_tick_102 : decode cX12_tick 102 = .ok (.iload 6, 2) := by decide +kernel
theorem dX12_tick_104 : decode cX12_tick 104 = .ok (.iconst 1, 1) := by decide +kernel
theorem dX12_tick_105 : decode cX12_tick 105 = .ok (.if_icmp .ne 31, 3) := by decide +kernel
theorem dX12_tick_108 : decode cX12_tick 108 = .ok (.aload_n 0, 1) := by decide +kernel
theorem dX12_tick_109 : decode cX12_tick 109 = .ok (.getfield 37, 3) := by decide +kernel
theorem dX12_tick_112 : decode cX12_tick 112 = .ok (.iload 5, 2) := by decide +kernel
theorem dX12_tick_114 : decode cX12_tick 114 = .ok (.aload_n 0, 1) := by decide +kernel
theorem dX12_tick_115 : decode cX12_tick 115 = .ok (.getfield 37, 3) := by decide +kernel
theorem dX12_tick_118 : decode cX12_tick 118 = .ok (.iload 5, 2) := by decide +kernel
theorem dX12_tick_120 : decode cX12_tick 120 = .ok (.iaload, 1) := by decide +kernel
theorem dX12_tick_121 : decode cX12_tick 121 = .ok (.bipush 25, 2) := by decide +kernel
theorem dX12_tick_123 : decode cX12_tick 123 = .ok (.iload_n 3, 1) := by decide +kernel
theorem dX12_tick_124 : decode cX12_tick 124 = .ok (.imul, 1) := by decide +kernel
theorem dX12_tick_125 : decode cX12_tick 125 = .ok (.bipush 90, 2) := by decide +kernel
theorem dX12_tick_127 : decode cX12_tick 127 = .ok (.idiv, 1) := by decide +kernel
theorem dX12_tick_128 : decode cX12_tick 128 = .ok (.isub, 1) := by decide +kernel
theorem dX12_tick_129 : decode cX12_tick 129 = .ok (.invokestatic 167, 3) := by decide +kernel
theorem dX12_tick_132 : decode cX12_tick 132 = .ok (.iastore, 1) := by decide +kernel
theorem dX12_tick_133 : decode cX12_tick 133 = .ok (.goto 162, 3) := by decide +kernel
theorem dX12_tick_136 : decode cX12_tick 136 = .ok (.iload 6, 2) := by decide +kernel
theorem dX12_tick_138 : decode cX12_tick 138 = .ok (.iconst 1, 1) := by decide +kernel
theorem dX12_tick_139 : decode cX12_tick 139 = .ok (.if_icmp .le 156, 3) := by decide +kernel
theorem dX12_tick_142 : decode cX12_tick 142 = .ok (.iload 6, 2) := by decide +kernel
theorem dX12_tick_144 : decode cX12_tick 144 = .ok (.iconst 5, 1) := by decide +kernel
theorem dX12_tick_145 : decode cX12_tick 145 = .ok (.if_icmp .ge 150, 3) := by decide +kernel
theorem dX12_tick_148 : decode cX12_tick 148 = .ok (.iload 6, 2) := by decide +kernel
theorem dX12_tick_150 : decode cX12_tick 150 = .ok (.iconst 2, 1) := by decide +kernel
theorem dX12_tick_151 : decode cX12_tick 151 = .ok (.if_icmp .ne 13, 3) := by decide +kernel
theorem dX12_tick_154 : decode cX12_tick 154 = .ok (.aload_n 0, 1) := by decide +kernel
theorem dX12_tick_155 : decode cX12_tick 155 = .ok (.getfield 37, 3) := by decide +kernel
theorem dX12_tick_158 : decode cX12_tick 158 = .ok (.iload 5, 2) := by decide +kernel
theorem dX12_tick_160 : decode cX12_tick 160 = .ok (.iaload, 1) := by decide +kernel
theorem dX12_tick_161 : decode cX12_tick 161 = .ok (.goto 34, 3) := by decide +kernel
theorem dX12_tick_164 : decode cX12_tick 164 = .ok (.aload_n 0, 1) := by decide +kernel
theorem dX12_tick_165 : decode cX12_tick 165 = .ok (.getfield 37, 3) := by decide +kernel
theorem dX12_tick_168 : decode cX12_tick 168 = .ok (.iload 5, 2) := by decide +kernel
theorem dX12_tick_170 : decode cX12_tick 170 = .ok (.iaload, 1) := by decide +kernel
theorem dX12_tick_171 : decode cX12_tick 171 = .ok (.aload_n 0, 1) := by decide +kernel
theorem dX12_tick_172 : decode cX12_tick 172 = .ok (.getfield 7, 3) := by decide +kernel
theorem dX12_tick_175 : decode cX12_tick 175 = .ok (.iconst 4, 1) := by decide +kernel
theorem dX12_tick_176 : decode cX12_tick 176 = .ok (.iload_n 1, 1) := by decide +kernel
theorem dX12_tick_177 : decode cX12_tick 177 = .ok (.imul, 1) := by decide +kernel
theorem dX12_tick_178 : decode cX12_tick 178 = .ok (.iconst 1, 1) := by decide +kernel
theorem dX12_tick_179 : decode cX12_tick 179 = .ok (.iadd, 1) := by decide +kernel
theorem dX12_tick_180 : decode cX12_tick 180 = .ok (.iaload, 1) := by decide +kernel
theorem dX12_tick_181 : decode cX12_tick 181 = .ok (.iload_n 3, 1) := by decide +kernel
theorem dX12_tick_182 : decode cX12_tick 182 = .ok (.aload_n 0, 1) := by decide +kernel
theorem dX12_tick_183 : decode cX12_tick 183 = .ok (.getfield 13, 3) := by decide +kernel
theorem dX12_tick_186 : decode cX12_tick 186 = .ok (.iload_n 1, 1) := by decide +kernel
theorem dX12_tick_187 : decode cX12_tick 187 = .ok (.iaload, 1) := by decide +kernel
theorem dX12_tick_188 : decode cX12_tick 188 = .ok (.invokestatic 157, 3) := by decide +kernel
theorem dX12_tick_191 : decode cX12_tick 191 = .ok (.isub, 1) := by decide +kernel
theorem dX12_tick_192 : decode cX12_tick 192 = .ok (.invokestatic 167, 3) := by decide +kernel
theorem dX12_tick_195 : decode cX12_tick 195 = .ok (.istore 7, 2) := by decide +kernel
theorem dX12_tick_197 : decode cX12_tick 197 = .ok (.aload_n 0, 1) := by decide +kernel
theorem dX12_tick_198 : decode cX12_tick 198 = .ok (.getfield 40, 3) := by decide +kernel
theorem dX12_tick_201 : decode cX12_tick 201 = .ok (.iload 5, 2) := by decide +kernel
theorem dX12_tick_203 : decode cX12_tick 203 = .ok (.iaload, 1) := by decide +kernel
theorem dX12_tick_204 : decode cX12_tick 204 = .ok (.aload_n 0, 1) := by decide +kernel
theorem dX12_tick_205 : decode cX12_tick 205 = .ok (.getfield 28, 3) := by decide +kernel
theorem dX12_tick_208 : decode cX12_tick 208 = .ok (.iload 4, 2) := by decide +kernel
theorem dX12_tick_210 : decode cX12_tick 210 = .ok (.iaload, 1) := by decide +kernel
theorem dX12_tick_211 : decode cX12_tick 211 = .ok (.iload_n 3, 1) := by decide +kernel
theorem dX12_tick_212 : decode cX12_tick 212 = .ok (.iload 7, 2) := by decide +kernel
theorem dX12_tick_214 : decode cX12_tick 214 = .ok (.invokestatic 170, 3) := by decide +kernel
theorem dX12_tick_217 : decode cX12_tick 217 = .ok (.istore 8, 2) := by decide +kernel
theorem dX12_tick_219 : decode cX12_tick 219 = .ok (.iload 6, 2) := by decide +kernel
theorem dX12_tick_221 : decode cX12_tick 221 = .ok (.iconst 2, 1) := by decide +kernel
theorem dX12_tick_222 : decode cX12_tick 222 = .ok (.if_icmp .ne 8, 3) := by decide +kernel
theorem dX12_tick_225 : decode cX12_tick 225 = .ok (.iload 8, 2) := by decide +kernel
theorem dX12_tick_227 : decode cX12_tick 227 = .ok (.goto 26, 3) := by decide +kernel
theorem dX12_tick_230 : decode cX12_tick 230 = .ok (.iload 8, 2) := by decide +kernel
theorem dX12_tick_232 : decode cX12_tick 232 = .ok (.aload_n 0, 1) := by decide +kernel
theorem dX12_tick_233 : decode cX12_tick 233 = .ok (.getfield 31, 3) := by decide +kernel
theorem dX12_tick_236 : decode cX12_tick 236 = .ok (.iload 4, 2) := by decide +kernel
theorem dX12_tick_238 : decode cX12_tick 238 = .ok (.iaload, 1) := by decide +kernel
theorem dX12_tick_239 : decode cX12_tick 239 = .ok (.invokestatic 174, 3) := by decide +kernel
theorem dX12_tick_242 : decode cX12_tick 242 = .ok (.iload_n 2, 1) := by decide +kernel
theorem dX12_tick_243 : decode cX12_tick 243 = .ok (.aload_n 0, 1) := by decide +kernel
theorem dX12_tick_244 : decode cX12_tick 244 = .ok (.getfield 34, 3) := by decide +kernel
theorem dX12_tick_247 : decode cX12_tick 247 = .ok (.iload 4, 2) := by decide +kernel
theorem dX12_tick_249 : decode cX12_tick 249 = .ok (.iaload, 1) := by decide +kernel
theorem dX12_tick_250 : decode cX12_tick 250 = .ok (.invokestatic 177, 3) := by decide +kernel
theorem dX12_tick_253 : decode cX12_tick 253 = .ok (.istore 8, 2) := by decide +kernel
theorem dX12_tick_255 : decode cX12_tick 255 = .ok (.aload_n 0, 1) := by decide +kernel
theorem dX12_tick_256 : decode cX12_tick 256 = .ok (.getfield 40, 3) := by decide +kernel
theorem dX12_tick_259 : decode cX12_tick 259 = .ok (.iload 5, 2) := by decide +kernel
theorem dX12_tick_261 : decode cX12_tick 261 = .ok (.iload 8, 2) := by decide +kernel
theorem dX12_tick_263 : decode cX12_tick 263 = .ok (.sipush 9999, 3) := by decide +kernel
theorem dX12_tick_266 : decode cX12_tick 266 = .ok (.invokestatic 180, 3) := by decide +kernel
theorem dX12_tick_269 : decode cX12_tick 269 = .ok (.iastore, 1) := by decide +kernel
theorem dX12_tick_270 : decode cX12_tick 270 = .ok (.aload_n 0, 1) := by decide +kernel
theorem dX12_tick_271 : decode cX12_tick 271 = .ok (.getfield 37, 3) := by decide +kernel
theorem dX12_tick_274 : decode cX12_tick 274 = .ok (.iload 5, 2) := by decide +kernel
theorem dX12_tick_276 : decode cX12_tick 276 = .ok (.aload_n 0, 1) := by decide +kernel
theorem dX12_tick_277 : decode cX12_tick 277 = .ok (.getfield 37, 3) := by decide +kernel
theorem dX12_tick_280 : decode cX12_tick 280 = .ok (.iload 5, 2) := by decide +kernel
theorem dX12_tick_282 : decode cX12_tick 282 = .ok (.iaload, 1) := by decide +kernel
theorem dX12_tick_283 : decode cX12_tick 283 = .ok (.aload_n 0, 1) := by decide +kernel
theorem dX12_tick_284 : decode cX12_tick 284 = .ok (.getfield 40, 3) := by decide +kernel
theorem dX12_tick_287 : decode cX12_tick 287 = .ok (.iload 5, 2) := by decide +kernel
theorem dX12_tick_289 : decode cX12_tick 289 = .ok (.iaload, 1) := by decide +kernel
theorem dX12_tick_290 : decode cX12_tick 290 = .ok (.iadd, 1) := by decide +kernel
theorem dX12_tick_291 : decode cX12_tick 291 = .ok (.invokestatic 167, 3) := by decide +kernel
theorem dX12_tick_294 : decode cX12_tick 294 = .ok (.iastore, 1) := by decide +kernel
theorem dX12_tick_295 : decode cX12_tick 295 = .ok (.iinc 4 1, 3) := by decide +kernel
theorem dX12_tick_298 : decode cX12_tick 298 = .ok (.goto (-219), 3) := by decide +kernel
theorem dX12_tick_301 : decode cX12_tick 301 = .ok (.aload_n 0, 1) := by decide +kernel
theorem dX12_tick_302 : decode cX12_tick 302 = .ok (.getfield 16, 3) := by decide +kernel
theorem dX12_tick_305 : decode cX12_tick 305 = .ok (.iload_n 1, 1) := by decide +kernel
theorem dX12_tick_306 : decode cX12_tick 306 = .ok (.dup2, 1) := by decide +kernel
theorem dX12_tick_307 : decode cX12_tick 307 = .ok (.iaload, 1) := by decide +kernel
theorem dX12_tick_308 : decode cX12_tick 308 = .ok (.iconst 1, 1) := by decide +kernel
theorem dX12_tick_309 : decode cX12_tick 309 = .ok (.iadd, 1) := by decide +kernel
theorem dX12_tick_310 : decode cX12_tick 310 = .ok (.iastore, 1) := by decide +kernel
theorem dX12_tick_311 : decode cX12_tick 311 = .ok (.return_, 1) := by decide +kernel
theorem dX12_steer_0 : decode cX12_steer 0 = .ok (.aload_n 0, 1) := by decide +kernel
theorem dX12_steer_1 : decode cX12_steer 1 = .ok (.getfield 16, 3) := by decide +kernel
theorem dX12_steer_4 : decode cX12_steer 4 = .ok (.iload_n 1, 1) := by decide +kernel
theorem dX12_steer_5 : decode cX12_steer 5 = .ok (.iaload, 1) := by decide +kernel
theorem dX12_steer_6 : decode cX12_steer 6 = .ok (.aload_n 0, 1) := by decide +kernel
theorem dX12_steer_7 : decode cX12_steer 7 = .ok (.getfield 55, 3) := by decide +kernel
theorem dX12_steer_10 : decode cX12_steer 10 = .ok (.iconst 4, 1) := by decide +kernel
theorem dX12_steer_11 : decode cX12_steer 11 = .ok (.iaload, 1) := by decide +kernel
theorem dX12_steer_12 : decode cX12_steer 12 = .ok (.irem, 1) := by decide +kernel
theorem dX12_steer_13 : decode cX12_steer 13 = .ok (.ifCond .eq 4, 3) := by decide +kernel
theorem dX12_steer_16 : decode cX12_steer 16 = .ok (.return_, 1) := by decide +kernel
theorem dX12_steer_17 : decode cX12_steer 17 = .ok (.aload_n 0, 1) := by decide +kernel
theorem dX12_steer_18 : decode cX12_steer 18 = .ok (.iload_n 1, 1) := by decide +kernel
theorem dX12_steer_19 : decode cX12_steer 19 = .ok (.aload_n 0, 1) := by decide +kernel
theorem dX12_steer_20 : decode cX12_steer 20 = .ok (.getfield 55, 3) := by decide +kernel
theorem dX12_steer_23 : decode cX12_steer 23 = .ok (.iconst 5, 1) := by decide +kernel
theorem dX12_steer_24 : decode cX12_steer 24 = .ok (.iaload, 1) := by decide +kernel
theorem dX12_steer_25 : decode cX12_steer 25 = .ok (.invokevirtual 161, 3) := by decide +kernel
theorem dX12_steer_28 : decode cX12_steer 28 = .ok (.istore_n 3, 1) := by decide +kernel
theorem dX12_steer_29 : decode cX12_steer 29 = .ok (.aload_n 0, 1) := by decide +kernel
theorem dX12_steer_30 : decode cX12_steer 30 = .ok (.getfield 183, 3) := by decide +kernel
theorem dX12_steer_33 : decode cX12_steer 33 = .ok (.iload_n 3, 1) := by decide +kernel
theorem dX12_steer_34 : decode cX12_steer 34 = .ok (.isub, 1) := by decide +kernel
theorem dX12_steer_35 : decode cX12_steer 35 = .ok (.invokestatic 167, 3) := by decide +kernel
theorem dX12_steer_38 : decode cX12_steer 38 = .ok (.istore 4, 2) := by decide +kernel
theorem dX12_steer_40 : decode cX12_steer 40 = .ok (.aload_n 0, 1) := by decide +kernel
theorem dX12_steer_41 : decode cX12_steer 41 = .ok (.getfield 19, 3) := by decide +kernel
theorem dX12_steer_44 : decode cX12_steer 44 = .ok (.iload_n 1, 1) := by decide +kernel
theorem dX12_steer_45 : decode cX12_steer 45 = .ok (.iaload, 1) := by decide +kernel
theorem dX12_steer_46 : decode cX12_steer 46 = .ok (.iconst (-1), 1) := by decide +kernel
theorem dX12_steer_47 : decode cX12_steer 47 = .ok (.if_icmp .ne 7, 3) := by decide +kernel
theorem dX12_steer_50 : decode cX12_steer 50 = .ok (.iconst 0, 1) := by decide +kernel
theorem dX12_steer_51 : decode cX12_steer 51 = .ok (.goto 14, 3) := by decide +kernel
theorem dX12_steer_54 : decode cX12_steer 54 = .ok (.iload_n 3, 1) := by decide +kernel
theorem dX12_steer_55 : decode cX12_steer 55 = .ok (.aload_n 0, 1) := by decide +kernel
theorem dX12_steer_56 : decode cX12_steer 56 = .ok (.getfield 19, 3) := by decide +kernel
theorem dX12_steer_59 : decode cX12_steer 59 = .ok (.iload_n 1, 1) := by decide +kernel
theorem dX12_steer_60 : decode cX12_steer 60 = .ok (.iaload, 1) := by decide +kernel
theorem dX12_steer_61 : decode cX12_steer 61 = .ok (.isub, 1) := by decide +kernel
theorem dX12_steer_62 : decode cX12_steer 62 = .ok (.invokestatic 167, 3) := by decide +kernel
theorem dX12_steer_65 : decode cX12_steer 65 = .ok (.istore 5, 2) := by decide +kernel
theorem dX12_steer_67 : decode cX12_steer 67 = .ok (.aload_n 0, 1) := by decide +kernel
theorem dX12_steer_68 : decode cX12_steer 68 = .ok (.getfield 19, 3) := by decide +kernel
theorem dX12_steer_71 : decode cX12_steer 71 = .ok (.iload_n 1, 1) := by decide +kernel
theorem dX12_steer_72 : decode cX12_steer 72 = .ok (.iload_n 3, 1) := by decide +kernel
theorem dX12_steer_73 : decode cX12_steer 73 = .ok (.iastore, 1) := by decide +kernel
theorem dX12_steer_74 : decode cX12_steer 74 = .ok (.aload_n 0, 1) := by decide +kernel
theorem dX12_steer_75 : decode cX12_steer 75 = .ok (.getfield 7, 3) := by decide +kernel
theorem dX12_steer_78 : decode cX12_steer 78 = .ok (.iconst 4, 1) := by decide +kernel
theorem dX12_steer_79 : decode cX12_steer 79 = .ok (.iload_n 1, 1) := by decide +kernel
theorem dX12_steer_80 : decode cX12_steer 80 = .ok (.imul, 1) := by decide +kernel
theorem dX12_steer_81 : decode cX12_steer 81 = .ok (.iconst 3, 1) := by decide +kernel
theorem dX12_steer_82 : decode cX12_steer 82 = .ok (.iadd, 1) := by decide +kernel
theorem dX12_steer_83 : decode cX12_steer 83 = .ok (.iload 4, 2) := by decide +kernel
theorem dX12_steer_85 : decode cX12_steer 85 = .ok (.invokestatic 96, 3) := by decide +kernel
theorem dX12_steer_88 : decode cX12_steer 88 = .ok (.bipush 10, 2) := by decide +kernel
theorem dX12_steer_90 : decode cX12_steer 90 = .ok (.iload_n 2, 1) := by decide +kernel
theorem dX12_steer_91 : decode cX12_steer 91 = .ok (.imul, 1) := by decide +kernel
theorem dX12_steer_92 : decode cX12_steer 92 = .ok (.if_icmp .gt 7, 3) := by decide +kernel
theorem dX12_steer_95 : decode cX12_steer 95 = .ok (.iconst 0, 1) := by decide +kernel
theorem dX12_steer_96 : decode cX12_steer 96 = .ok (.goto 39, 3) := by decide +kernel
theorem dX12_steer_99 : decode cX12_steer 99 = .ok (.iload 4, 2) := by decide +kernel
theorem dX12_steer_101 : decode cX12_steer 101 = .ok (.aload_n 0, 1) := by decide +kernel
theorem dX12_steer_102 : decode cX12_steer 102 = .ok (.getfield 55, 3) := by decide +kernel
theorem dX12_steer_105 : decode cX12_steer 105 = .ok (.iconst 1, 1) := by decide +kernel
theorem dX12_steer_106 : decode cX12_steer 106 = .ok (.iaload, 1) := by decide +kernel
theorem dX12_steer_107 : decode cX12_steer 107 = .ok (.imul, 1) := by decide +kernel
theorem dX12_steer_108 : decode cX12_steer 108 = .ok (.sipush 10000, 3) := by decide +kernel
theorem dX12_steer_111 : decode cX12_steer 111 = .ok (.idiv, 1) := by decide +kernel
theorem dX12_steer_112 : decode cX12_steer 112 = .ok (.iload 5, 2) := by decide +kernel
theorem dX12_steer_114 : decode cX12_steer 114 = .ok (.aload_n 0, 1) := by decide +kernel
theorem dX12_steer_115 : decode cX12_steer 115 = .ok (.getfield 55, 3) := by decide +kernel
theorem dX12_steer_118 : decode cX12_steer 118 = .ok (.iconst 2, 1) := by decide +kernel
theorem dX12_steer_119 : decode cX12_steer 119 = .ok (.iaload, 1) := by decide +kernel
theorem dX12_steer_120 : decode cX12_steer 120 = .ok (.imul, 1) := by decide +kernel
theorem dX12_steer_121 : decode cX12_steer 121 = .ok (.sipush 10000, 3) := by decide +kernel
theorem dX12_steer_124 : decode cX12_steer 124 = .ok (.idiv, 1) := by decide +kernel
theorem dX12_steer_125 : decode cX12_steer 125 = .ok (.isub, 1) := by decide +kernel
theorem dX12_steer_126 : decode cX12_steer 126 = .ok (.aload_n 0, 1) := by decide +kernel
theorem dX12_steer_127 : decode cX12_steer 127 = .ok (.getfield 55, 3) := by decide +kernel
theorem dX12_steer_130 : decode cX12_steer 130 = .ok (.iconst 3, 1) := by decide +kernel
theorem dX12_steer_131 : decode cX12_steer 131 = .ok (.iaload, 1) := by decide +kernel
theorem dX12_steer_132 : decode cX12_steer 132 = .ok (.invokestatic 180, 3) := by decide +kernel
theorem dX12_steer_135 : decode cX12_steer 135 = .ok (.iastore, 1) := by decide +kernel
theorem dX12_steer_136 : decode cX12_steer 136 = .ok (.return_, 1) := by decide +kernel
theorem dX12_run_0 : decode cX12_run 0 = .ok (.iload_n 1, 1) := by decide +kernel
theorem dX12_run_1 : decode cX12_run 1 = .ok (.i2l, 1) := by decide +kernel
theorem dX12_run_2 : decode cX12_run 2 = .ok (.lconst 1, 1) := by decide +kernel
theorem dX12_run_3 : decode cX12_run 3 = .ok (.ldc2_w 186, 3) := by decide +kernel
theorem dX12_run_6 : decode cX12_run 6 = .ok (.invokestatic 87, 3) := by decide +kernel
theorem dX12_run_9 : decode cX12_run 9 = .ok (.ifCond .eq 17, 3) := by decide +kernel
theorem dX12_run_12 : decode cX12_run 12 = .ok (.aload_n 0, 1) := by decide +kernel
theorem dX12_run_13 : decode cX12_run 13 = .ok (.getfield 16, 3) := by decide +kernel
theorem dX12_run_16 : decode cX12_run 16 = .ok (.iconst 0, 1) := by decide +kernel
theorem dX12_run_17 : decode cX12_run 17 = .ok (.iaload, 1) := by decide +kernel
theorem dX12_run_18 : decode cX12_run 18 = .ok (.iload_n 1, 1) := by decide +kernel
theorem dX12_run_19 : decode cX12_run 19 = .ok (.iadd, 1) := by decide +kernel
theorem dX12_run_20 : decode cX12_run 20 = .ok (.sipush 5000, 3) := by decide +kernel
theorem dX12_run_23 : decode cX12_run 23 = .ok (.if_icmp .le 6, 3) := by decide +kernel
theorem dX12_run_26 : decode cX12_run 26 = .ok (.bipush (-3), 2) := by decide +kernel
theorem dX12_run_28 : decode cX12_run 28 = .ok (.ireturn, 1) := by decide +kernel
theorem dX12_run_29 : decode cX12_run 29 = .ok (.iconst 0, 1) := by decide +kernel
theorem dX12_run_30 : decode cX12_run 30 = .ok (.istore_n 3, 1) := by decide +kernel
theorem dX12_run_31 : decode cX12_run 31 = .ok (.iload_n 3, 1) := by decide +kernel
theorem dX12_run_32 : decode cX12_run 32 = .ok (.iload_n 1, 1) := by decide +kernel
theorem dX12_run_33 : decode cX12_run 33 = .ok (.if_icmp .ge 29, 3) := by decide +kernel
theorem dX12_run_36 : decode cX12_run 36 = .ok (.iload_n 2, 1) := by decide +kernel
theorem dX12_run_37 : decode cX12_run 37 = .ok (.ifCond .eq 14, 3) := by decide +kernel
theorem dX12_run_40 : decode cX12_run 40 = .ok (.aload_n 0, 1) := by decide +kernel
theorem dX12_run_41 : decode cX12_run 41 = .ok (.iconst 0, 1) := by decide +kernel
theorem dX12_run_42 : decode cX12_run 42 = .ok (.aload_n 0, 1) := by decide +kernel
theorem dX12_run_43 : decode cX12_run 43 = .ok (.getfield 55, 3) := by decide +kernel
theorem dX12_run_46 : decode cX12_run 46 = .ok (.iconst 0, 1) := by decide +kernel
theorem dX12_run_47 : decode cX12_run 47 = .ok (.iaload, 1) := by decide +kernel
theorem dX12_run_48 : decode cX12_run 48 = .ok (.invokevirtual 188, 3) := by decide +kernel
theorem dX12_run_51 : decode cX12_run 51 = .ok (.aload_n 0, 1) := by decide +kernel
theorem dX12_run_52 : decode cX12_run 52 = .ok (.iconst 0, 1) := by decide +kernel
theorem dX12_run_53 : decode cX12_run 53 = .ok (.invokevirtual 192, 3) := by decide +kernel
theorem dX12_run_56 : decode cX12_run 56 = .ok (.iinc 3 1, 3) := by decide +kernel
theorem dX12_run_59 : decode cX12_run 59 = .ok (.goto (-28), 3) := by decide +kernel
theorem dX12_run_62 : decode cX12_run 62 = .ok (.aload_n 0, 1) := by decide +kernel
theorem dX12_run_63 : decode cX12_run 63 = .ok (.getfield 13, 3) := by decide +kernel
theorem dX12_run_66 : decode cX12_run 66 = .ok (.iconst 0, 1) := by decide +kernel
theorem dX12_run_67 : decode cX12_run 67 = .ok (.iaload, 1) := by decide +kernel
theorem dX12_run_68 : decode cX12_run 68 = .ok (.ireturn, 1) := by decide +kernel
theorem dX12_write_0 : decode cX12_write 0 = .ok (.iload_n 3, 1) := by decide +kernel
theorem dX12_write_1 : decode cX12_write 1 = .ok (.i2l, 1) := by decide +kernel
theorem dX12_write_2 : decode cX12_write 2 = .ok (.lconst 1, 1) := by decide +kernel
theorem dX12_write_3 : decode cX12_write 3 = .ok (.ldc2_w 196, 3) := by decide +kernel
theorem dX12_write_6 : decode cX12_write 6 = .ok (.invokestatic 87, 3) := by decide +kernel
theorem dX12_write_9 : decode cX12_write 9 = .ok (.ifCond .ne 6, 3) := by decide +kernel
theorem dX12_write_12 : decode cX12_write 12 = .ok (.bipush (-3), 2) := by decide +kernel
theorem dX12_write_14 : decode cX12_write 14 = .ok (.ireturn, 1) := by decide +kernel
theorem dX12_write_15 : decode cX12_write 15 = .ok (.aload_n 0, 1) := by decide +kernel
theorem dX12_write_16 : decode cX12_write 16 = .ok (.getfield 198, 3) := by decide +kernel
theorem dX12_write_19 : decode cX12_write 19 = .ok (.iload_n 3, 1) := by decide +kernel
theorem dX12_write_20 : decode cX12_write 20 = .ok (.iadd, 1) := by decide +kernel
theorem dX12_write_21 : decode cX12_write 21 = .ok (.sipush 160, 3) := by decide +kernel
theorem dX12_write_24 : decode cX12_write 24 = .ok (.if_icmp .le 6, 3) := by decide +kernel
theorem dX12_write_27 : decode cX12_write 27 = .ok (.bipush (-5), 2) := by decide +kernel
theorem dX12_write_29 : decode cX12_write 29 = .ok (.ireturn, 1) := by decide +kernel
theorem dX12_write_30 : decode cX12_write 30 = .ok (.iconst 0, 1) := by decide +kernel
theorem dX12_write_31 : decode cX12_write 31 = .ok (.istore 4, 2) := by decide +kernel
theorem dX12_write_33 : decode cX12_write 33 = .ok (.iload 4, 2) := by decide +kernel
theorem dX12_write_35 : decode cX12_write 35 = .ok (.iload_n 3, 1) := by decide +kernel
theorem dX12_write_36 : decode cX12_write 36 = .ok (.if_icmp .ge 40, 3) := by decide +kernel
theorem dX12_write_39 : decode cX12_write 39 = .ok (.aload_n 0, 1) := by decide +kernel
theorem dX12_write_40 : decode cX12_write 40 = .ok (.getfield 52, 3) := by decide +kernel
theorem dX12_write_43 : decode cX12_write 43 = .ok (.aload_n 0, 1) := by decide +kernel
theorem dX12_write_44 : decode cX12_write 44 = .ok (.getfield 198, 3) := by decide +kernel
theorem dX12_write_47 : decode cX12_write 47 = .ok (.lload_n 1, 1) := by decide +kernel
theorem dX12_write_48 : decode cX12_write 48 = .ok (.bipush 8, 2) := by decide +kernel
theorem dX12_write_50 : decode cX12_write 50 = .ok (.iload 4, 2) := by decide +kernel
theorem dX12_write_52 : decode cX12_write 52 = .ok (.imul, 1) := by decide +kernel
theorem dX12_write_53 : decode cX12_write 53 = .ok (.lshr, 1) := by decide +kernel
theorem dX12_write_54 : decode cX12_write 54 = .ok (.ldc2_w 201, 3) := by decide +kernel
theorem dX12_write_57 : decode cX12_write 57 = .ok (.land, 1) := by decide +kernel
theorem dX12_write_58 : decode cX12_write 58 = .ok (.l2i, 1) := by decide +kernel
theorem dX12_write_59 : decode cX12_write 59 = .ok (.iastore, 1) := by decide +kernel
theorem dX12_write_60 : decode cX12_write 60 = .ok (.aload_n 0, 1) := by decide +kernel
theorem dX12_write_61 : decode cX12_write 61 = .ok (.dup, 1) := by decide +kernel
theorem dX12_write_62 : decode cX12_write 62 = .ok (.getfield 198, 3) := by decide +kernel
theorem dX12_write_65 : decode cX12_write 65 = .ok (.iconst 1, 1) := by decide +kernel
theorem dX12_write_66 : decode cX12_write 66 = .ok (.iadd, 1) := by decide +kernel
theorem dX12_write_67 : decode cX12_write 67 = .ok (.putfield 198, 3) := by decide +kernel
theorem dX12_write_70 : decode cX12_write 70 = .ok (.iinc 4 1, 3) := by decide +kernel
theorem dX12_write_73 : decode cX12_write 73 = .ok (.goto (-40), 3) := by decide +kernel
theorem dX12_write_76 : decode cX12_write 76 = .ok (.aload_n 0, 1) := by decide +kernel
theorem dX12_write_77 : decode cX12_write 77 = .ok (.getfield 198, 3) := by decide +kernel
theorem dX12_write_80 : decode cX12_write 80 = .ok (.ireturn, 1) := by decide +kernel
theorem dX12_erase_0 : decode cX12_erase 0 = .ok (.aload_n 0, 1) := by decide +kernel
theorem dX12_erase_1 : decode cX12_erase 1 = .ok (.getfield 198, 3) := by decide +kernel
theorem dX12_erase_4 : decode cX12_erase 4 = .ok (.istore_n 1, 1) := by decide +kernel
theorem dX12_erase_5 : decode cX12_erase 5 = .ok (.aload_n 0, 1) := by decide +kernel
theorem dX12_erase_6 : decode cX12_erase 6 = .ok (.iconst 0, 1) := by decide +kernel
theorem dX12_erase_7 : decode cX12_erase 7 = .ok (.putfield 198, 3) := by decide +kernel
theorem dX12_erase_10 : decode cX12_erase 10 = .ok (.iload_n 1, 1) := by decide +kernel
theorem dX12_erase_11 : decode cX12_erase 11 = .ok (.ireturn, 1) := by decide +kernel
theorem dX12_sort_0 : decode cX12_sort 0 = .ok (.iload_n 0, 1) := by decide +kernel
theorem dX12_sort_1 : decode cX12_sort 1 = .ok (.bipush 97, 2) := by decide +kernel
theorem dX12_sort_3 : decode cX12_sort 3 = .ok (.if_icmp .lt 13, 3) := by decide +kernel
theorem dX12_sort_6 : decode cX12_sort 6 = .ok (.iload_n 0, 1) := by decide +kernel
theorem dX12_sort_7 : decode cX12_sort 7 = .ok (.bipush 122, 2) := by decide +kernel
theorem dX12_sort_9 : decode cX12_sort 9 = .ok (.if_icmp .gt 7, 3) := by decide +kernel
theorem dX12_sort_12 : decode cX12_sort 12 = .ok (.iconst 1, 1) := by decide +kernel
theorem dX12_sort_13 : decode cX12_sort 13 = .ok (.goto 20, 3) := by decide +kernel
theorem dX12_sort_16 : decode cX12_sort 16 = .ok (.iload_n 0, 1) := by decide +kernel
theorem dX12_sort_17 : decode cX12_sort 17 = .ok (.bipush 48, 2) := by decide +kernel
theorem dX12_sort_19 : decode cX12_sort 19 = .ok (.if_icmp .lt 13, 3) := by decide +kernel
theorem dX12_sort_22 : decode cX12_sort 22 = .ok (.iload_n 0, 1) := by decide +kernel
theorem dX12_sort_23 : decode cX12_sort 23 = .ok (.bipush 57, 2) := by decide +kernel
theorem dX12_sort_25 : decode cX12_sort 25 = .ok (.if_icmp .gt 7, 3) := by decide +kernel
theorem dX12_sort_28 : decode cX12_sort 28 = .ok (.iconst 2, 1) := by decide +kernel
theorem dX12_sort_29 : decode cX12_sort 29 = .ok (.goto 4, 3) := by decide +kernel
theorem dX12_sort_32 : decode cX12_sort 32 = .ok (.iconst 0, 1) := by decide +kernel
theorem dX12_sort_33 : decode cX12_sort 33 = .ok (.ireturn, 1) := by decide +kernel
theorem dX12_token_0 : decode cX12_token 0 = .ok (.aload_n 0, 1) := by decide +kernel
theorem dX12_token_1 : decode cX12_token 1 = .ok (.getfield 203, 3) := by decide +kernel
theorem dX12_token_4 : decode cX12_token 4 = .ok (.aload_n 0, 1) := by decide +kernel
theorem dX12_token_5 : decode cX12_token 5 = .ok (.getfield 198, 3) := by decide +kernel
theorem dX12_token_8 : decode cX12_token 8 = .ok (.if_icmp .ge 30, 3) := by decide +kernel
theorem dX12_token_11 : decode cX12_token 11 = .ok (.aload_n 0, 1) := by decide +kernel
theorem dX12_token_12 : decode cX12_token 12 = .ok (.getfield 52, 3) := by decide +kernel
theorem dX12_token_15 : decode cX12_token 15 = .ok (.aload_n 0, 1) := by decide +kernel
theorem dX12_token_16 : decode cX12_token 16 = .ok (.getfield 203, 3) := by decide +kernel
theorem dX12_token_19 : decode cX12_token 19 = .ok (.iaload, 1) := by decide +kernel
theorem dX12_token_20 : decode cX12_token 20 = .ok (.bipush 32, 2) := by decide +kernel
theorem dX12_token_22 : decode cX12_token 22 = .ok (.if_icmp .ne 16, 3) := by decide +kernel
theorem dX12_token_25 : decode cX12_token 25 = .ok (.aload_n 0, 1) := by decide +kernel
theorem dX12_token_26 : decode cX12_token 26 = .ok (.dup, 1) := by decide +kernel
theorem dX12_token_27 : decode cX12_token 27 = .ok (.getfield 203, 3) := by decide +kernel
theorem dX12_token_30 : decode cX12_token 30 = .ok (.iconst 1, 1) := by decide +kernel
theorem dX12_token_31 : decode cX12_token 31 = .ok (.iadd, 1) := by decide +kernel
theorem dX12_token_32 : decode cX12_token 32 = .ok (.putfield 203, 3) := by decide +kernel
theorem dX12_token_35 : decode cX12_token 35 = .ok (.goto (-35), 3) := by decide +kernel
theorem dX12_token_38 : decode cX12_token 38 = .ok (.aload_n 0, 1) := by decide +kernel
theorem dX12_token_39 : decode cX12_token 39 = .ok (.aload_n 0, 1) := by decide +kernel
theorem dX12_token_40 : decode cX12_token 40 = .ok (.getfield 203, 3) := by decide +kernel
theorem dX12_token_43 : decode cX12_token 43 = .ok (.putfield 206, 3) := by decide +kernel
theorem dX12_token_46 : decode cX12_token 46 = .ok (.aload_n 0, 1) := by decide +kernel
theorem dX12_token_47 : decode cX12_token 47 = .ok (.dup, 1) := by decide +kernel
theorem dX12_token_48 : decode cX12_token 48 = .ok (.getfield 203, 3) := by decide +kernel
theorem dX12_token_51 : decode cX12_token 51 = .ok (.aload_n 0, 1) := by decide +kernel
theorem dX12_token_52 : decode cX12_token 52 = .ok (.getfield 203, 3) := by decide +kernel
theorem dX12_token_55 : decode cX12_token 55 = .ok (.aload_n 0, 1) := by decide +kernel
theorem dX12_token_56 : decode cX12_token 56 = .ok (.getfield 198, 3) := by decide +kernel
theorem dX12_token_59 : decode cX12_token 59 = .ok (.if_icmp .ge 7, 3) := by decide +kernel
theorem dX12_token_62 : decode cX12_token 62 = .ok (.iconst 1, 1) := by decide +kernel
theorem dX12_token_63 : decode cX12_token 63 = .ok (.goto 4, 3) := by decide +kernel
theorem dX12_token_66 : decode cX12_token 66 = .ok (.iconst 0, 1) := by decide +kernel
theorem dX12_token_67 : decode cX12_token 67 = .ok (.iadd, 1) := by decide +kernel
theorem dX12_token_68 : decode cX12_token 68 = .ok (.putfield 203, 3) := by decide +kernel
theorem dX12_token_71 : decode cX12_token 71 = .ok (.aload_n 0, 1) := by decide +kernel
theorem dX12_token_72 : decode cX12_token 72 = .ok (.getfield 203, 3) := by decide +kernel
theorem dX12_token_75 : decode cX12_token 75 = .ok (.aload_n 0, 1) := by decide +kernel
theorem dX12_token_76 : decode cX12_token 76 = .ok (.getfield 198, 3) := by decide +kernel
theorem dX12_token_79 : decode cX12_token 79 = .ok (.if_icmp .ge 58, 3) := by decide +kernel
theorem dX12_token_82 : decode cX12_token 82 = .ok (.aload_n 0, 1) := by decide +kernel
theorem dX12_token_83 : decode cX12_token 83 = .ok (.getfield 52, 3) := by decide +kernel
theorem dX12_token_86 : decode cX12_token 86 = .ok (.aload_n 0, 1) := by decide +kernel
theorem dX12_token_87 : decode cX12_token 87 = .ok (.getfield 206, 3) := by decide +kernel
theorem dX12_token_90 : decode cX12_token 90 = .ok (.iaload, 1) := by decide +kernel
theorem dX12_token_91 : decode cX12_token 91 = .ok (.invokestatic 209, 3) := by decide +kernel
theorem dX12_token_94 : decode cX12_token 94 = .ok (.ifCond .le 43, 3) := by decide +kernel
theorem dX12_token_97 : decode cX12_token 97 = .ok (.aload_n 0, 1) := by decide +kernel
theorem dX12_token_98 : decode cX12_token 98 = .ok (.getfield 52, 3) := by decide +kernel
theorem dX12_token_101 : decode cX12_token 101 = .ok (.aload_n 0, 1) := by decide +kernel
theorem dX12_token_102 : decode cX12_token 102 = .ok (.getfield 203, 3) := by decide +kernel
theorem dX12_token_105 : decode cX12_token 105 = .ok (.iaload, 1) := by decide +kernel
theorem dX12_token_106 : decode cX12_token 106 = .ok (.invokestatic 209, 3) := by decide +kernel
theorem dX12_token_109 : decode cX12_token 109 = .ok (.aload_n 0, 1) := by decide +kernel
theorem dX12_token_110 : decode cX12_token 110 = .ok (.getfield 52, 3) := by decide +kernel
theorem dX12_token_113 : decode cX12_token 113 = .ok (.aload_n 0, 1) := by decide +kernel
theorem dX12_token_114 : decode cX12_token 114 = .ok (.getfield 206, 3) := by decide +kernel
theorem dX12_token_117 : decode cX12_token 117 = .ok (.iaload, 1) := by decide +kernel
theorem dX12_token_118 : decode cX12_token 118 = .ok (.invokestatic 209, 3) := by decide +kernel
theorem dX12_token_121 : decode cX12_token 121 = .ok (.if_icmp .ne 16, 3) := by decide +kernel
theorem dX12_token_124 : decode cX12_token 124 = .ok (.aload_n 0, 1) := by decide +kernel
theorem dX12_token_125 : decode cX12_token 125 = .ok (.dup, 1) := by decide +kernel
theorem dX12_token_126 : decode cX12_token 126 = .ok (.getfield 203, 3) := by decide +kernel
theorem dX12_token_129 : decode cX12_token 129 = .ok (.iconst 1, 1) := by decide +kernel
theorem dX12_token_130 : decode cX12_token 130 = .ok (.iadd, 1) := by decide +kernel
theorem dX12_token_131 : decode cX12_token 131 = .ok (.putfield 203, 3) := by decide +kernel
theorem dX12_token_134 : decode cX12_token 134 = .ok (.goto (-63), 3) := by decide +kernel
theorem dX12_token_137 : decode cX12_token 137 = .ok (.aload_n 0, 1) := by decide +kernel
theorem dX12_token_138 : decode cX12_token 138 = .ok (.aload_n 0, 1) := by decide +kernel
theorem dX12_token_139 : decode cX12_token 139 = .ok (.getfield 203, 3) := by decide +kernel
theorem dX12_token_142 : decode cX12_token 142 = .ok (.putfield 212, 3) := by decide +kernel
theorem dX12_token_145 : decode cX12_token 145 = .ok (.return_, 1) := by decide +kernel
theorem dX12_isWord_0 : decode cX12_isWord 0 = .ok (.aload_n 0, 1) := by decide +kernel
theorem dX12_isWord_1 : decode cX12_isWord 1 = .ok (.getfield 212, 3) := by decide +kernel
theorem dX12_isWord_4 : decode cX12_isWord 4 = .ok (.aload_n 0, 1) := by decide +kernel
theorem dX12_isWord_5 : decode cX12_isWord 5 = .ok (.getfield 206, 3) := by decide +kernel
theorem dX12_isWord_8 : decode cX12_isWord 8 = .ok (.isub, 1) := by decide +kernel
theorem dX12_isWord_9 : decode cX12_isWord 9 = .ok (.iload_n 2, 1) := by decide +kernel
theorem dX12_isWord_10 : decode cX12_isWord 10 = .ok (.if_icmp .ne 7, 3) := by decide +kernel
theorem dX12_isWord_13 : decode cX12_isWord 13 = .ok (.iconst 1, 1) := by decide +kernel
theorem dX12_isWord_14 : decode cX12_isWord 14 = .ok (.goto 4, 3) := by decide +kernel
theorem dX12_isWord_17 : decode cX12_isWord 17 = .ok (.iconst 0, 1) := by decide +kernel
theorem dX12_isWord_18 : decode cX12_isWord 18 = .ok (.istore_n 3, 1) := by decide +kernel
theorem dX12_isWord_19 : decode cX12_isWord 19 = .ok (.iconst 0, 1) := by decide +kernel
theorem dX12_isWord_20 : decode cX12_isWord 20 = .ok (.istore 4, 2) := by decide +kernel
theorem dX12_isWord_22 : decode cX12_isWord 22 = .ok (.iload_n 3, 1) := by decide +kernel
theorem dX12_isWord_23 : decode cX12_isWord 23 = .ok (.ifCond .eq 48, 3) := by decide +kernel
theorem dX12_isWord_26 : decode cX12_isWord 26 = .ok (.iload 4, 2) := by decide +kernel
theorem dX12_isWord_28 : decode cX12_isWord 28 = .ok (.iload_n 2, 1) := by decide +kernel
theorem dX12_isWord_29 : decode cX12_isWord 29 = .ok (.if_icmp .ge 42, 3) := by decide +kernel
theorem dX12_isWord_32 : decode cX12_isWord 32 = .ok (.aload_n 0, 1) := by decide +kernel
theorem dX12_isWord_33 : decode cX12_isWord 33 = .ok (.getfield 52, 3) := by decide +kernel
theorem dX12_isWord_36 : decode cX12_isWord 36 = .ok (.aload_n 0, 1) := by decide +kernel
theorem dX12_isWord_37 : decode cX12_isWord 37 = .ok (.getfield 206, 3) := by decide +kernel
theorem dX12_isWord_40 : decode cX12_isWord 40 = .ok (.iload 4, 2) := by decide +kernel
theorem dX12_isWord_42 : decode cX12_isWord 42 = .ok (.iadd, 1) := by decide +kernel
theorem dX12_isWord_43 : decode cX12_isWord 43 = .ok (.iaload, 1) := by decide +kernel
theorem dX12_isWord_44 : decode cX12_isWord 44 = .ok (.bipush 96, 2) := by decide +kernel
theorem dX12_isWord_46 : decode cX12_isWord 46 = .ok (.iload_n 1, 1) := by decide +kernel
theorem dX12_isWord_47 : decode cX12_isWord 47 = .ok (.iconst 5, 1) := by decide +kernel
theorem dX12_isWord_48 : decode cX12_isWord 48 = .ok (.iload 4, 2) := by decide +kernel
theorem dX12_isWord_50 : decode cX12_isWord 50 = .ok (.imul, 1) := by decide +kernel
theorem dX12_isWord_51 : decode cX12_isWord 51 = .ok (.ishr, 1) := by decide +kernel
theorem dX12_isWord_52 : decode cX12_isWord 52 = .ok (.bipush 31, 2) := by decide +kernel
theorem dX12_isWord_54 : decode cX12_isWord 54 = .ok (.iand, 1) := by decide +kernel
theorem dX12_isWord_55 : decode cX12_isWord 55 = .ok (.iadd, 1) := by decide +kernel
theorem dX12_isWord_56 : decode cX12_isWord 56 = .ok (.if_icmp .ne 7, 3) := by decide +kernel
theorem dX12_isWord_59 : decode cX12_isWord 59 = .ok (.iconst 1, 1) := by decide +kernel
theorem dX12_isWord_60 : decode cX12_isWord 60 = .ok (.goto 4, 3) := by decide +kernel
theorem dX12_isWord_63 : decode cX12_isWord 63 = .ok (.iconst 0, 1) := by decide +kernel
theorem dX12_isWord_64 : decode cX12_isWord 64 = .ok (.istore_n 3, 1) := by decide +kernel
theorem dX12_isWord_65 : decode cX12_isWord 65 = .ok (.iinc 4 1, 3) := by decide +kernel
theorem dX12_isWord_68 : decode cX12_isWord 68 = .ok (.goto (-46), 3) := by decide +kernel
theorem dX12_isWord_71 : decode cX12_isWord 71 = .ok (.iload_n 3, 1) := by decide +kernel
theorem dX12_isWord_72 : decode cX12_isWord 72 = .ok (.ireturn, 1) := by decide +kernel
theorem dX12_readsLine_0 : decode cX12_readsLine 0 = .ok (.aload_n 0, 1) := by decide +kernel
theorem dX12_readsLine_1 : decode cX12_readsLine 1 = .ok (.ldc 215, 2) := by decide +kernel
theorem dX12_readsLine_3 : decode cX12_readsLine 3 = .ok (.iconst 4, 1) := by decide +kernel
theorem dX12_readsLine_4 : decode cX12_readsLine 4 = .ok (.invokevirtual 216, 3) := by decide +kernel
theorem dX12_readsLine_7 : decode cX12_readsLine 7 = .ok (.ifCond .eq 7, 3) := by decide +kernel
theorem dX12_readsLine_10 : decode cX12_readsLine 10 = .ok (.iconst 0, 1) := by decide +kernel
theorem dX12_readsLine_11 : decode cX12_readsLine 11 = .ok (.goto 75, 3) := by decide +kernel
theorem dX12_readsLine_14 : decode cX12_readsLine 14 = .ok (.aload_n 0, 1) := by decide +kernel
theorem dX12_readsLine_15 : decode cX12_readsLine 15 = .ok (.ldc 220, 2) := by decide +kernel
theorem dX12_readsLine_17 : decode cX12_readsLine 17 = .ok (.iconst 4, 1) := by decide +kernel
theorem dX12_readsLine_18 : decode cX12_readsLine 18 = .ok (.invokevirtual 216, 3) := by decide +kernel
theorem dX12_readsLine_21 : decode cX12_readsLine 21 = .ok (.ifCond .eq 7, 3) := by decide +kernel
theorem dX12_readsLine_24 : decode cX12_readsLine 24 = .ok (.iconst 1, 1) := by decide +kernel
theorem dX12_readsLine_25 : decode cX12_readsLine 25 = .ok (.goto 61, 3) := by decide +kernel
theorem dX12_readsLine_28 : decode cX12_readsLine 28 = .ok (.aload_n 0, 1) := by decide +kernel
theorem dX12_readsLine_29 : decode cX12_readsLine 29 = .ok (.ldc 221, 2) := by decide +kernel
theorem dX12_readsLine_31 : decode cX12_readsLine 31 = .ok (.iconst 4, 1) := by decide +kernel
theorem dX12_readsLine_32 : decode cX12_readsLine 32 = .ok (.invokevirtual 216, 3) := by decide +kernel
theorem dX12_readsLine_35 : decode cX12_readsLine 35 = .ok (.ifCond .eq 7, 3) := by decide +kernel
theorem dX12_readsLine_38 : decode cX12_readsLine 38 = .ok (.iconst 2, 1) := by decide +kernel
theorem dX12_readsLine_39 : decode cX12_readsLine 39 = .ok (.goto 47, 3) := by decide +kernel
theorem dX12_readsLine_42 : decode cX12_readsLine 42 = .ok (.aload_n 0, 1) := by decide +kernel
theorem dX12_readsLine_43 : decode cX12_readsLine 43 = .ok (.ldc 222, 2) := by decide +kernel
theorem dX12_readsLine_45 : decode cX12_readsLine 45 = .ok (.iconst 4, 1) := by decide +kernel
theorem dX12_readsLine_46 : decode cX12_readsLine 46 = .ok (.invokevirtual 216, 3) := by decide +kernel
theorem dX12_readsLine_49 : decode cX12_readsLine 49 = .ok (.ifCond .eq 7, 3) := by decide +kernel
theorem dX12_readsLine_52 : decode cX12_readsLine 52 = .ok (.iconst 3, 1) := by decide +kernel
theorem dX12_readsLine_53 : decode cX12_readsLine 53 = .ok (.goto 33, 3) := by decide +kernel
theorem dX12_readsLine_56 : decode cX12_readsLine 56 = .ok (.aload_n 0, 1) := by decide +kernel
theorem dX12_readsLine_57 : decode cX12_readsLine 57 = .ok (.ldc 223, 2) := by decide +kernel
theorem dX12_readsLine_59 : decode cX12_readsLine 59 = .ok (.iconst 5, 1) := by decide +kernel
theorem dX12_readsLine_60 : decode cX12_readsLine 60 = .ok (.invokevirtual 216, 3) := by decide +kernel
theorem dX12_readsLine_63 : decode cX12_readsLine 63 = .ok (.ifCond .eq 7, 3) := by decide +kernel
theorem dX12_readsLine_66 : decode cX12_readsLine 66 = .ok (.iconst 4, 1) := by decide +kernel
theorem dX12_readsLine_67 : decode cX12_readsLine 67 = .ok (.goto 19, 3) := by decide +kernel
theorem dX12_readsLine_70 : decode cX12_readsLine 70 = .ok (.aload_n 0, 1) := by decide +kernel
theorem dX12_readsLine_71 : decode cX12_readsLine 71 = .ok (.sipush 802, 3) := by decide +kernel
theorem dX12_readsLine_74 : decode cX12_readsLine 74 = .ok (.iconst 2, 1) := by decide +kernel
theorem dX12_readsLine_75 : decode cX12_readsLine 75 = .ok (.invokevirtual 216, 3) := by decide +kernel
theorem dX12_readsLine_78 : decode cX12_readsLine 78 = .ok (.ifCond .eq 7, 3) := by decide +kernel
theorem dX12_readsLine_81 : decode cX12_readsLine 81 = .ok (.iconst 5, 1) := by decide +kernel
theorem dX12_readsLine_82 : decode cX12_readsLine 82 = .ok (.goto 4, 3) := by decide +kernel
theorem dX12_readsLine_85 : decode cX12_readsLine 85 = .ok (.iconst (-1), 1) := by decide +kernel
theorem dX12_readsLine_86 : decode cX12_readsLine 86 = .ok (.istore_n 1, 1) := by decide +kernel
theorem dX12_readsLine_87 : decode cX12_readsLine 87 = .ok (.iload_n 1, 1) := by decide +kernel
theorem dX12_readsLine_88 : decode cX12_readsLine 88 = .ok (.iconst (-1), 1) := by decide +kernel
theorem dX12_readsLine_89 : decode cX12_readsLine 89 = .ok (.if_icmp .ne 5, 3) := by decide +kernel
theorem dX12_readsLine_92 : decode cX12_readsLine 92 = .ok (.iconst 0, 1) := by decide +kernel
theorem dX12_readsLine_93 : decode cX12_readsLine 93 = .ok (.ireturn, 1) := by decide +kernel
theorem dX12_readsLine_94 : decode cX12_readsLine 94 = .ok (.aload_n 0, 1) := by decide +kernel
theorem dX12_readsLine_95 : decode cX12_readsLine 95 = .ok (.invokevirtual 224, 3) := by decide +kernel
theorem dX12_readsLine_98 : decode cX12_readsLine 98 = .ok (.aload_n 0, 1) := by decide +kernel
theorem dX12_readsLine_99 : decode cX12_readsLine 99 = .ok (.getfield 206, 3) := by decide +kernel
theorem dX12_readsLine_102 : decode cX12_readsLine 102 = .ok (.aload_n 0, 1) := by decide +kernel
theorem dX12_readsLine_103 : decode cX12_readsLine 103 = .ok (.getfield 198, 3) := by decide +kernel
theorem dX12_readsLine_106 : decode cX12_readsLine 106 = .ok (.if_icmp .eq 32, 3) := by decide +kernel
theorem dX12_readsLine_109 : decode cX12_readsLine 109 = .ok (.aload_n 0, 1) := by decide +kernel
theorem dX12_readsLine_110 : decode cX12_readsLine 110 = .ok (.getfield 52, 3) := by decide +kernel
theorem dX12_readsLine_113 : decode cX12_readsLine 113 = .ok (.aload_n 0, 1) := by decide +kernel
theorem dX12_readsLine_114 : decode cX12_readsLine 114 = .ok (.getfield 206, 3) := by decide +kernel
theorem dX12_readsLine_117 : decode cX12_readsLine 117 = .ok (.iaload, 1) := by decide +kernel
theorem dX12_readsLine_118 : decode cX12_readsLine 118 = .ok (.invokestatic 209, 3) := by decide +kernel
theorem dX12_readsLine_121 : decode cX12_readsLine 121 = .ok (.iconst 2, 1) := by decide +kernel
theorem dX12_readsLine_122 : decode cX12_readsLine 122 = .ok (.if_icmp .ne 16, 3) := by decide +kernel
theorem dX12_readsLine_125 : decode cX12_readsLine 125 = .ok (.aload_n 0, 1) := by decide +kernel
theorem dX12_readsLine_126 : decode cX12_readsLine 126 = .ok (.getfield 212, 3) := by decide +kernel
theorem dX12_readsLine_129 : decode cX12_readsLine 129 = .ok (.aload_n 0, 1) := by decide +kernel
theorem dX12_readsLine_130 : decode cX12_readsLine 130 = .ok (.getfield 206, 3) := by decide +kernel
theorem dX12_readsLine_133 : decode cX12_readsLine 133 = .ok (.isub, 1) := by decide +kernel
theorem dX12_readsLine_134 : decode cX12_readsLine 134 = .ok (.iconst 3, 1) := by decide +kernel
theorem dX12_readsLine_135 : decode cX12_readsLine 135 = .ok (.if_icmp .le 5, 3) := by decide +kernel
theorem dX12_readsLine_138 : decode cX12_readsLine 138 = .ok (.iconst 0, 1) := by decide +kernel
theorem dX12_readsLine_139 : decode cX12_readsLine 139 = .ok (.ireturn, 1) := by decide +kernel
theorem dX12_readsLine_140 : decode cX12_readsLine 140 = .ok (.iconst 0, 1) := by decide +kernel
theorem dX12_readsLine_141 : decode cX12_readsLine 141 = .ok (.istore_n 2, 1) := by decide +kernel
theorem dX12_readsLine_142 : decode cX12_readsLine 142 = .ok (.aload_n 0, 1) := by decide +kernel
theorem dX12_readsLine_143 : decode cX12_readsLine 143 = .ok (.getfield 206, 3) := by decide +kernel
theorem dX12_readsLine_146 : decode cX12_readsLine 146 = .ok (.istore_n 3, 1) := by decide +kernel
theorem dX12_readsLine_147 : decode cX12_readsLine 147 = .ok (.iload_n 3, 1) := by decide +kernel
theorem dX12_readsLine_148 : decode cX12_readsLine 148 = .ok (.aload_n 0, 1) := by decide +kernel
theorem dX12_readsLine_149 : decode cX12_readsLine 149 = .ok (.getfield 212, 3) := by decide +kernel
theorem dX12_readsLine_152 : decode cX12_readsLine 152 = .ok (.if_icmp .ge 24, 3) := by decide +kernel
theorem dX12_readsLine_155 : decode cX12_readsLine 155 = .ok (.bipush 10, 2) := by decide +kernel
theorem dX12_readsLine_157 : decode cX12_readsLine 157 = .ok (.iload_n 2, 1) := by decide +kernel
theorem dX12_readsLine_158 : decode cX12_readsLine 158 = .ok (.imul, 1) := by decide +kernel
theorem dX12_readsLine_159 : decode cX12_readsLine 159 = .ok (.aload_n 0, 1) := by decide +kernel
theorem dX12_readsLine_160 : decode cX12_readsLine 160 = .ok (.getfield 52, 3) := by decide +kernel
theorem dX12_readsLine_163 : decode cX12_readsLine 163 = .ok (.iload_n 3, 1) := by decide +kernel
theorem dX12_readsLine_164 : decode cX12_readsLine 164 = .ok (.iaload, 1) := by decide +kernel
theorem dX12_readsLine_165 : decode cX12_readsLine 165 = .ok (.iadd, 1) := by decide +kernel
theorem dX12_readsLine_166 : decode cX12_readsLine 166 = .ok (.bipush 48, 2) := by decide +kernel
theorem dX12_readsLine_168 : decode cX12_readsLine 168 = .ok (.isub, 1) := by decide +kernel
theorem dX12_readsLine_169 : decode cX12_readsLine 169 = .ok (.istore_n 2, 1) := by decide +kernel
theorem dX12_readsLine_170 : decode cX12_readsLine 170 = .ok (.iinc 3 1, 3) := by decide +kernel
theorem dX12_readsLine_173 : decode cX12_readsLine 173 = .ok (.goto (-26), 3) := by decide +kernel
theorem dX12_readsLine_176 : decode cX12_readsLine 176 = .ok (.iload_n 2, 1) := by decide +kernel
theorem dX12_readsLine_177 : decode cX12_readsLine 177 = .ok (.i2l, 1) := by decide +kernel
theorem dX12_readsLine_178 : decode cX12_readsLine 178 = .ok (.iload_n 1, 1) := by decide +kernel
theorem dX12_readsLine_179 : decode cX12_readsLine 179 = .ok (.iconst 4, 1) := by decide +kernel
theorem dX12_readsLine_180 : decode cX12_readsLine 180 = .ok (.if_icmp .ne 7, 3) := by decide +kernel
theorem dX12_readsLine_183 : decode cX12_readsLine 183 = .ok (.lconst 1, 1) := by decide +kernel
theorem dX12_readsLine_184 : decode cX12_readsLine 184 = .ok (.goto 4, 3) := by decide +kernel
theorem dX12_readsLine_187 : decode cX12_readsLine 187 = .ok (.lconst 0, 1) := by decide +kernel
theorem dX12_readsLine_188 : decode cX12_readsLine 188 = .ok (.iload_n 1, 1) := by decide +kernel
theorem dX12_readsLine_189 : decode cX12_readsLine 189 = .ok (.iconst 3, 1) := by decide +kernel
theorem dX12_readsLine_190 : decode cX12_readsLine 190 = .ok (.if_icmp .ne 9, 3) := by decide +kernel
theorem dX12_readsLine_193 : decode cX12_readsLine 193 = .ok (.ldc2_w 111, 3) := by decide +kernel
theorem dX12_readsLine_196 : decode cX12_readsLine 196 = .ok (.goto 28, 3) := by decide +kernel
theorem dX12_readsLine_199 : decode cX12_readsLine 199 = .ok (.iload_n 1, 1) := by decide +kernel
theorem dX12_readsLine_200 : decode cX12_readsLine 200 = .ok (.iconst 4, 1) := by decide +kernel
theorem dX12_readsLine_201 : decode cX12_readsLine 201 = .ok (.if_icmp .ne 9, 3) := by decide +kernel
theorem dX12_readsLine_204 : decode cX12_readsLine 204 = .ok (.ldc2_w 109, 3) := by decide +kernel
theorem dX12_readsLine_207 : decode cX12_readsLine 207 = .ok (.goto 17, 3) := by decide +kernel
theorem dX12_readsLine_210 : decode cX12_readsLine 210 = .ok (.iload_n 1, 1) := by decide +kernel
theorem dX12_readsLine_211 : decode cX12_readsLine 211 = .ok (.iconst 5, 1) := by decide +kernel
theorem dX12_readsLine_212 : decode cX12_readsLine 212 = .ok (.if_icmp .ne 9, 3) := by decide +kernel
theorem dX12_readsLine_215 : decode cX12_readsLine 215 = .ok (.ldc2_w 85, 3) := by decide +kernel
theorem dX12_readsLine_218 : decode cX12_readsLine 218 = .ok (.goto 6, 3) := by decide +kernel
theorem dX12_readsLine_221 : decode cX12_readsLine 221 = .ok (.ldc2_w 121, 3) := by decide +kernel
theorem dX12_readsLine_224 : decode cX12_readsLine 224 = .ok (.invokestatic 87, 3) := by decide +kernel
theorem dX12_readsLine_227 : decode cX12_readsLine 227 = .ok (.ifCond .ne 5, 3) := by decide +kernel
theorem dX12_readsLine_230 : decode cX12_readsLine 230 = .ok (.iconst 0, 1) := by decide +kernel
theorem dX12_readsLine_231 : decode cX12_readsLine 231 = .ok (.ireturn, 1) := by decide +kernel
theorem dX12_readsLine_232 : decode cX12_readsLine 232 = .ok (.aload_n 0, 1) := by decide +kernel
theorem dX12_readsLine_233 : decode cX12_readsLine 233 = .ok (.getfield 58, 3) := by decide +kernel
theorem dX12_readsLine_236 : decode cX12_readsLine 236 = .ok (.iload_n 1, 1) := by decide +kernel
theorem dX12_readsLine_237 : decode cX12_readsLine 237 = .ok (.iload_n 2, 1) := by decide +kernel
theorem dX12_readsLine_238 : decode cX12_readsLine 238 = .ok (.iastore, 1) := by decide +kernel
theorem dX12_readsLine_239 : decode cX12_readsLine 239 = .ok (.aload_n 0, 1) := by decide +kernel
theorem dX12_readsLine_240 : decode cX12_readsLine 240 = .ok (.dup, 1) := by decide +kernel
theorem dX12_readsLine_241 : decode cX12_readsLine 241 = .ok (.getfield 227, 3) := by decide +kernel
theorem dX12_readsLine_244 : decode cX12_readsLine 244 = .ok (.iconst 1, 1) := by decide +kernel
theorem dX12_readsLine_245 : decode cX12_readsLine 245 = .ok (.iadd, 1) := by decide +kernel
theorem dX12_readsLine_246 : decode cX12_readsLine 246 = .ok (.putfield 227, 3) := by decide +kernel
theorem dX12_readsLine_249 : decode cX12_readsLine 249 = .ok (.aload_n 0, 1) := by decide +kernel
theorem dX12_readsLine_250 : decode cX12_readsLine 250 = .ok (.invokevirtual 224, 3) := by decide +kernel
theorem dX12_readsLine_253 : decode cX12_readsLine 253 = .ok (.iconst 1, 1) := by decide +kernel
theorem dX12_readsLine_254 : decode cX12_readsLine 254 = .ok (.ireturn, 1) := by decide +kernel
theorem dX12_fault_0 : decode cX12_fault 0 = .ok (.aload_n 0, 1) := by decide +kernel
theorem dX12_fault_1 : decode cX12_fault 1 = .ok (.iconst 0, 1) := by decide +kernel
theorem dX12_fault_2 : decode cX12_fault 2 = .ok (.putfield 203, 3) := by decide +kernel
theorem dX12_fault_5 : decode cX12_fault 5 = .ok (.aload_n 0, 1) := by decide +kernel
theorem dX12_fault_6 : decode cX12_fault 6 = .ok (.iconst 0, 1) := by decide +kernel
theorem dX12_fault_7 : decode cX12_fault 7 = .ok (.putfield 227, 3) := by decide +kernel
theorem dX12_fault_10 : decode cX12_fault 10 = .ok (.iconst 0, 1) := by decide +kernel
theorem dX12_fault_11 : decode cX12_fault 11 = .ok (.istore_n 1, 1) := by decide +kernel
theorem dX12_fault_12 : decode cX12_fault 12 = .ok (.iload_n 1, 1) := by decide +kernel
theorem dX12_fault_13 : decode cX12_fault 13 = .ok (.bipush 6, 2) := by decide +kernel
theorem dX12_fault_15 : decode cX12_fault 15 = .ok (.if_icmp .ge 45, 3) := by decide +kernel
theorem dX12_fault_18 : decode cX12_fault 18 = .ok (.aload_n 0, 1) := by decide +kernel
theorem dX12_fault_19 : decode cX12_fault 19 = .ok (.getfield 58, 3) := by decide +kernel
theorem dX12_fault_22 : decode cX12_fault 22 = .ok (.iload_n 1, 1) := by decide +kernel
theorem dX12_fault_23 : decode cX12_fault 23 = .ok (.iload_n 1, 1) := by decide +kernel
theorem dX12_fault_24 : decode cX12_fault 24 = .ok (.iconst 1, 1) := by decide +kernel
theorem dX12_fault_25 : decode cX12_fault 25 = .ok (.if_icmp .ne 8, 3) := by decide +kernel
theorem dX12_fault_28 : decode cX12_fault 28 = .ok (.bipush 100, 2) := by decide +kernel
theorem dX12_fault_30 : decode cX12_fault 30 = .ok (.goto 23, 3) := by decide +kernel
theorem dX12_fault_33 : decode cX12_fault 33 = .ok (.iload_n 1, 1) := by decide +kernel
theorem dX12_fault_34 : decode cX12_fault 34 = .ok (.iconst 3, 1) := by decide +kernel
theorem dX12_fault_35 : decode cX12_fault 35 = .ok (.if_icmp .ne 8, 3) := by decide +kernel
theorem dX12_fault_38 : decode cX12_fault 38 = .ok (.bipush 35, 2) := by decide +kernel
theorem dX12_fault_40 : decode cX12_fault 40 = .ok (.goto 13, 3) := by decide +kernel
theorem dX12_fault_43 : decode cX12_fault 43 = .ok (.iload_n 1, 1) := by decide +kernel
theorem dX12_fault_44 : decode cX12_fault 44 = .ok (.iconst 4, 1) := by decide +kernel
theorem dX12_fault_45 : decode cX12_fault 45 = .ok (.if_icmp .ne 7, 3) := by decide +kernel
theorem dX12_fault_48 : decode cX12_fault 48 = .ok (.iconst 1, 1) := by decide +kernel
theorem dX12_fault_49 : decode cX12_fault 49 = .ok (.goto 4, 3) := by decide +kernel
theorem dX12_fault_52 : decode cX12_fault 52 = .ok (.iconst 0, 1) := by decide +kernel
theorem dX12_fault_53 : decode cX12_fault 53 = .ok (.iastore, 1) := by decide +kernel
theorem dX12_fault_54 : decode cX12_fault 54 = .ok (.iinc 1 1, 3) := by decide +kernel
theorem dX12_fault_57 : decode cX12_fault 57 = .ok (.goto (-45), 3) := by decide +kernel
theorem dX12_fault_60 : decode cX12_fault 60 = .ok (.aload_n 0, 1) := by decide +kernel
theorem dX12_fault_61 : decode cX12_fault 61 = .ok (.invokevirtual 224, 3) := by decide +kernel
theorem dX12_fault_64 : decode cX12_fault 64 = .ok (.aload_n 0, 1) := by decide +kernel
theorem dX12_fault_65 : decode cX12_fault 65 = .ok (.invokevirtual 230, 3) := by decide +kernel
theorem dX12_fault_68 : decode cX12_fault 68 = .ok (.ifCond .ne 8, 3) := by decide +kernel
theorem dX12_fault_71 : decode cX12_fault 71 = .ok (.aload_n 0, 1) := by decide +kernel
theorem dX12_fault_72 : decode cX12_fault 72 = .ok (.getfield 206, 3) := by decide +kernel
theorem dX12_fault_75 : decode cX12_fault 75 = .ok (.ireturn, 1) := by decide +kernel
theorem dX12_fault_76 : decode cX12_fault 76 = .ok (.aload_n 0, 1) := by decide +kernel
theorem dX12_fault_77 : decode cX12_fault 77 = .ok (.getfield 206, 3) := by decide +kernel
theorem dX12_fault_80 : decode cX12_fault 80 = .ok (.aload_n 0, 1) := by decide +kernel
theorem dX12_fault_81 : decode cX12_fault 81 = .ok (.getfield 198, 3) := by decide +kernel
theorem dX12_fault_84 : decode cX12_fault 84 = .ok (.if_icmp .ge 70, 3) := by decide +kernel
theorem dX12_fault_87 : decode cX12_fault 87 = .ok (.aload_n 0, 1) := by decide +kernel
theorem dX12_fault_88 : decode cX12_fault 88 = .ok (.getfield 212, 3) := by decide +kernel
theorem dX12_fault_91 : decode cX12_fault 91 = .ok (.aload_n 0, 1) := by decide +kernel
theorem dX12_fault_92 : decode cX12_fault 92 = .ok (.getfield 206, 3) := by decide +kernel
theorem dX12_fault_95 : decode cX12_fault 95 = .ok (.isub, 1) := by decide +kernel
theorem dX12_fault_96 : decode cX12_fault 96 = .ok (.iconst 1, 1) := by decide +kernel
theorem dX12_fault_97 : decode cX12_fault 97 = .ok (.if_icmp .ne 30, 3) := by decide +kernel
theorem dX12_fault_100 : decode cX12_fault 100 = .ok (.aload_n 0, 1) := by decide +kernel
theorem dX12_fault_101 : decode cX12_fault 101 = .ok (.getfield 52, 3) := by decide +kernel
theorem dX12_fault_104 : decode cX12_fault 104 = .ok (.aload_n 0, 1) := by decide +kernel
theorem dX12_fault_105 : decode cX12_fault 105 = .ok (.getfield 206, 3) := by decide +kernel
theorem dX12_fault_108 : decode cX12_fault 108 = .ok (.iaload, 1) := by decide +kernel
theorem dX12_fault_109 : decode cX12_fault 109 = .ok (.bipush 59, 2) := by decide +kernel
theorem dX12_fault_111 : decode cX12_fault 111 = .ok (.if_icmp .ne 16, 3) := by decide +kernel
theorem dX12_fault_114 : decode cX12_fault 114 = .ok (.aload_n 0, 1) := by decide +kernel
theorem dX12_fault_115 : decode cX12_fault 115 = .ok (.getfield 227, 3) := by decide +kernel
theorem dX12_fault_118 : decode cX12_fault 118 = .ok (.bipush 8, 2) := by decide +kernel
theorem dX12_fault_120 : decode cX12_fault 120 = .ok (.if_icmp .ge 7, 3) := by decide +kernel
theorem dX12_fault_123 : decode cX12_fault 123 = .ok (.iconst 1, 1) := by decide +kernel
theorem dX12_fault_124 : decode cX12_fault 124 = .ok (.goto 4, 3) := by decide +kernel
theorem dX12_fault_127 : decode cX12_fault 127 = .ok (.iconst 0, 1) := by decide +kernel
theorem dX12_fault_128 : decode cX12_fault 128 = .ok (.istore_n 1, 1) := by decide +kernel
theorem dX12_fault_129 : decode cX12_fault 129 = .ok (.iload_n 1, 1) := by decide +kernel
theorem dX12_fault_130 : decode cX12_fault 130 = .ok (.ifCond .eq 12, 3) := by decide +kernel
theorem dX12_fault_133 : decode cX12_fault 133 = .ok (.aload_n 0, 1) := by decide +kernel
theorem dX12_fault_134 : decode cX12_fault 134 = .ok (.invokevirtual 224, 3) := by decide +kernel
theorem dX12_fault_137 : decode cX12_fault 137 = .ok (.aload_n 0, 1) := by decide +kernel
theorem dX12_fault_138 : decode cX12_fault 138 = .ok (.invokevirtual 230, 3) := by decide +kernel
theorem dX12_fault_141 : decode cX12_fault 141 = .ok (.istore_n 1, 1) := by decide +kernel
theorem dX12_fault_142 : decode cX12_fault 142 = .ok (.iload_n 1, 1) := by decide +kernel
theorem dX12_fault_143 : decode cX12_fault 143 = .ok (.ifCond .ne 8, 3) := by decide +kernel
theorem dX12_fault_146 : decode cX12_fault 146 = .ok (.aload_n 0, 1) := by decide +kernel
theorem dX12_fault_147 : decode cX12_fault 147 = .ok (.getfield 206, 3) := by decide +kernel
theorem dX12_fault_150 : decode cX12_fault 150 = .ok (.ireturn, 1) := by decide +kernel
theorem dX12_fault_151 : decode cX12_fault 151 = .ok (.goto (-75), 3) := by decide +kernel
theorem dX12_fault_154 : decode cX12_fault 154 = .ok (.iconst (-1), 1) := by decide +kernel
theorem dX12_fault_155 : decode cX12_fault 155 = .ok (.ireturn, 1) := by decide +kernel
theorem dX12_steerer_0 : decode cX12_steerer 0 = .ok (.aload_n 0, 1) := by decide +kernel
theorem dX12_steerer_1 : decode cX12_steerer 1 = .ok (.invokevirtual 234, 3) := by decide +kernel
theorem dX12_steerer_4 : decode cX12_steerer 4 = .ok (.iconst (-1), 1) := by decide +kernel
theorem dX12_steerer_5 : decode cX12_steerer 5 = .ok (.if_icmp .eq 6, 3) := by decide +kernel
theorem dX12_steerer_8 : decode cX12_steerer 8 = .ok (.bipush (-4), 2) := by decide +kernel
theorem dX12_steerer_10 : decode cX12_steerer 10 = .ok (.ireturn, 1) := by decide +kernel
theorem dX12_steerer_11 : decode cX12_steerer 11 = .ok (.iconst 0, 1) := by decide +kernel
theorem dX12_steerer_12 : decode cX12_steerer 12 = .ok (.istore_n 1, 1) := by decide +kernel
theorem dX12_steerer_13 : decode cX12_steerer 13 = .ok (.iload_n 1, 1) := by decide +kernel
theorem dX12_steerer_14 : decode cX12_steerer 14 = .ok (.bipush 6, 2) := by decide +kernel
theorem dX12_steerer_16 : decode cX12_steerer 16 = .ok (.if_icmp .ge 21, 3) := by decide +kernel
theorem dX12_steerer_19 : decode cX12_steerer 19 = .ok (.aload_n 0, 1) := by decide +kernel
theorem dX12_steerer_20 : decode cX12_steerer 20 = .ok (.getfield 55, 3) := by decide +kernel
theorem dX12_steerer_23 : decode cX12_steerer 23 = .ok (.iload_n 1, 1) := by decide +kernel
theorem dX12_steerer_24 : decode cX12_steerer 24 = .ok (.aload_n 0, 1) := by decide +kernel
theorem dX12_steerer_25 : decode cX12_steerer 25 = .ok (.getfield 58, 3) := by decide +kernel
theorem dX12_steerer_28 : decode cX12_steerer 28 = .ok (.iload_n 1, 1) := by decide +kernel
theorem dX12_steerer_29 : decode cX12_steerer 29 = .ok (.iaload, 1) := by decide +kernel
theorem dX12_steerer_30 : decode cX12_steerer 30 = .ok (.iastore, 1) := by decide +kernel
theorem dX12_steerer_31 : decode cX12_steerer 31 = .ok (.iinc 1 1, 3) := by decide +kernel
theorem dX12_steerer_34 : decode cX12_steerer 34 = .ok (.goto (-21), 3) := by decide +kernel
theorem dX12_steerer_37 : decode cX12_steerer 37 = .ok (.aload_n 0, 1) := by decide +kernel
theorem dX12_steerer_38 : decode cX12_steerer 38 = .ok (.getfield 19, 3) := by decide +kernel
theorem dX12_steerer_41 : decode cX12_steerer 41 = .ok (.iconst 0, 1) := by decide +kernel
theorem dX12_steerer_42 : decode cX12_steerer 42 = .ok (.iconst (-1), 1) := by decide +kernel
theorem dX12_steerer_43 : decode cX12_steerer 43 = .ok (.iastore, 1) := by decide +kernel
theorem dX12_steerer_44 : decode cX12_steerer 44 = .ok (.aload_n 0, 1) := by decide +kernel
theorem dX12_steerer_45 : decode cX12_steerer 45 = .ok (.iconst 0, 1) := by decide +kernel
theorem dX12_steerer_46 : decode cX12_steerer 46 = .ok (.putfield 198, 3) := by decide +kernel
theorem dX12_steerer_49 : decode cX12_steerer 49 = .ok (.aload_n 0, 1) := by decide +kernel
theorem dX12_steerer_50 : decode cX12_steerer 50 = .ok (.getfield 227, 3) := by decide +kernel
theorem dX12_steerer_53 : decode cX12_steerer 53 = .ok (.ireturn, 1) := by decide +kernel
theorem dX12_steers_0 : decode cX12_steers 0 = .ok (.iload_n 1, 1) := by decide +kernel
theorem dX12_steers_1 : decode cX12_steers 1 = .ok (.i2l, 1) := by decide +kernel
theorem dX12_steers_2 : decode cX12_steers 2 = .ok (.lconst 0, 1) := by decide +kernel
theorem dX12_steers_3 : decode cX12_steers 3 = .ok (.ldc2_w 130, 3) := by decide +kernel
theorem dX12_steers_6 : decode cX12_steers 6 = .ok (.invokestatic 87, 3) := by decide +kernel
theorem dX12_steers_9 : decode cX12_steers 9 = .ok (.ifCond .eq 12, 3) := by decide +kernel
theorem dX12_steers_12 : decode cX12_steers 12 = .ok (.aload_n 0, 1) := by decide +kernel
theorem dX12_steers_13 : decode cX12_steers 13 = .ok (.getfield 55, 3) := by decide +kernel
theorem dX12_steers_16 : decode cX12_steers 16 = .ok (.iload_n 1, 1) := by decide +kernel
theorem dX12_steers_17 : decode cX12_steers 17 = .ok (.iaload, 1) := by decide +kernel
theorem dX12_steers_18 : decode cX12_steers 18 = .ok (.goto 5, 3) := by decide +kernel
theorem dX12_steers_21 : decode cX12_steers 21 = .ok (.bipush (-3), 2) := by decide +kernel
theorem dX12_steers_23 : decode cX12_steers 23 = .ok (.ireturn, 1) := by decide +kernel
theorem dX12_course_0 : decode cX12_course 0 = .ok (.iload_n 1, 1) := by decide +kernel
theorem dX12_course_1 : decode cX12_course 1 = .ok (.invokestatic 115, 3) := by decide +kernel
theorem dX12_course_4 : decode cX12_course 4 = .ok (.ifCond .ne 6, 3) := by decide +kernel
theorem dX12_course_7 : decode cX12_course 7 = .ok (.bipush (-3), 2) := by decide +kernel
theorem dX12_course_9 : decode cX12_course 9 = .ok (.ireturn, 1) := by decide +kernel
theorem dX12_course_10 : decode cX12_course 10 = .ok (.aload_n 0, 1) := by decide +kernel
theorem dX12_course_11 : decode cX12_course 11 = .ok (.getfield 183, 3) := by decide +kernel
theorem dX12_course_14 : decode cX12_course 14 = .ok (.istore_n 2, 1) := by decide +kernel
theorem dX12_course_15 : decode cX12_course 15 = .ok (.aload_n 0, 1) := by decide +kernel
theorem dX12_course_16 : decode cX12_course 16 = .ok (.iload_n 1, 1) := by decide +kernel
theorem dX12_course_17 : decode cX12_course 17 = .ok (.putfield 183, 3) := by decide +kernel
theorem dX12_course_20 : decode cX12_course 20 = .ok (.aload_n 0, 1) := by decide +kernel
theorem dX12_course_21 : decode cX12_course 21 = .ok (.getfield 19, 3) := by decide +kernel
theorem dX12_course_24 : decode cX12_course 24 = .ok (.iconst 0, 1) := by decide +kernel
theorem dX12_course_25 : decode cX12_course 25 = .ok (.iconst (-1), 1) := by decide +kernel
theorem dX12_course_26 : decode cX12_course 26 = .ok (.iastore, 1) := by decide +kernel
theorem dX12_course_27 : decode cX12_course 27 = .ok (.iload_n 2, 1) := by decide +kernel
theorem dX12_course_28 : decode cX12_course 28 = .ok (.ireturn, 1) := by decide +kernel
theorem dX12_laySwing_0 : decode cX12_laySwing 0 = .ok (.iconst 0, 1) := by decide +kernel
theorem dX12_laySwing_1 : decode cX12_laySwing 1 = .ok (.istore 7, 2) := by decide +kernel
theorem dX12_laySwing_3 : decode cX12_laySwing 3 = .ok (.aload_n 0, 1) := by decide +kernel
theorem dX12_laySwing_4 : decode cX12_laySwing 4 = .ok (.getfield 76, 3) := by decide +kernel
theorem dX12_laySwing_7 : decode cX12_laySwing 7 = .ok (.iconst 0, 1) := by decide +kernel
theorem dX12_laySwing_8 : decode cX12_laySwing 8 = .ok (.iload 5, 2) := by decide +kernel
theorem dX12_laySwing_10 : decode cX12_laySwing 10 = .ok (.iastore, 1) := by decide +kernel
theorem dX12_laySwing_11 : decode cX12_laySwing 11 = .ok (.iconst 1, 1) := by decide +kernel
theorem dX12_laySwing_12 : decode cX12_laySwing 12 = .ok (.istore 8, 2) := by decide +kernel
theorem dX12_laySwing_14 : decode cX12_laySwing 14 = .ok (.iload 8, 2) := by decide +kernel
theorem dX12_laySwing_16 : decode cX12_laySwing 16 = .ok (.iload 6, 2) := by decide +kernel
theorem dX12_laySwing_18 : decode cX12_laySwing 18 = .ok (.if_icmp .gt 73, 3) := by decide +kernel
theorem dX12_laySwing_21 : decode cX12_laySwing 21 = .ok (.iload 7, 2) := by decide +kernel
theorem dX12_laySwing_23 : decode cX12_laySwing 23 = .ok (.iload_n 1, 1) := by decide +kernel
theorem dX12_laySwing_24 : decode cX12_laySwing 24 = .ok (.iload 4, 2) := by decide +kernel
theorem dX12_laySwing_26 : decode cX12_laySwing 26 = .ok (.aload_n 0, 1) := by decide +kernel
theorem dX12_laySwing_27 : decode cX12_laySwing 27 = .ok (.getfield 76, 3) := by decide +kernel
theorem dX12_laySwing_30 : decode cX12_laySwing 30 = .ok (.iload 8, 2) := by decide +kernel
theorem dX12_laySwing_32 : decode cX12_laySwing 32 = .ok (.iconst 1, 1) := by decide +kernel
theorem dX12_laySwing_33 : decode cX12_laySwing 33 = .ok (.isub, 1) := by decide +kernel
theorem dX12_laySwing_34 : decode cX12_laySwing 34 = .ok (.iaload, 1) := by decide +kernel
theorem dX12_laySwing_35 : decode cX12_laySwing 35 = .ok (.invokestatic 170, 3) := by decide +kernel
theorem dX12_laySwing_38 : decode cX12_laySwing 38 = .ok (.istore 7, 2) := by decide +kernel
theorem dX12_laySwing_40 : decode cX12_laySwing 40 = .ok (.iload_n 3, 1) := by decide +kernel
theorem dX12_laySwing_41 : decode cX12_laySwing 41 = .ok (.ifCond .eq 12, 3) := by decide +kernel
theorem dX12_laySwing_44 : decode cX12_laySwing 44 = .ok (.iload 7, 2) := by decide +kernel
theorem dX12_laySwing_46 : decode cX12_laySwing 46 = .ok (.iload_n 2, 1) := by decide +kernel
theorem dX12_laySwing_47 : decode cX12_laySwing 47 = .ok (.invokestatic 174, 3) := by decide +kernel
theorem dX12_laySwing_50 : decode cX12_laySwing 50 = .ok (.goto 5, 3) := by decide +kernel
theorem dX12_laySwing_53 : decode cX12_laySwing 53 = .ok (.iload 7, 2) := by decide +kernel
theorem dX12_laySwing_55 : decode cX12_laySwing 55 = .ok (.sipush 9999, 3) := by decide +kernel
theorem dX12_laySwing_58 : decode cX12_laySwing 58 = .ok (.invokestatic 180, 3) := by decide +kernel
theorem dX12_laySwing_61 : decode cX12_laySwing 61 = .ok (.istore 7, 2) := by decide +kernel
theorem dX12_laySwing_63 : decode cX12_laySwing 63 = .ok (.aload_n 0, 1) := by decide +kernel
theorem dX12_laySwing_64 : decode cX12_laySwing 64 = .ok (.getfield 76, 3) := by decide +kernel
theorem dX12_laySwing_67 : decode cX12_laySwing 67 = .ok (.iload 8, 2) := by decide +kernel
theorem dX12_laySwing_69 : decode cX12_laySwing 69 = .ok (.aload_n 0, 1) := by decide +kernel
theorem dX12_laySwing_70 : decode cX12_laySwing 70 = .ok (.getfield 76, 3) := by decide +kernel
theorem dX12_laySwing_73 : decode cX12_laySwing 73 = .ok (.iload 8, 2) := by decide +kernel
theorem dX12_laySwing_75 : decode cX12_laySwing 75 = .ok (.iconst 1, 1) := by decide +kernel
theorem dX12_laySwing_76 : decode cX12_laySwing 76 = .ok (.isub, 1) := by decide +kernel
theorem dX12_laySwing_77 : decode cX12_laySwing 77 = .ok (.iaload, 1) := by decide +kernel
theorem dX12_laySwing_78 : decode cX12_laySwing 78 = .ok (.iload 7, 2) := by decide +kernel
theorem dX12_laySwing_80 : decode cX12_laySwing 80 = .ok (.iadd, 1) := by decide +kernel
theorem dX12_laySwing_81 : decode cX12_laySwing 81 = .ok (.invokestatic 167, 3) := by decide +kernel
theorem dX12_laySwing_84 : decode cX12_laySwing 84 = .ok (.iastore, 1) := by decide +kernel
theorem dX12_laySwing_85 : decode cX12_laySwing 85 = .ok (.iinc 8 1, 3) := by decide +kernel
theorem dX12_laySwing_88 : decode cX12_laySwing 88 = .ok (.goto (-74), 3) := by decide +kernel
theorem dX12_laySwing_91 : decode cX12_laySwing 91 = .ok (.return_, 1) := by decide +kernel
theorem dX12_crosses_0 : decode cX12_crosses 0 = .ok (.iconst 1, 1) := by decide +kernel
theorem dX12_crosses_1 : decode cX12_crosses 1 = .ok (.istore_n 1, 1) := by decide +kernel
theorem dX12_crosses_2 : decode cX12_crosses 2 = .ok (.iload_n 1, 1) := by decide +kernel
theorem dX12_crosses_3 : decode cX12_crosses 3 = .ok (.sipush 600, 3) := by decide +kernel
theorem dX12_crosses_6 : decode cX12_crosses 6 = .ok (.if_icmp .gt 51, 3) := by decide +kernel
theorem dX12_crosses_9 : decode cX12_crosses 9 = .ok (.aload_n 0, 1) := by decide +kernel
theorem dX12_crosses_10 : decode cX12_crosses 10 = .ok (.getfield 76, 3) := by decide +kernel
theorem dX12_crosses_13 : decode cX12_crosses 13 = .ok (.iload_n 1, 1) := by decide +kernel
theorem dX12_crosses_14 : decode cX12_crosses 14 = .ok (.iaload, 1) := by decide +kernel
theorem dX12_crosses_15 : decode cX12_crosses 15 = .ok (.ifCond .eq 34, 3) := by decide +kernel
theorem dX12_crosses_18 : decode cX12_crosses 18 = .ok (.aload_n 0, 1) := by decide +kernel
theorem dX12_crosses_19 : decode cX12_crosses 19 = .ok (.getfield 76, 3) := by decide +kernel
theorem dX12_crosses_22 : decode cX12_crosses 22 = .ok (.iload_n 1, 1) := by decide +kernel
theorem dX12_crosses_23 : decode cX12_crosses 23 = .ok (.iaload, 1) := by decide +kernel
theorem dX12_crosses_24 : decode cX12_crosses 24 = .ok (.ifCond .ge 7, 3) := by decide +kernel
theorem dX12_crosses_27 : decode cX12_crosses 27 = .ok (.iconst 1, 1) := by decide +kernel
theorem dX12_crosses_28 : decode cX12_crosses 28 = .ok (.goto 4, 3) := by decide +kernel
theorem dX12_crosses_31 : decode cX12_crosses 31 = .ok (.iconst 0, 1) := by decide +kernel
theorem dX12_crosses_32 : decode cX12_crosses 32 = .ok (.aload_n 0, 1) := by decide +kernel
theorem dX12_crosses_33 : decode cX12_crosses 33 = .ok (.getfield 76, 3) := by decide +kernel
theorem dX12_crosses_36 : decode cX12_crosses 36 = .ok (.iconst 0, 1) := by decide +kernel
theorem dX12_crosses_37 : decode cX12_crosses 37 = .ok (.iaload, 1) := by decide +kernel
theorem dX12_crosses_38 : decode cX12_crosses 38 = .ok (.ifCond .ge 7, 3) := by decide +kernel
theorem dX12_crosses_41 : decode cX12_crosses 41 = .ok (.iconst 1, 1) := by decide +kernel
theorem dX12_crosses_42 : decode cX12_crosses 42 = .ok (.goto 4, 3) := by decide +kernel
theorem dX12_crosses_45 : decode cX12_crosses 45 = .ok (.iconst 0, 1) := by decide +kernel
theorem dX12_crosses_46 : decode cX12_crosses 46 = .ok (.if_icmp .eq 5, 3) := by decide +kernel
theorem dX12_crosses_49 : decode cX12_crosses 49 = .ok (.iload_n 1, 1) := by decide +kernel
theorem dX12_crosses_50 : decode cX12_crosses 50 = .ok (.ireturn, 1) := by decide +kernel
theorem dX12_crosses_51 : decode cX12_crosses 51 = .ok (.iinc 1 1, 3) := by decide +kernel
theorem dX12_crosses_54 : decode cX12_crosses 54 = .ok (.goto (-52), 3) := by decide +kernel
theorem dX12_crosses_57 : decode cX12_crosses 57 = .ok (.iconst (-1), 1) := by decide +kernel
theorem dX12_crosses_58 : decode cX12_crosses 58 = .ok (.ireturn, 1) := by decide +kernel
theorem dX12_rests_0 : decode cX12_rests 0 = .ok (.sipush 600, 3) := by decide +kernel
theorem dX12_rests_3 : decode cX12_rests 3 = .ok (.istore_n 1, 1) := by decide +kernel
theorem dX12_rests_4 : decode cX12_rests 4 = .ok (.aload_n 0, 1) := by decide +kernel
theorem dX12_rests_5 : decode cX12_rests 5 = .ok (.getfield 76, 3) := by decide +kernel
theorem dX12_rests_8 : decode cX12_rests 8 = .ok (.iload_n 1, 1) := by decide +kernel
theorem dX12_rests_9 : decode cX12_rests 9 = .ok (.iaload, 1) := by decide +kernel
theorem dX12_rests_10 : decode cX12_rests 10 = .ok (.invokestatic 96, 3) := by decide +kernel
theorem dX12_rests_13 : decode cX12_rests 13 = .ok (.bipush 100, 2) := by decide +kernel
theorem dX12_rests_15 : decode cX12_rests 15 = .ok (.if_icmp .le 5, 3) := by decide +kernel
theorem dX12_rests_18 : decode cX12_rests 18 = .ok (.iconst (-1), 1) := by decide +kernel
theorem dX12_rests_19 : decode cX12_rests 19 = .ok (.ireturn, 1) := by decide +kernel
theorem dX12_rests_20 : decode cX12_rests 20 = .ok (.iload_n 1, 1) := by decide +kernel
theorem dX12_rests_21 : decode cX12_rests 21 = .ok (.ifCond .le 25, 3) := by decide +kernel
theorem dX12_rests_24 : decode cX12_rests 24 = .ok (.aload_n 0, 1) := by decide +kernel
theorem dX12_rests_25 : decode cX12_rests 25 = .ok (.getfield 76, 3) := by decide +kernel
theorem dX12_rests_28 : decode cX12_rests 28 = .ok (.iload_n 1, 1) := by decide +kernel
theorem dX12_rests_29 : decode cX12_rests 29 = .ok (.iconst 1, 1) := by decide +kernel
theorem dX12_rests_30 : decode cX12_rests 30 = .ok (.isub, 1) := by decide +kernel
theorem dX12_rests_31 : decode cX12_rests 31 = .ok (.iaload, 1) := by decide +kernel
theorem dX12_rests_32 : decode cX12_rests 32 = .ok (.invokestatic 96, 3) := by decide +kernel
theorem dX12_rests_35 : decode cX12_rests 35 = .ok (.bipush 100, 2) := by decide +kernel
theorem dX12_rests_37 : decode cX12_rests 37 = .ok (.if_icmp .gt 9, 3) := by decide +kernel
theorem dX12_rests_40 : decode cX12_rests 40 = .ok (.iinc 1 (-1), 3) := by decide +kernel
theorem dX12_rests_43 : decode cX12_rests 43 = .ok (.goto (-23), 3) := by decide +kernel
theorem dX12_rests_46 : decode cX12_rests 46 = .ok (.iload_n 1, 1) := by decide +kernel
theorem dX12_rests_47 : decode cX12_rests 47 = .ok (.ireturn, 1) := by decide +kernel
theorem dX12_swing_0 : decode cX12_swing 0 = .ok (.iload_n 1, 1) := by decide +kernel
theorem dX12_swing_1 : decode cX12_swing 1 = .ok (.invokestatic 127, 3) := by decide +kernel
theorem dX12_swing_4 : decode cX12_swing 4 = .ok (.ifCond .ne 6, 3) := by decide +kernel
theorem dX12_swing_7 : decode cX12_swing 7 = .ok (.bipush (-2), 2) := by decide +kernel
theorem dX12_swing_9 : decode cX12_swing 9 = .ok (.ireturn, 1) := by decide +kernel
theorem dX12_swing_10 : decode cX12_swing 10 = .ok (.iload_n 2, 1) := by decide +kernel
theorem dX12_swing_11 : decode cX12_swing 11 = .ok (.i2l, 1) := by decide +kernel
theorem dX12_swing_12 : decode cX12_swing 12 = .ok (.ldc2_w 238, 3) := by decide +kernel
theorem dX12_swing_15 : decode cX12_swing 15 = .ok (.ldc2_w 240, 3) := by decide +kernel
theorem dX12_swing_18 : decode cX12_swing 18 = .ok (.invokestatic 87, 3) := by decide +kernel
theorem dX12_swing_21 : decode cX12_swing 21 = .ok (.ifCond .eq 20, 3) := by decide +kernel
theorem dX12_swing_24 : decode cX12_swing 24 = .ok (.iload_n 2, 1) := by decide +kernel
theorem dX12_swing_25 : decode cX12_swing 25 = .ok (.ifCond .eq 16, 3) := by decide +kernel
theorem dX12_swing_28 : decode cX12_swing 28 = .ok (.iload 4, 2) := by decide +kernel
theorem dX12_swing_30 : decode cX12_swing 30 = .ok (.i2l, 1) := by decide +kernel
theorem dX12_swing_31 : decode cX12_swing 31 = .ok (.lconst 0, 1) := by decide +kernel
theorem dX12_swing_32 : decode cX12_swing 32 = .ok (.ldc2_w 85, 3) := by decide +kernel
theorem dX12_swing_35 : decode cX12_swing 35 = .ok (.invokestatic 87, 3) := by decide +kernel
theorem dX12_swing_38 : decode cX12_swing 38 = .ok (.ifCond .ne 6, 3) := by decide +kernel
theorem dX12_swing_41 : decode cX12_swing 41 = .ok (.bipush (-3), 2) := by decide +kernel
theorem dX12_swing_43 : decode cX12_swing 43 = .ok (.ireturn, 1) := by decide +kernel
theorem dX12_swing_44 : decode cX12_swing 44 = .ok (.aload_n 0, 1) := by decide +kernel
theorem dX12_swing_45 : decode cX12_swing 45 = .ok (.aload_n 0, 1) := by decide +kernel
theorem dX12_swing_46 : decode cX12_swing 46 = .ok (.getfield 28, 3) := by decide +kernel
theorem dX12_swing_49 : decode cX12_swing 49 = .ok (.iload_n 1, 1) := by decide +kernel
theorem dX12_swing_50 : decode cX12_swing 50 = .ok (.iaload, 1) := by decide +kernel
theorem dX12_swing_51 : decode cX12_swing 51 = .ok (.aload_n 0, 1) := by decide +kernel
theorem dX12_swing_52 : decode cX12_swing 52 = .ok (.getfield 31, 3) := by decide +kernel
theorem dX12_swing_55 : decode cX12_swing 55 = .ok (.iload_n 1, 1) := by decide +kernel
theorem dX12_swing_56 : decode cX12_swing 56 = .ok (.iaload, 1) := by decide +kernel
theorem dX12_swing_57 : decode cX12_swing 57 = .ok (.iload_n 3, 1) := by decide +kernel
theorem dX12_swing_58 : decode cX12_swing 58 = .ok (.aload_n 0, 1) := by decide +kernel
theorem dX12_swing_59 : decode cX12_swing 59 = .ok (.getfield 7, 3) := by decide +kernel
theorem dX12_swing_62 : decode cX12_swing 62 = .ok (.iconst 0, 1) := by decide +kernel
theorem dX12_swing_63 : decode cX12_swing 63 = .ok (.iaload, 1) := by decide +kernel
theorem dX12_swing_64 : decode cX12_swing 64 = .ok (.iload_n 2, 1) := by decide +kernel
theorem dX12_swing_65 : decode cX12_swing 65 = .ok (.sipush 600, 3) := by decide +kernel
theorem dX12_swing_68 : decode cX12_swing 68 = .ok (.invokevirtual 242, 3) := by decide +kernel
theorem dX12_swing_71 : decode cX12_swing 71 = .ok (.iload 4, 2) := by decide +kernel
theorem dX12_swing_73 : decode cX12_swing 73 = .ok (.iconst 2, 1) := by decide +kernel
theorem dX12_swing_74 : decode cX12_swing 74 = .ok (.if_icmp .ne 8, 3) := by decide +kernel
theorem dX12_swing_77 : decode cX12_swing 77 = .ok (.aload_n 0, 1) := by decide +kernel
theorem dX12_swing_78 : decode cX12_swing 78 = .ok (.invokevirtual 246, 3) := by decide +kernel
theorem dX12_swing_81 : decode cX12_swing 81 = .ok (.ireturn, 1) := by decide +kernel
theorem dX12_swing_82 : decode cX12_swing 82 = .ok (.aload_n 0, 1) := by decide +kernel
theorem dX12_swing_83 : decode cX12_swing 83 = .ok (.invokevirtual 249, 3) := by decide +kernel
theorem dX12_swing_86 : decode cX12_swing 86 = .ok (.istore 5, 2) := by decide +kernel
theorem dX12_swing_88 : decode cX12_swing 88 = .ok (.iload 4, 2) := by decide +kernel
theorem dX12_swing_90 : decode cX12_swing 90 = .ok (.ifCond .eq 9, 3) := by decide +kernel
theorem dX12_swing_93 : decode cX12_swing 93 = .ok (.iload 5, 2) := by decide +kernel
theorem dX12_swing_95 : decode cX12_swing 95 = .ok (.iconst (-1), 1) := by decide +kernel
theorem dX12_swing_96 : decode cX12_swing 96 = .ok (.if_icmp .ne 6, 3) := by decide +kernel
theorem dX12_swing_99 : decode cX12_swing 99 = .ok (.iload 5, 2) := by decide +kernel
theorem dX12_swing_101 : decode cX12_swing 101 = .ok (.ireturn, 1) := by decide +kernel
theorem dX12_swing_102 : decode cX12_swing 102 = .ok (.iload 5, 2) := by decide +kernel
theorem dX12_swing_104 : decode cX12_swing 104 = .ok (.istore 6, 2) := by decide +kernel
theorem dX12_swing_106 : decode cX12_swing 106 = .ok (.iload 5, 2) := by decide +kernel
theorem dX12_swing_108 : decode cX12_swing 108 = .ok (.iconst 1, 1) := by decide +kernel
theorem dX12_swing_109 : decode cX12_swing 109 = .ok (.iadd, 1) := by decide +kernel
theorem dX12_swing_110 : decode cX12_swing 110 = .ok (.istore 7, 2) := by decide +kernel
theorem dX12_swing_112 : decode cX12_swing 112 = .ok (.iload 7, 2) := by decide +kernel
theorem dX12_swing_114 : decode cX12_swing 114 = .ok (.sipush 600, 3) := by decide +kernel
theorem dX12_swing_117 : decode cX12_swing 117 = .ok (.if_icmp .gt 41, 3) := by decide +kernel
theorem dX12_swing_120 : decode cX12_swing 120 = .ok (.aload_n 0, 1) := by decide +kernel
theorem dX12_swing_121 : decode cX12_swing 121 = .ok (.getfield 76, 3) := by decide +kernel
theorem dX12_swing_124 : decode cX12_swing 124 = .ok (.iload 7, 2) := by decide +kernel
theorem dX12_swing_126 : decode cX12_swing 126 = .ok (.iaload, 1) := by decide +kernel
theorem dX12_swing_127 : decode cX12_swing 127 = .ok (.invokestatic 96, 3) := by decide +kernel
theorem dX12_swing_130 : decode cX12_swing 130 = .ok (.aload_n 0, 1) := by decide +kernel
theorem dX12_swing_131 : decode cX12_swing 131 = .ok (.getfield 76, 3) := by decide +kernel
theorem dX12_swing_134 : decode cX12_swing 134 = .ok (.iload 6, 2) := by decide +kernel
theorem dX12_swing_136 : decode cX12_swing 136 = .ok (.iaload, 1) := by decide +kernel
theorem dX12_swing_137 : decode cX12_swing 137 = .ok (.invokestatic 96, 3) := by decide +kernel
theorem dX12_swing_140 : decode cX12_swing 140 = .ok (.if_icmp .le 8, 3) := by decide +kernel
theorem dX12_swing_143 : decode cX12_swing 143 = .ok (.iload 7, 2) := by decide +kernel
theorem dX12_swing_145 : decode cX12_swing 145 = .ok (.goto 5, 3) := by decide +kernel
theorem dX12_swing_148 : decode cX12_swing 148 = .ok (.iload 6, 2) := by decide +kernel
theorem dX12_swing_150 : decode cX12_swing 150 = .ok (.istore 6, 2) := by decide +kernel
theorem dX12_swing_152 : decode cX12_swing 152 = .ok (.iinc 7 1, 3) := by decide +kernel
theorem dX12_swing_155 : decode cX12_swing 155 = .ok (.goto (-43), 3) := by decide +kernel
theorem dX12_swing_158 : decode cX12_swing 158 = .ok (.ldc 165, 2) := by decide +kernel
theorem dX12_swing_160 : decode cX12_swing 160 = .ok (.aload_n 0, 1) := by decide +kernel
theorem dX12_swing_161 : decode cX12_swing 161 = .ok (.getfield 76, 3) := by decide +kernel
theorem dX12_swing_164 : decode cX12_swing 164 = .ok (.iload 6, 2) := by decide +kernel
theorem dX12_swing_166 : decode cX12_swing 166 = .ok (.iaload, 1) := by decide +kernel
theorem dX12_swing_167 : decode cX12_swing 167 = .ok (.iadd, 1) := by decide +kernel
theorem dX12_swing_168 : decode cX12_swing 168 = .ok (.ireturn, 1) := by decide +kernel
theorem dX12_noUse_0 : decode cX12_noUse 0 = .ok (.iload_n 1, 1) := by decide +kernel
theorem dX12_noUse_1 : decode cX12_noUse 1 = .ok (.invokestatic 127, 3) := by decide +kernel
theorem dX12_noUse_4 : decode cX12_noUse 4 = .ok (.ifCond .ne 6, 3) := by decide +kernel
theorem dX12_noUse_7 : decode cX12_noUse 7 = .ok (.bipush (-2), 2) := by decide +kernel
theorem dX12_noUse_9 : decode cX12_noUse 9 = .ok (.ireturn, 1) := by decide +kernel
theorem dX12_noUse_10 : decode cX12_noUse 10 = .ok (.iconst 0, 1) := by decide +kernel
theorem dX12_noUse_11 : decode cX12_noUse 11 = .ok (.istore_n 2, 1) := by decide +kernel
theorem dX12_noUse_12 : decode cX12_noUse 12 = .ok (.iload_n 2, 1) := by decide +kernel
theorem dX12_noUse_13 : decode cX12_noUse 13 = .ok (.bipush 90, 2) := by decide +kernel
theorem dX12_noUse_15 : decode cX12_noUse 15 = .ok (.if_icmp .ge 43, 3) := by decide +kernel
theorem dX12_noUse_18 : decode cX12_noUse 18 = .ok (.aload_n 0, 1) := by decide +kernel
theorem dX12_noUse_19 : decode cX12_noUse 19 = .ok (.aload_n 0, 1) := by decide +kernel
theorem dX12_noUse_20 : decode cX12_noUse 20 = .ok (.getfield 28, 3) := by decide +kernel
theorem dX12_noUse_23 : decode cX12_noUse 23 = .ok (.iload_n 1, 1) := by decide +kernel
theorem dX12_noUse_24 : decode cX12_noUse 24 = .ok (.iaload, 1) := by decide +kernel
theorem dX12_noUse_25 : decode cX12_noUse 25 = .ok (.aload_n 0, 1) := by decide +kernel
theorem dX12_noUse_26 : decode cX12_noUse 26 = .ok (.getfield 31, 3) := by decide +kernel
theorem dX12_noUse_29 : decode cX12_noUse 29 = .ok (.iload_n 1, 1) := by decide +kernel
theorem dX12_noUse_30 : decode cX12_noUse 30 = .ok (.iaload, 1) := by decide +kernel
theorem dX12_noUse_31 : decode cX12_noUse 31 = .ok (.iconst 1, 1) := by decide +kernel
theorem dX12_noUse_32 : decode cX12_noUse 32 = .ok (.iload_n 2, 1) := by decide +kernel
theorem dX12_noUse_33 : decode cX12_noUse 33 = .ok (.sipush 3000, 3) := by decide +kernel
theorem dX12_noUse_36 : decode cX12_noUse 36 = .ok (.sipush 600, 3) := by decide +kernel
theorem dX12_noUse_39 : decode cX12_noUse 39 = .ok (.invokevirtual 242, 3) := by decide +kernel
theorem dX12_noUse_42 : decode cX12_noUse 42 = .ok (.aload_n 0, 1) := by decide +kernel
theorem dX12_noUse_43 : decode cX12_noUse 43 = .ok (.invokevirtual 246, 3) := by decide +kernel
theorem dX12_noUse_46 : decode cX12_noUse 46 = .ok (.iconst (-1), 1) := by decide +kernel
theorem dX12_noUse_47 : decode cX12_noUse 47 = .ok (.if_icmp .ne 5, 3) := by decide +kernel
theorem dX12_noUse_50 : decode cX12_noUse 50 = .ok (.iload_n 2, 1) := by decide +kernel
theorem dX12_noUse_51 : decode cX12_noUse 51 = .ok (.ireturn, 1) := by decide +kernel
theorem dX12_noUse_52 : decode cX12_noUse 52 = .ok (.iinc 2 1, 3) := by decide +kernel
theorem dX12_noUse_55 : decode cX12_noUse 55 = .ok (.goto (-43), 3) := by decide +kernel
theorem dX12_noUse_58 : decode cX12_noUse 58 = .ok (.iconst (-1), 1) := by decide +kernel
theorem dX12_noUse_59 : decode cX12_noUse 59 = .ok (.ireturn, 1) := by decide +kernel
theorem dX12_turnedOf_0 : decode cX12_turnedOf 0 = .ok (.iconst 0, 1) := by decide +kernel
theorem dX12_turnedOf_1 : decode cX12_turnedOf 1 = .ok (.istore 6, 2) := by decide +kernel
theorem dX12_turnedOf_3 : decode cX12_turnedOf 3 = .ok (.iconst 0, 1) := by decide +kernel
theorem dX12_turnedOf_4 : decode cX12_turnedOf 4 = .ok (.istore 7, 2) := by decide +kernel
theorem dX12_turnedOf_6 : decode cX12_turnedOf 6 = .ok (.iconst 0, 1) := by decide +kernel
theorem dX12_turnedOf_7 : decode cX12_turnedOf 7 = .ok (.istore 8, 2) := by decide +kernel
theorem dX12_turnedOf_9 : decode cX12_turnedOf 9 = .ok (.iconst 1, 1) := by decide +kernel
theorem dX12_turnedOf_10 : decode cX12_turnedOf 10 = .ok (.istore 9, 2) := by decide +kernel
theorem dX12_turnedOf_12 : decode cX12_turnedOf 12 = .ok (.iload 9, 2) := by decide +kernel
theorem dX12_turnedOf_14 : decode cX12_turnedOf 14 = .ok (.iload_n 3, 1) := by decide +kernel
theorem dX12_turnedOf_15 : decode cX12_turnedOf 15 = .ok (.if_icmp .gt 98, 3) := by decide +kernel
theorem dX12_turnedOf_18 : decode cX12_turnedOf 18 = .ok (.iload 7, 2) := by decide +kernel
theorem dX12_turnedOf_20 : decode cX12_turnedOf 20 = .ok (.iload_n 2, 1) := by decide +kernel
theorem dX12_turnedOf_21 : decode cX12_turnedOf 21 = .ok (.aload_n 0, 1) := by decide +kernel
theorem dX12_turnedOf_22 : decode cX12_turnedOf 22 = .ok (.getfield 7, 3) := by decide +kernel
theorem dX12_turnedOf_25 : decode cX12_turnedOf 25 = .ok (.iconst 0, 1) := by decide +kernel
theorem dX12_turnedOf_26 : decode cX12_turnedOf 26 = .ok (.iaload, 1) := by decide +kernel
theorem dX12_turnedOf_27 : decode cX12_turnedOf 27 = .ok (.iload 6, 2) := by decide +kernel
theorem dX12_turnedOf_29 : decode cX12_turnedOf 29 = .ok (.invokestatic 170, 3) := by decide +kernel
theorem dX12_turnedOf_32 : decode cX12_turnedOf 32 = .ok (.aload_n 0, 1) := by decide +kernel
theorem dX12_turnedOf_33 : decode cX12_turnedOf 33 = .ok (.getfield 31, 3) := by decide +kernel
theorem dX12_turnedOf_36 : decode cX12_turnedOf 36 = .ok (.iload_n 1, 1) := by decide +kernel
theorem dX12_turnedOf_37 : decode cX12_turnedOf 37 = .ok (.iaload, 1) := by decide +kernel
theorem dX12_turnedOf_38 : decode cX12_turnedOf 38 = .ok (.invokestatic 174, 3) := by decide +kernel
theorem dX12_turnedOf_41 : decode cX12_turnedOf 41 = .ok (.istore 7, 2) := by decide +kernel
theorem dX12_turnedOf_43 : decode cX12_turnedOf 43 = .ok (.iload 7, 2) := by decide +kernel
theorem dX12_turnedOf_45 : decode cX12_turnedOf 45 = .ok (.iload 9, 2) := by decide +kernel
theorem dX12_turnedOf_47 : decode cX12_turnedOf 47 = .ok (.iload 4, 2) := by decide +kernel
theorem dX12_turnedOf_49 : decode cX12_turnedOf 49 = .ok (.if_icmp .gt 8, 3) := by decide +kernel
theorem dX12_turnedOf_52 : decode cX12_turnedOf 52 = .ok (.iload 5, 2) := by decide +kernel
theorem dX12_turnedOf_54 : decode cX12_turnedOf 54 = .ok (.goto 4, 3) := by decide +kernel
theorem dX12_turnedOf_57 : decode cX12_turnedOf 57 = .ok (.iconst 0, 1) := by decide +kernel
theorem dX12_turnedOf_58 : decode cX12_turnedOf 58 = .ok (.aload_n 0, 1) := by decide +kernel
theorem dX12_turnedOf_59 : decode cX12_turnedOf 59 = .ok (.getfield 34, 3) := by decide +kernel
theorem dX12_turnedOf_62 : decode cX12_turnedOf 62 = .ok (.iload_n 1, 1) := by decide +kernel
theorem dX12_turnedOf_63 : decode cX12_turnedOf 63 = .ok (.iaload, 1) := by decide +kernel
theorem dX12_turnedOf_64 : decode cX12_turnedOf 64 = .ok (.invokestatic 177, 3) := by decide +kernel
theorem dX12_turnedOf_67 : decode cX12_turnedOf 67 = .ok (.sipush 9999, 3) := by decide +kernel
theorem dX12_turnedOf_70 : decode cX12_turnedOf 70 = .ok (.invokestatic 180, 3) := by decide +kernel
theorem dX12_turnedOf_73 : decode cX12_turnedOf 73 = .ok (.istore 7, 2) := by decide +kernel
theorem dX12_turnedOf_75 : decode cX12_turnedOf 75 = .ok (.iload 6, 2) := by decide +kernel
theorem dX12_turnedOf_77 : decode cX12_turnedOf 77 = .ok (.iload 7, 2) := by decide +kernel
theorem dX12_turnedOf_79 : decode cX12_turnedOf 79 = .ok (.iadd, 1) := by decide +kernel
theorem dX12_turnedOf_80 : decode cX12_turnedOf 80 = .ok (.invokestatic 167, 3) := by decide +kernel
theorem dX12_turnedOf_83 : decode cX12_turnedOf 83 = .ok (.istore 6, 2) := by decide +kernel
theorem dX12_turnedOf_85 : decode cX12_turnedOf 85 = .ok (.iload 6, 2) := by decide +kernel
theorem dX12_turnedOf_87 : decode cX12_turnedOf 87 = .ok (.invokestatic 96, 3) := by decide +kernel
theorem dX12_turnedOf_90 : decode cX12_turnedOf 90 = .ok (.iload 8, 2) := by decide +kernel
theorem dX12_turnedOf_92 : decode cX12_turnedOf 92 = .ok (.if_icmp .le 11, 3) := by decide +kernel
theorem dX12_turnedOf_95 : decode cX12_turnedOf 95 = .ok (.iload 6, 2) := by decide +kernel
theorem dX12_turnedOf_97 : decode cX12_turnedOf 97 = .ok (.invokestatic 96, 3) := by decide +kernel
theorem dX12_turnedOf_100 : decode cX12_turnedOf 100 = .ok (.goto 5, 3) := by decide +kernel
theorem dX12_turnedOf_103 : decode cX12_turnedOf 103 = .ok (.iload 8, 2) := by decide +kernel
theorem dX12_turnedOf_105 : decode cX12_turnedOf 105 = .ok (.istore 8, 2) := by decide +kernel
theorem dX12_turnedOf_107 : decode cX12_turnedOf 107 = .ok (.iinc 9 1, 3) := by decide +kernel
theorem dX12_turnedOf_110 : decode cX12_turnedOf 110 = .ok (.goto (-98), 3) := by decide +kernel
theorem dX12_turnedOf_113 : decode cX12_turnedOf 113 = .ok (.iload 8, 2) := by decide +kernel
theorem dX12_turnedOf_115 : decode cX12_turnedOf 115 = .ok (.ireturn, 1) := by decide +kernel
theorem dX12_isTurn_0 : decode cX12_isTurn 0 = .ok (.iload_n 0, 1) := by decide +kernel
theorem dX12_isTurn_1 : decode cX12_isTurn 1 = .ok (.i2l, 1) := by decide +kernel
theorem dX12_isTurn_2 : decode cX12_isTurn 2 = .ok (.lconst 1, 1) := by decide +kernel
theorem dX12_isTurn_3 : decode cX12_isTurn 3 = .ok (.ldc2_w 252, 3) := by decide +kernel
theorem dX12_isTurn_6 : decode cX12_isTurn 6 = .ok (.invokestatic 87, 3) := by decide +kernel
theorem dX12_isTurn_9 : decode cX12_isTurn 9 = .ok (.ifCond .eq 32, 3) := by decide +kernel
theorem dX12_isTurn_12 : decode cX12_isTurn 12 = .ok (.iload_n 1, 1) := by decide +kernel
theorem dX12_isTurn_13 : decode cX12_isTurn 13 = .ok (.i2l, 1) := by decide +kernel
theorem dX12_isTurn_14 : decode cX12_isTurn 14 = .ok (.lconst 0, 1) := by decide +kernel
theorem dX12_isTurn_15 : decode cX12_isTurn 15 = .ok (.iload_n 0, 1) := by decide +kernel
theorem dX12_isTurn_16 : decode cX12_isTurn 16 = .ok (.i2l, 1) := by decide +kernel
theorem dX12_isTurn_17 : decode cX12_isTurn 17 = .ok (.invokestatic 87, 3) := by decide +kernel
theorem dX12_isTurn_20 : decode cX12_isTurn 20 = .ok (.ifCond .eq 21, 3) := by decide +kernel
theorem dX12_isTurn_23 : decode cX12_isTurn 23 = .ok (.iload_n 2, 1) := by decide +kernel
theorem dX12_isTurn_24 : decode cX12_isTurn 24 = .ok (.i2l, 1) := by decide +kernel
theorem dX12_isTurn_25 : decode cX12_isTurn 25 = .ok (.ldc2_w 119, 3) := by decide +kernel
theorem dX12_isTurn_28 : decode cX12_isTurn 28 = .ok (.ldc2_w 121, 3) := by decide +kernel
theorem dX12_isTurn_31 : decode cX12_isTurn 31 = .ok (.invokestatic 87, 3) := by decide +kernel
theorem dX12_isTurn_34 : decode cX12_isTurn 34 = .ok (.ifCond .eq 7, 3) := by decide +kernel
theorem dX12_isTurn_37 : decode cX12_isTurn 37 = .ok (.iconst 1, 1) := by decide +kernel
theorem dX12_isTurn_38 : decode cX12_isTurn 38 = .ok (.goto 4, 3) := by decide +kernel
theorem dX12_isTurn_41 : decode cX12_isTurn 41 = .ok (.iconst 0, 1) := by decide +kernel
theorem dX12_isTurn_42 : decode cX12_isTurn 42 = .ok (.ireturn, 1) := by decide +kernel
theorem dX12_turned_0 : decode cX12_turned 0 = .ok (.iload_n 1, 1) := by decide +kernel
theorem dX12_turned_1 : decode cX12_turned 1 = .ok (.invokestatic 127, 3) := by decide +kernel
theorem dX12_turned_4 : decode cX12_turned 4 = .ok (.ifCond .ne 6, 3) := by decide +kernel
theorem dX12_turned_7 : decode cX12_turned 7 = .ok (.bipush (-2), 2) := by decide +kernel
theorem dX12_turned_9 : decode cX12_turned 9 = .ok (.ireturn, 1) := by decide +kernel
theorem dX12_turned_10 : decode cX12_turned 10 = .ok (.iload_n 2, 1) := by decide +kernel
theorem dX12_turned_11 : decode cX12_turned 11 = .ok (.iload_n 3, 1) := by decide +kernel
theorem dX12_turned_12 : decode cX12_turned 12 = .ok (.iload 4, 2) := by decide +kernel
theorem dX12_turned_14 : decode cX12_turned 14 = .ok (.invokestatic 254, 3) := by decide +kernel
theorem dX12_turned_17 : decode cX12_turned 17 = .ok (.ifCond .eq 21, 3) := by decide +kernel
theorem dX12_turned_20 : decode cX12_turned 20 = .ok (.aload_n 0, 1) := by decide +kernel
theorem dX12_turned_21 : decode cX12_turned 21 = .ok (.iload_n 1, 1) := by decide +kernel
theorem dX12_turned_22 : decode cX12_turned 22 = .ok (.aload_n 0, 1) := by decide +kernel
theorem dX12_turned_23 : decode cX12_turned 23 = .ok (.getfield 28, 3) := by decide +kernel
theorem dX12_turned_26 : decode cX12_turned 26 = .ok (.iload_n 1, 1) := by decide +kernel
theorem dX12_turned_27 : decode cX12_turned 27 = .ok (.iaload, 1) := by decide +kernel
theorem dX12_turned_28 : decode cX12_turned 28 = .ok (.iload_n 2, 1) := by decide +kernel
theorem dX12_turned_29 : decode cX12_turned 29 = .ok (.iload_n 3, 1) := by decide +kernel
theorem dX12_turned_30 : decode cX12_turned 30 = .ok (.iload 4, 2) := by decide +kernel
theorem dX12_turned_32 : decode cX12_turned 32 = .ok (.invokevirtual 258, 3) := by decide +kernel
theorem dX12_turned_35 : decode cX12_turned 35 = .ok (.goto 5, 3) := by decide +kernel
theorem dX12_turned_38 : decode cX12_turned 38 = .ok (.bipush (-3), 2) := by decide +kernel
theorem dX12_turned_40 : decode cX12_turned 40 = .ok (.ireturn, 1) := by decide +kernel
theorem dX12_bestPull_0 : decode cX12_bestPull 0 = .ok (.iload_n 1, 1) := by decide +kernel
theorem dX12_bestPull_1 : decode cX12_bestPull 1 = .ok (.invokestatic 127, 3) := by decide +kernel
theorem dX12_bestPull_4 : decode cX12_bestPull 4 = .ok (.ifCond .ne 6, 3) := by decide +kernel
theorem dX12_bestPull_7 : decode cX12_bestPull 7 = .ok (.bipush (-2), 2) := by decide +kernel
theorem dX12_bestPull_9 : decode cX12_bestPull 9 = .ok (.ireturn, 1) := by decide +kernel
theorem dX12_bestPull_10 : decode cX12_bestPull 10 = .ok (.iload_n 2, 1) := by decide +kernel
theorem dX12_bestPull_11 : decode cX12_bestPull 11 = .ok (.iload_n 3, 1) := by decide +kernel
theorem dX12_bestPull_12 : decode cX12_bestPull 12 = .ok (.iload 4, 2) := by decide +kernel
theorem dX12_bestPull_14 : decode cX12_bestPull 14 = .ok (.invokestatic 254, 3) := by decide +kernel
theorem dX12_bestPull_17 : decode cX12_bestPull 17 = .ok (.ifCond .ne 6, 3) := by decide +kernel
theorem dX12_bestPull_20 : decode cX12_bestPull 20 = .ok (.bipush (-3), 2) := by decide +kernel
theorem dX12_bestPull_22 : decode cX12_bestPull 22 = .ok (.ireturn, 1) := by decide +kernel
theorem dX12_bestPull_23 : decode cX12_bestPull 23 = .ok (.iconst 1, 1) := by decide +kernel
theorem dX12_bestPull_24 : decode cX12_bestPull 24 = .ok (.istore 5, 2) := by decide +kernel
theorem dX12_bestPull_26 : decode cX12_bestPull 26 = .ok (.iconst 2, 1) := by decide +kernel
theorem dX12_bestPull_27 : decode cX12_bestPull 27 = .ok (.istore 6, 2) := by decide +kernel
theorem dX12_bestPull_29 : decode cX12_bestPull 29 = .ok (.iload 6, 2) := by decide +kernel
theorem dX12_bestPull_31 : decode cX12_bestPull 31 = .ok (.bipush 100, 2) := by decide +kernel
theorem dX12_bestPull_33 : decode cX12_bestPull 33 = .ok (.if_icmp .ge 43, 3) := by decide +kernel
theorem dX12_bestPull_36 : decode cX12_bestPull 36 = .ok (.aload_n 0, 1) := by decide +kernel
theorem dX12_bestPull_37 : decode cX12_bestPull 37 = .ok (.iload_n 1, 1) := by decide +kernel
theorem dX12_bestPull_38 : decode cX12_bestPull 38 = .ok (.iload 6, 2) := by decide +kernel
theorem dX12_bestPull_40 : decode cX12_bestPull 40 = .ok (.iload_n 2, 1) := by decide +kernel
theorem dX12_bestPull_41 : decode cX12_bestPull 41 = .ok (.iload_n 3, 1) := by decide +kernel
theorem dX12_bestPull_42 : decode cX12_bestPull 42 = .ok (.iload 4, 2) := by decide +kernel
theorem dX12_bestPull_44 : decode cX12_bestPull 44 = .ok (.invokevirtual 258, 3) := by decide +kernel
theorem dX12_bestPull_47 : decode cX12_bestPull 47 = .ok (.aload_n 0, 1) := by decide +kernel
theorem dX12_bestPull_48 : decode cX12_bestPull 48 = .ok (.iload_n 1, 1) := by decide +kernel
theorem dX12_bestPull_49 : decode cX12_bestPull 49 = .ok (.iload 5, 2) := by decide +kernel
theorem dX12_bestPull_51 : decode cX12_bestPull 51 = .ok (.iload_n 2, 1) := by decide +kernel
theorem dX12_bestPull_52 : decode cX12_bestPull 52 = .ok (.iload_n 3, 1) := by decide +kernel
theorem dX12_bestPull_53 : decode cX12_bestPull 53 = .ok (.iload 4, 2) := by decide +kernel
theorem dX12_bestPull_55 : decode cX12_bestPull 55 = .ok (.invokevirtual 258, 3) := by decide +kernel
theorem dX12_bestPull_58 : decode cX12_bestPull 58 = .ok (.if_icmp .ge 8, 3) := by decide +kernel
theorem dX12_bestPull_61 : decode cX12_bestPull 61 = .ok (.iload 6, 2) := by decide +kernel
theorem dX12_bestPull_63 : decode cX12_bestPull 63 = .ok (.goto 5, 3) := by decide +kernel
theorem dX12_bestPull_66 : decode cX12_bestPull 66 = .ok (.iload 5, 2) := by decide +kernel
theorem dX12_bestPull_68 : decode cX12_bestPull 68 = .ok (.istore 5, 2) := by decide +kernel
theorem dX12_bestPull_70 : decode cX12_bestPull 70 = .ok (.iinc 6 1, 3) := by decide +kernel
theorem dX12_bestPull_73 : decode cX12_bestPull 73 = .ok (.goto (-44), 3) := by decide +kernel
theorem dX12_bestPull_76 : decode cX12_bestPull 76 = .ok (.iload 5, 2) := by decide +kernel
theorem dX12_bestPull_78 : decode cX12_bestPull 78 = .ok (.ireturn, 1) := by decide +kernel
theorem dX12_keep_0 : decode cX12_keep 0 = .ok (.iconst 0, 1) := by decide +kernel
theorem dX12_keep_1 : decode cX12_keep 1 = .ok (.istore_n 3, 1) := by decide +kernel
theorem dX12_keep_2 : decode cX12_keep 2 = .ok (.iload_n 3, 1) := by decide +kernel
theorem dX12_keep_3 : decode cX12_keep 3 = .ok (.iconst 4, 1) := by decide +kernel
theorem dX12_keep_4 : decode cX12_keep 4 = .ok (.if_icmp .ge 23, 3) := by decide +kernel
theorem dX12_keep_7 : decode cX12_keep 7 = .ok (.aload_n 0, 1) := by decide +kernel
theorem dX12_keep_8 : decode cX12_keep 8 = .ok (.getfield 7, 3) := by decide +kernel
theorem dX12_keep_11 : decode cX12_keep 11 = .ok (.iconst 4, 1) := by decide +kernel
theorem dX12_keep_12 : decode cX12_keep 12 = .ok (.iload_n 3, 1) := by decide +kernel
theorem dX12_keep_13 : decode cX12_keep 13 = .ok (.iadd, 1) := by decide +kernel
theorem dX12_keep_14 : decode cX12_keep 14 = .ok (.aload_n 0, 1) := by decide +kernel
theorem dX12_keep_15 : decode cX12_keep 15 = .ok (.getfield 7, 3) := by decide +kernel
theorem dX12_keep_18 : decode cX12_keep 18 = .ok (.iload_n 3, 1) := by decide +kernel
theorem dX12_keep_19 : decode cX12_keep 19 = .ok (.iaload, 1) := by decide +kernel
theorem dX12_keep_20 : decode cX12_keep 20 = .ok (.iastore, 1) := by decide +kernel
theorem dX12_keep_21 : decode cX12_keep 21 = .ok (.iinc 3 1, 3) := by decide +kernel
theorem dX12_keep_24 : decode cX12_keep 24 = .ok (.goto (-22), 3) := by decide +kernel
theorem dX12_keep_27 : decode cX12_keep 27 = .ok (.iconst 0, 1) := by decide +kernel
theorem dX12_keep_28 : decode cX12_keep 28 = .ok (.istore_n 3, 1) := by decide +kernel
theorem dX12_keep_29 : decode cX12_keep 29 = .ok (.iload_n 3, 1) := by decide +kernel
theorem dX12_keep_30 : decode cX12_keep 30 = .ok (.iconst 3, 1) := by decide +kernel
theorem dX12_keep_31 : decode cX12_keep 31 = .ok (.if_icmp .ge 37, 3) := by decide +kernel
theorem dX12_keep_34 : decode cX12_keep 34 = .ok (.aload_n 0, 1) := by decide +kernel
theorem dX12_keep_35 : decode cX12_keep 35 = .ok (.getfield 37, 3) := by decide +kernel
theorem dX12_keep_38 : decode cX12_keep 38 = .ok (.iconst 3, 1) := by decide +kernel
theorem dX12_keep_39 : decode cX12_keep 39 = .ok (.iload_n 3, 1) := by decide +kernel
theorem dX12_keep_40 : decode cX12_keep 40 = .ok (.iadd, 1) := by decide +kernel
theorem dX12_keep_41 : decode cX12_keep 41 = .ok (.aload_n 0, 1) := by decide +kernel
theorem dX12_keep_42 : decode cX12_keep 42 = .ok (.getfield 37, 3) := by decide +kernel
theorem dX12_keep_45 : decode cX12_keep 45 = .ok (.iload_n 3, 1) := by decide +kernel
theorem dX12_keep_46 : decode cX12_keep 46 = .ok (.iaload, 1) := by decide +kernel
theorem dX12_keep_47 : decode cX12_keep 47 = .ok (.iastore, 1) := by decide +kernel
theorem dX12_keep_48 : decode cX12_keep 48 = .ok (.aload_n 0, 1) := by decide +kernel
theorem dX12_keep_49 : decode cX12_keep 49 = .ok (.getfield 40, 3) := by decide +kernel
theorem dX12_keep_52 : decode cX12_keep 52 = .ok (.iconst 3, 1) := by decide +kernel
theorem dX12_keep_53 : decode cX12_keep 53 = .ok (.iload_n 3, 1) := by decide +kernel
theorem dX12_keep_54 : decode cX12_keep 54 = .ok (.iadd, 1) := by decide +kernel
theorem dX12_keep_55 : decode cX12_keep 55 = .ok (.aload_n 0, 1) := by decide +kernel
theorem dX12_keep_56 : decode cX12_keep 56 = .ok (.getfield 40, 3) := by decide +kernel
theorem dX12_keep_59 : decode cX12_keep 59 = .ok (.iload_n 3, 1) := by decide +kernel
theorem dX12_keep_60 : decode cX12_keep 60 = .ok (.iaload, 1) := by decide +kernel
theorem dX12_keep_61 : decode cX12_keep 61 = .ok (.iastore, 1) := by decide +kernel
theorem dX12_keep_62 : decode cX12_keep 62 = .ok (.iinc 3 1, 3) := by decide +kernel
theorem dX12_keep_65 : decode cX12_keep 65 = .ok (.goto (-36), 3) := by decide +kernel
theorem dX12_keep_68 : decode cX12_keep 68 = .ok (.aload_n 0, 1) := by decide +kernel
theorem dX12_keep_69 : decode cX12_keep 69 = .ok (.getfield 13, 3) := by decide +kernel
theorem dX12_keep_72 : decode cX12_keep 72 = .ok (.iconst 1, 1) := by decide +kernel
theorem dX12_keep_73 : decode cX12_keep 73 = .ok (.aload_n 0, 1) := by decide +kernel
theorem dX12_keep_74 : decode cX12_keep 74 = .ok (.getfield 13, 3) := by decide +kernel
theorem dX12_keep_77 : decode cX12_keep 77 = .ok (.iconst 0, 1) := by decide +kernel
theorem dX12_keep_78 : decode cX12_keep 78 = .ok (.iaload, 1) := by decide +kernel
theorem dX12_keep_79 : decode cX12_keep 79 = .ok (.iastore, 1) := by decide +kernel
theorem dX12_keep_80 : decode cX12_keep 80 = .ok (.aload_n 0, 1) := by decide +kernel
theorem dX12_keep_81 : decode cX12_keep 81 = .ok (.getfield 16, 3) := by decide +kernel
theorem dX12_keep_84 : decode cX12_keep 84 = .ok (.iconst 1, 1) := by decide +kernel
theorem dX12_keep_85 : decode cX12_keep 85 = .ok (.aload_n 0, 1) := by decide +kernel
theorem dX12_keep_86 : decode cX12_keep 86 = .ok (.getfield 16, 3) := by decide +kernel
theorem dX12_keep_89 : decode cX12_keep 89 = .ok (.iconst 0, 1) := by decide +kernel
theorem dX12_keep_90 : decode cX12_keep 90 = .ok (.iaload, 1) := by decide +kernel
theorem dX12_keep_91 : decode cX12_keep 91 = .ok (.iastore, 1) := by decide +kernel
theorem dX12_keep_92 : decode cX12_keep 92 = .ok (.aload_n 0, 1) := by decide +kernel
theorem dX12_keep_93 : decode cX12_keep 93 = .ok (.getfield 19, 3) := by decide +kernel
theorem dX12_keep_96 : decode cX12_keep 96 = .ok (.iconst 1, 1) := by decide +kernel
theorem dX12_keep_97 : decode cX12_keep 97 = .ok (.aload_n 0, 1) := by decide +kernel
theorem dX12_keep_98 : decode cX12_keep 98 = .ok (.getfield 19, 3) := by decide +kernel
theorem dX12_keep_101 : decode cX12_keep 101 = .ok (.iconst 0, 1) := by decide +kernel
theorem dX12_keep_102 : decode cX12_keep 102 = .ok (.iaload, 1) := by decide +kernel
theorem dX12_keep_103 : decode cX12_keep 103 = .ok (.iastore, 1) := by decide +kernel
theorem dX12_keep_104 : decode cX12_keep 104 = .ok (.aload_n 0, 1) := by decide +kernel
theorem dX12_keep_105 : decode cX12_keep 105 = .ok (.iconst 0, 1) := by decide +kernel
theorem dX12_keep_106 : decode cX12_keep 106 = .ok (.putfield 262, 3) := by decide +kernel
theorem dX12_keep_109 : decode cX12_keep 109 = .ok (.aload_n 0, 1) := by decide +kernel
theorem dX12_keep_110 : decode cX12_keep 110 = .ok (.iconst 0, 1) := by decide +kernel
theorem dX12_keep_111 : decode cX12_keep 111 = .ok (.putfield 265, 3) := by decide +kernel
theorem dX12_keep_114 : decode cX12_keep 114 = .ok (.iconst 1, 1) := by decide +kernel
theorem dX12_keep_115 : decode cX12_keep 115 = .ok (.istore_n 3, 1) := by decide +kernel
theorem dX12_keep_116 : decode cX12_keep 116 = .ok (.iload_n 3, 1) := by decide +kernel
theorem dX12_keep_117 : decode cX12_keep 117 = .ok (.iload_n 1, 1) := by decide +kernel
theorem dX12_keep_118 : decode cX12_keep 118 = .ok (.if_icmp .gt 87, 3) := by decide +kernel
theorem dX12_keep_121 : decode cX12_keep 121 = .ok (.aload_n 0, 1) := by decide +kernel
theorem dX12_keep_122 : decode cX12_keep 122 = .ok (.iconst 1, 1) := by decide +kernel
theorem dX12_keep_123 : decode cX12_keep 123 = .ok (.iload_n 2, 1) := by decide +kernel
theorem dX12_keep_124 : decode cX12_keep 124 = .ok (.invokevirtual 188, 3) := by decide +kernel
theorem dX12_keep_127 : decode cX12_keep 127 = .ok (.aload_n 0, 1) := by decide +kernel
theorem dX12_keep_128 : decode cX12_keep 128 = .ok (.iconst 1, 1) := by decide +kernel
theorem dX12_keep_129 : decode cX12_keep 129 = .ok (.invokevirtual 192, 3) := by decide +kernel
theorem dX12_keep_132 : decode cX12_keep 132 = .ok (.aload_n 0, 1) := by decide +kernel
theorem dX12_keep_133 : decode cX12_keep 133 = .ok (.dup, 1) := by decide +kernel
theorem dX12_keep_134 : decode cX12_keep 134 = .ok (.getfield 265, 3) := by decide +kernel
theorem dX12_keep_137 : decode cX12_keep 137 = .ok (.aload_n 0, 1) := by decide +kernel
theorem dX12_keep_138 : decode cX12_keep 138 = .ok (.getfield 7, 3) := by decide +kernel
theorem dX12_keep_141 : decode cX12_keep 141 = .ok (.bipush 7, 2) := by decide +kernel
theorem dX12_keep_143 : decode cX12_keep 143 = .ok (.iaload, 1) := by decide +kernel
theorem dX12_keep_144 : decode cX12_keep 144 = .ok (.invokestatic 96, 3) := by decide +kernel
theorem dX12_keep_147 : decode cX12_keep 147 = .ok (.iadd, 1) := by decide +kernel
theorem dX12_keep_148 : decode cX12_keep 148 = .ok (.putfield 265, 3) := by decide +kernel
theorem dX12_keep_151 : decode cX12_keep 151 = .ok (.aload_n 0, 1) := by decide +kernel
theorem dX12_keep_152 : decode cX12_keep 152 = .ok (.getfield 183, 3) := by decide +kernel
theorem dX12_keep_155 : decode cX12_keep 155 = .ok (.aload_n 0, 1) := by decide +kernel
theorem dX12_keep_156 : decode cX12_keep 156 = .ok (.getfield 13, 3) := by decide +kernel
theorem dX12_keep_159 : decode cX12_keep 159 = .ok (.iconst 1, 1) := by decide +kernel
theorem dX12_keep_160 : decode cX12_keep 160 = .ok (.iaload, 1) := by decide +kernel
theorem dX12_keep_161 : decode cX12_keep 161 = .ok (.isub, 1) := by decide +kernel
theorem dX12_keep_162 : decode cX12_keep 162 = .ok (.invokestatic 167, 3) := by decide +kernel
theorem dX12_keep_165 : decode cX12_keep 165 = .ok (.invokestatic 96, 3) := by decide +kernel
theorem dX12_keep_168 : decode cX12_keep 168 = .ok (.istore 4, 2) := by decide +kernel
theorem dX12_keep_170 : decode cX12_keep 170 = .ok (.aload_n 0, 1) := by decide +kernel
theorem dX12_keep_171 : decode cX12_keep 171 = .ok (.iload_n 3, 1) := by decide +kernel
theorem dX12_keep_172 : decode cX12_keep 172 = .ok (.iload_n 1, 1) := by decide +kernel
theorem dX12_keep_173 : decode cX12_keep 173 = .ok (.iconst 2, 1) := by decide +kernel
theorem dX12_keep_174 : decode cX12_keep 174 = .ok (.idiv, 1) := by decide +kernel
theorem dX12_keep_175 : decode cX12_keep 175 = .ok (.if_icmp .le 17, 3) := by decide +kernel
theorem dX12_keep_178 : decode cX12_keep 178 = .ok (.iload 4, 2) := by decide +kernel
theorem dX12_keep_180 : decode cX12_keep 180 = .ok (.aload_n 0, 1) := by decide +kernel
theorem dX12_keep_181 : decode cX12_keep 181 = .ok (.getfield 262, 3) := by decide +kernel
theorem dX12_keep_184 : decode cX12_keep 184 = .ok (.if_icmp .le 8, 3) := by decide +kernel
theorem dX12_keep_187 : decode cX12_keep 187 = .ok (.iload 4, 2) := by decide +kernel
theorem dX12_keep_189 : decode cX12_keep 189 = .ok (.goto 7, 3) := by decide +kernel
theorem dX12_keep_192 : decode cX12_keep 192 = .ok (.aload_n 0, 1) := by decide +kernel
theorem dX12_keep_193 : decode cX12_keep 193 = .ok (.getfield 262, 3) := by decide +kernel
theorem dX12_keep_196 : decode cX12_keep 196 = .ok (.putfield 262, 3) := by decide +kernel
theorem dX12_keep_199 : decode cX12_keep 199 = .ok (.iinc 3 1, 3) := by decide +kernel
theorem dX12_keep_202 : decode cX12_keep 202 = .ok (.goto (-86), 3) := by decide +kernel
theorem dX12_keep_205 : decode cX12_keep 205 = .ok (.return_, 1) := by decide +kernel
theorem dX12_kept_0 : decode cX12_kept 0 = .ok (.iload_n 1, 1) := by decide +kernel
theorem dX12_kept_1 : decode cX12_kept 1 = .ok (.i2l, 1) := by decide +kernel
theorem dX12_kept_2 : decode cX12_kept 2 = .ok (.lconst 1, 1) := by decide +kernel
theorem dX12_kept_3 : decode cX12_kept 3 = .ok (.ldc2_w 252, 3) := by decide +kernel
theorem dX12_kept_6 : decode cX12_kept 6 = .ok (.invokestatic 87, 3) := by decide +kernel
theorem dX12_kept_9 : decode cX12_kept 9 = .ok (.ifCond .eq 25, 3) := by decide +kernel
theorem dX12_kept_12 : decode cX12_kept 12 = .ok (.iload_n 2, 1) := by decide +kernel
theorem dX12_kept_13 : decode cX12_kept 13 = .ok (.i2l, 1) := by decide +kernel
theorem dX12_kept_14 : decode cX12_kept 14 = .ok (.lconst 0, 1) := by decide +kernel
theorem dX12_kept_15 : decode cX12_kept 15 = .ok (.ldc2_w 121, 3) := by decide +kernel
theorem dX12_kept_18 : decode cX12_kept 18 = .ok (.invokestatic 87, 3) := by decide +kernel
theorem dX12_kept_21 : decode cX12_kept 21 = .ok (.ifCond .eq 13, 3) := by decide +kernel
theorem dX12_kept_24 : decode cX12_kept 24 = .ok (.iload_n 3, 1) := by decide +kernel
theorem dX12_kept_25 : decode cX12_kept 25 = .ok (.i2l, 1) := by decide +kernel
theorem dX12_kept_26 : decode cX12_kept 26 = .ok (.lconst 0, 1) := by decide +kernel
theorem dX12_kept_27 : decode cX12_kept 27 = .ok (.lconst 1, 1) := by decide +kernel
theorem dX12_kept_28 : decode cX12_kept 28 = .ok (.invokestatic 87, 3) := by decide +kernel
theorem dX12_kept_31 : decode cX12_kept 31 = .ok (.ifCond .ne 6, 3) := by decide +kernel
theorem dX12_kept_34 : decode cX12_kept 34 = .ok (.bipush (-3), 2) := by decide +kernel
theorem dX12_kept_36 : decode cX12_kept 36 = .ok (.ireturn, 1) := by decide +kernel
theorem dX12_kept_37 : decode cX12_kept 37 = .ok (.aload_n 0, 1) := by decide +kernel
theorem dX12_kept_38 : decode cX12_kept 38 = .ok (.iload_n 1, 1) := by decide +kernel
theorem dX12_kept_39 : decode cX12_kept 39 = .ok (.iload_n 2, 1) := by decide +kernel
theorem dX12_kept_40 : decode cX12_kept 40 = .ok (.invokevirtual 268, 3) := by decide +kernel
theorem dX12_kept_43 : decode cX12_kept 43 = .ok (.iload_n 3, 1) := by decide +kernel
theorem dX12_kept_44 : decode cX12_kept 44 = .ok (.ifCond .ne 10, 3) := by decide +kernel
theorem dX12_kept_47 : decode cX12_kept 47 = .ok (.aload_n 0, 1) := by decide +kernel
theorem dX12_kept_48 : decode cX12_kept 48 = .ok (.getfield 262, 3) := by decide +kernel
theorem dX12_kept_51 : decode cX12_kept 51 = .ok (.goto 7, 3) := by decide +kernel
theorem dX12_kept_54 : decode cX12_kept 54 = .ok (.aload_n 0, 1) := by decide +kernel
theorem dX12_kept_55 : decode cX12_kept 55 = .ok (.getfield 265, 3) := by decide +kernel
theorem dX12_kept_58 : decode cX12_kept 58 = .ok (.ireturn, 1) := by decide +kernel
theorem dX12_bestDead_0 : decode cX12_bestDead 0 = .ok (.iload_n 1, 1) := by decide +kernel
theorem dX12_bestDead_1 : decode cX12_bestDead 1 = .ok (.i2l, 1) := by decide +kernel
theorem dX12_bestDead_2 : decode cX12_bestDead 2 = .ok (.lconst 1, 1) := by decide +kernel
theorem dX12_bestDead_3 : decode cX12_bestDead 3 = .ok (.ldc2_w 252, 3) := by decide +kernel
theorem dX12_bestDead_6 : decode cX12_bestDead 6 = .ok (.invokestatic 87, 3) := by decide +kernel
theorem dX12_bestDead_9 : decode cX12_bestDead 9 = .ok (.ifCond .eq 15, 3) := by decide +kernel
theorem dX12_bestDead_12 : decode cX12_bestDead 12 = .ok (.iload_n 2, 1) := by decide +kernel
theorem dX12_bestDead_13 : decode cX12_bestDead 13 = .ok (.i2l, 1) := by decide +kernel
theorem dX12_bestDead_14 : decode cX12_bestDead 14 = .ok (.lconst 0, 1) := by decide +kernel
theorem dX12_bestDead_15 : decode cX12_bestDead 15 = .ok (.ldc2_w 271, 3) := by decide +kernel
theorem dX12_bestDead_18 : decode cX12_bestDead 18 = .ok (.invokestatic 87, 3) := by decide +kernel
theorem dX12_bestDead_21 : decode cX12_bestDead 21 = .ok (.ifCond .ne 6, 3) := by decide +kernel
theorem dX12_bestDead_24 : decode cX12_bestDead 24 = .ok (.bipush (-3), 2) := by decide +kernel
theorem dX12_bestDead_26 : decode cX12_bestDead 26 = .ok (.ireturn, 1) := by decide +kernel
theorem dX12_bestDead_27 : decode cX12_bestDead 27 = .ok (.iconst (-1), 1) := by decide +kernel
theorem dX12_bestDead_28 : decode cX12_bestDead 28 = .ok (.istore_n 3, 1) := by decide +kernel
theorem dX12_bestDead_29 : decode cX12_bestDead 29 = .ok (.ldc_w 273, 3) := by decide +kernel
theorem dX12_bestDead_32 : decode cX12_bestDead 32 = .ok (.istore 4, 2) := by decide +kernel
theorem dX12_bestDead_34 : decode cX12_bestDead 34 = .ok (.iconst 0, 1) := by decide +kernel
theorem dX12_bestDead_35 : decode cX12_bestDead 35 = .ok (.istore 5, 2) := by decide +kernel
theorem dX12_bestDead_37 : decode cX12_bestDead 37 = .ok (.iload 5, 2) := by decide +kernel
theorem dX12_bestDead_39 : decode cX12_bestDead 39 = .ok (.sipush 1000, 3) := by decide +kernel
theorem dX12_bestDead_42 : decode cX12_bestDead 42 = .ok (.if_icmp .ge 68, 3) := by decide +kernel
theorem dX12_bestDead_45 : decode cX12_bestDead 45 = .ok (.aload_n 0, 1) := by decide +kernel
theorem dX12_bestDead_46 : decode cX12_bestDead 46 = .ok (.iload_n 1, 1) := by decide +kernel
theorem dX12_bestDead_47 : decode cX12_bestDead 47 = .ok (.iload 5, 2) := by decide +kernel
theorem dX12_bestDead_49 : decode cX12_bestDead 49 = .ok (.invokevirtual 268, 3) := by decide +kernel
theorem dX12_bestDead_52 : decode cX12_bestDead 52 = .ok (.aload_n 0, 1) := by decide +kernel
theorem dX12_bestDead_53 : decode cX12_bestDead 53 = .ok (.getfield 262, 3) := by decide +kernel
theorem dX12_bestDead_56 : decode cX12_bestDead 56 = .ok (.iload_n 2, 1) := by decide +kernel
theorem dX12_bestDead_57 : decode cX12_bestDead 57 = .ok (.if_icmp .gt 16, 3) := by decide +kernel
theorem dX12_bestDead_60 : decode cX12_bestDead 60 = .ok (.aload_n 0, 1) := by decide +kernel
theorem dX12_bestDead_61 : decode cX12_bestDead 61 = .ok (.getfield 265, 3) := by decide +kernel
theorem dX12_bestDead_64 : decode cX12_bestDead 64 = .ok (.iload 4, 2) := by decide +kernel
theorem dX12_bestDead_66 : decode cX12_bestDead 66 = .ok (.if_icmp .ge 7, 3) := by decide +kernel
theorem dX12_bestDead_69 : decode cX12_bestDead 69 = .ok (.iconst 1, 1) := by decide +kernel
theorem dX12_bestDead_70 : decode cX12_bestDead 70 = .ok (.goto 4, 3) := by decide +kernel
theorem dX12_bestDead_73 : decode cX12_bestDead 73 = .ok (.iconst 0, 1) := by decide +kernel
theorem dX12_bestDead_74 : decode cX12_bestDead 74 = .ok (.istore 6, 2) := by decide +kernel
theorem dX12_bestDead_76 : decode cX12_bestDead 76 = .ok (.iload 6, 2) := by decide +kernel
theorem dX12_bestDead_78 : decode cX12_bestDead 78 = .ok (.ifCond .eq 8, 3) := by decide +kernel
theorem dX12_bestDead_81 : decode cX12_bestDead 81 = .ok (.iload 5, 2) := by decide +kernel
theorem dX12_bestDead_83 : decode cX12_bestDead 83 = .ok (.goto 4, 3) := by decide +kernel
theorem dX12_bestDead_86 : decode cX12_bestDead 86 = .ok (.iload_n 3, 1) := by decide +kernel
theorem dX12_bestDead_87 : decode cX12_bestDead 87 = .ok (.istore_n 3, 1) := by decide +kernel
theorem dX12_bestDead_88 : decode cX12_bestDead 88 = .ok (.iload 6, 2) := by decide +kernel
theorem dX12_bestDead_90 : decode cX12_bestDead 90 = .ok (.ifCond .eq 10, 3) := by decide +kernel
theorem dX12_bestDead_93 : decode cX12_bestDead 93 = .ok (.aload_n 0, 1) := by decide +kernel
theorem dX12_bestDead_94 : decode cX12_bestDead 94 = .ok (.getfield 265, 3) := by decide +kernel
theorem dX12_bestDead_97 : decode cX12_bestDead 97 = .ok (.goto 5, 3) := by decide +kernel
theorem dX12_bestDead_100 : decode cX12_bestDead 100 = .ok (.iload 4, 2) := by decide +kernel
theorem dX12_bestDead_102 : decode cX12_bestDead 102 = .ok (.istore 4, 2) := by decide +kernel
theorem dX12_bestDead_104 : decode cX12_bestDead 104 = .ok (.iinc 5 10, 3) := by decide +kernel
theorem dX12_bestDead_107 : decode cX12_bestDead 107 = .ok (.goto (-70), 3) := by decide +kernel
theorem dX12_bestDead_110 : decode cX12_bestDead 110 = .ok (.iload_n 3, 1) := by decide +kernel
theorem dX12_bestDead_111 : decode cX12_bestDead 111 = .ok (.ireturn, 1) := by decide +kernel
theorem dX12_look_0 : decode cX12_look 0 = .ok (.iload_n 1, 1) := by decide +kernel
theorem dX12_look_1 : decode cX12_look 1 = .ok (.invokestatic 115, 3) := by decide +kernel
theorem dX12_look_4 : decode cX12_look 4 = .ok (.ifCond .eq 17, 3) := by decide +kernel
theorem dX12_look_7 : decode cX12_look 7 = .ok (.iload_n 2, 1) := by decide +kernel
theorem dX12_look_8 : decode cX12_look 8 = .ok (.invokestatic 115, 3) := by decide +kernel
theorem dX12_look_11 : decode cX12_look 11 = .ok (.ifCond .eq 10, 3) := by decide +kernel
theorem dX12_look_14 : decode cX12_look 14 = .ok (.iload_n 3, 1) := by decide +kernel
theorem dX12_look_15 : decode cX12_look 15 = .ok (.invokestatic 115, 3) := by decide +kernel
theorem dX12_look_18 : decode cX12_look 18 = .ok (.ifCond .ne 6, 3) := by decide +kernel
theorem dX12_look_21 : decode cX12_look 21 = .ok (.bipush (-3), 2) := by decide +kernel
theorem dX12_look_23 : decode cX12_look 23 = .ok (.ireturn, 1) := by decide +kernel
theorem dX12_look_24 : decode cX12_look 24 = .ok (.aload_n 0, 1) := by decide +kernel
theorem dX12_look_25 : decode cX12_look 25 = .ok (.getfield 274, 3) := by decide +kernel
theorem dX12_look_28 : decode cX12_look 28 = .ok (.bipush 16, 2) := by decide +kernel
theorem dX12_look_30 : decode cX12_look 30 = .ok (.if_icmp .ne 6, 3) := by decide +kernel
theorem dX12_look_33 : decode cX12_look 33 = .ok (.bipush (-5), 2) := by decide +kernel
theorem dX12_look_35 : decode cX12_look 35 = .ok (.ireturn, 1) := by decide +kernel
theorem dX12_look_36 : decode cX12_look 36 = .ok (.aload_n 0, 1) := by decide +kernel
theorem dX12_look_37 : decode cX12_look 37 = .ok (.getfield 61, 3) := by decide +kernel
theorem dX12_look_40 : decode cX12_look 40 = .ok (.iconst 3, 1) := by decide +kernel
theorem dX12_look_41 : decode cX12_look 41 = .ok (.aload_n 0, 1) := by decide +kernel
theorem dX12_look_42 : decode cX12_look 42 = .ok (.getfield 274, 3) := by decide +kernel
theorem dX12_look_45 : decode cX12_look 45 = .ok (.imul, 1) := by decide +kernel
theorem dX12_look_46 : decode cX12_look 46 = .ok (.iload_n 1, 1) := by decide +kernel
theorem dX12_look_47 : decode cX12_look 47 = .ok (.iastore, 1) := by decide +kernel
theorem dX12_look_48 : decode cX12_look 48 = .ok (.aload_n 0, 1) := by decide +kernel
theorem dX12_look_49 : decode cX12_look 49 = .ok (.getfield 61, 3) := by decide +kernel
theorem dX12_look_52 : decode cX12_look 52 = .ok (.iconst 3, 1) := by decide +kernel
theorem dX12_look_53 : decode cX12_look 53 = .ok (.aload_n 0, 1) := by decide +kernel
theorem dX12_look_54 : decode cX12_look 54 = .ok (.getfield 274, 3) := by decide +kernel
theorem dX12_look_57 : decode cX12_look 57 = .ok (.imul, 1) := by decide +kernel
theorem dX12_look_58 : decode cX12_look 58 = .ok (.iconst 1, 1) := by decide +kernel
theorem dX12_look_59 : decode cX12_look 59 = .ok (.iadd, 1) := by decide +kernel
theorem dX12_look_60 : decode cX12_look 60 = .ok (.iload_n 2, 1) := by decide +kernel
theorem dX12_look_61 : decode cX12_look 61 = .ok (.iastore, 1) := by decide +kernel
theorem dX12_look_62 : decode cX12_look 62 = .ok (.aload_n 0, 1) := by decide +kernel
theorem dX12_look_63 : decode cX12_look 63 = .ok (.getfield 61, 3) := by decide +kernel
theorem dX12_look_66 : decode cX12_look 66 = .ok (.iconst 3, 1) := by decide +kernel
theorem dX12_look_67 : decode cX12_look 67 = .ok (.aload_n 0, 1) := by decide +kernel
theorem dX12_look_68 : decode cX12_look 68 = .ok (.getfield 274, 3) := by decide +kernel
theorem dX12_look_71 : decode cX12_look 71 = .ok (.imul, 1) := by decide +kernel
theorem dX12_look_72 : decode cX12_look 72 = .ok (.iconst 2, 1) := by decide +kernel
theorem dX12_look_73 : decode cX12_look 73 = .ok (.iadd, 1) := by decide +kernel
theorem dX12_look_74 : decode cX12_look 74 = .ok (.iload_n 3, 1) := by decide +kernel
theorem dX12_look_75 : decode cX12_look 75 = .ok (.iastore, 1) := by decide +kernel
theorem dX12_look_76 : decode cX12_look 76 = .ok (.aload_n 0, 1) := by decide +kernel
theorem dX12_look_77 : decode cX12_look 77 = .ok (.dup, 1) := by decide +kernel
theorem dX12_look_78 : decode cX12_look 78 = .ok (.getfield 274, 3) := by decide +kernel
theorem dX12_look_81 : decode cX12_look 81 = .ok (.iconst 1, 1) := by decide +kernel
theorem dX12_look_82 : decode cX12_look 82 = .ok (.iadd, 1) := by decide +kernel
theorem dX12_look_83 : decode cX12_look 83 = .ok (.putfield 274, 3) := by decide +kernel
theorem dX12_look_86 : decode cX12_look 86 = .ok (.aload_n 0, 1) := by decide +kernel
theorem dX12_look_87 : decode cX12_look 87 = .ok (.getfield 274, 3) := by decide +kernel
theorem dX12_look_90 : decode cX12_look 90 = .ok (.ireturn, 1) := by decide +kernel
theorem dX12_isWrong_0 : decode cX12_isWrong 0 = .ok (.aload_n 0, 1) := by decide +kernel
theorem dX12_isWrong_1 : decode cX12_isWrong 1 = .ok (.getfield 61, 3) := by decide +kernel
theorem dX12_isWrong_4 : decode cX12_isWrong 4 = .ok (.iconst 3, 1) := by decide +kernel
theorem dX12_isWrong_5 : decode cX12_isWrong 5 = .ok (.iload_n 1, 1) := by decide +kernel
theorem dX12_isWrong_6 : decode cX12_isWrong 6 = .ok (.imul, 1) := by decide +kernel
theorem dX12_isWrong_7 : decode cX12_isWrong 7 = .ok (.iload_n 2, 1) := by decide +kernel
theorem dX12_isWrong_8 : decode cX12_isWrong 8 = .ok (.iadd, 1) := by decide +kernel
theorem dX12_isWrong_9 : decode cX12_isWrong 9 = .ok (.iaload, 1) := by decide +kernel
theorem dX12_isWrong_10 : decode cX12_isWrong 10 = .ok (.istore 4, 2) := by decide +kernel
theorem dX12_isWrong_12 : decode cX12_isWrong 12 = .ok (.aload_n 0, 1) := by decide +kernel
theorem dX12_isWrong_13 : decode cX12_isWrong 13 = .ok (.getfield 61, 3) := by decide +kernel
theorem dX12_isWrong_16 : decode cX12_isWrong 16 = .ok (.iconst 3, 1) := by decide +kernel
theorem dX12_isWrong_17 : decode cX12_isWrong 17 = .ok (.iload_n 1, 1) := by decide +kernel
theorem dX12_isWrong_18 : decode cX12_isWrong 18 = .ok (.imul, 1) := by decide +kernel
theorem dX12_isWrong_19 : decode cX12_isWrong 19 = .ok (.iload_n 2, 1) := by decide +kernel
theorem dX12_isWrong_20 : decode cX12_isWrong 20 = .ok (.iconst 1, 1) := by decide +kernel
theorem dX12_isWrong_21 : decode cX12_isWrong 21 = .ok (.iadd, 1) := by decide +kernel
theorem dX12_isWrong_22 : decode cX12_isWrong 22 = .ok (.iconst 3, 1) := by decide +kernel
theorem dX12_isWrong_23 : decode cX12_isWrong 23 = .ok (.irem, 1) := by decide +kernel
theorem dX12_isWrong_24 : decode cX12_isWrong 24 = .ok (.iadd, 1) := by decide +kernel
theorem dX12_isWrong_25 : decode cX12_isWrong 25 = .ok (.iaload, 1) := by decide +kernel
theorem dX12_isWrong_26 : decode cX12_isWrong 26 = .ok (.istore 5, 2) := by decide +kernel
theorem dX12_isWrong_28 : decode cX12_isWrong 28 = .ok (.aload_n 0, 1) := by decide +kernel
theorem dX12_isWrong_29 : decode cX12_isWrong 29 = .ok (.getfield 61, 3) := by decide +kernel
theorem dX12_isWrong_32 : decode cX12_isWrong 32 = .ok (.iconst 3, 1) := by decide +kernel
theorem dX12_isWrong_33 : decode cX12_isWrong 33 = .ok (.iload_n 1, 1) := by decide +kernel
theorem dX12_isWrong_34 : decode cX12_isWrong 34 = .ok (.imul, 1) := by decide +kernel
theorem dX12_isWrong_35 : decode cX12_isWrong 35 = .ok (.iload_n 2, 1) := by decide +kernel
theorem dX12_isWrong_36 : decode cX12_isWrong 36 = .ok (.iconst 2, 1) := by decide +kernel
theorem dX12_isWrong_37 : decode cX12_isWrong 37 = .ok (.iadd, 1) := by decide +kernel
theorem dX12_isWrong_38 : decode cX12_isWrong 38 = .ok (.iconst 3, 1) := by decide +kernel
theorem dX12_isWrong_39 : decode cX12_isWrong 39 = .ok (.irem, 1) := by decide +kernel
theorem dX12_isWrong_40 : decode cX12_isWrong 40 = .ok (.iadd, 1) := by decide +kernel
theorem dX12_isWrong_41 : decode cX12_isWrong 41 = .ok (.iaload, 1) := by decide +kernel
theorem dX12_isWrong_42 : decode cX12_isWrong 42 = .ok (.istore 6, 2) := by decide +kernel
theorem dX12_isWrong_44 : decode cX12_isWrong 44 = .ok (.iload 4, 2) := by decide +kernel
theorem dX12_isWrong_46 : decode cX12_isWrong 46 = .ok (.iload 5, 2) := by decide +kernel
theorem dX12_isWrong_48 : decode cX12_isWrong 48 = .ok (.isub, 1) := by decide +kernel
theorem dX12_isWrong_49 : decode cX12_isWrong 49 = .ok (.invokestatic 167, 3) := by decide +kernel
theorem dX12_isWrong_52 : decode cX12_isWrong 52 = .ok (.invokestatic 96, 3) := by decide +kernel
theorem dX12_isWrong_55 : decode cX12_isWrong 55 = .ok (.iload_n 3, 1) := by decide +kernel
theorem dX12_isWrong_56 : decode cX12_isWrong 56 = .ok (.if_icmp .le 37, 3) := by decide +kernel
theorem dX12_isWrong_59 : decode cX12_isWrong 59 = .ok (.iload 4, 2) := by decide +kernel
theorem dX12_isWrong_61 : decode cX12_isWrong 61 = .ok (.iload 6, 2) := by decide +kernel
theorem dX12_isWrong_63 : decode cX12_isWrong 63 = .ok (.isub, 1) := by decide +kernel
theorem dX12_isWrong_64 : decode cX12_isWrong 64 = .ok (.invokestatic 167, 3) := by decide +kernel
theorem dX12_isWrong_67 : decode cX12_isWrong 67 = .ok (.invokestatic 96, 3) := by decide +kernel
theorem dX12_isWrong_70 : decode cX12_isWrong 70 = .ok (.iload_n 3, 1) := by decide +kernel
theorem dX12_isWrong_71 : decode cX12_isWrong 71 = .ok (.if_icmp .le 22, 3) := by decide +kernel
theorem dX12_isWrong_74 : decode cX12_isWrong 74 = .ok (.iload 5, 2) := by decide +kernel
theorem dX12_isWrong_76 : decode cX12_isWrong 76 = .ok (.iload 6, 2) := by decide +kernel
theorem dX12_isWrong_78 : decode cX12_isWrong 78 = .ok (.isub, 1) := by decide +kernel
theorem dX12_isWrong_79 : decode cX12_isWrong 79 = .ok (.invokestatic 167, 3) := by decide +kernel
theorem dX12_isWrong_82 : decode cX12_isWrong 82 = .ok (.invokestatic 96, 3) := by decide +kernel
theorem dX12_isWrong_85 : decode cX12_isWrong 85 = .ok (.iload_n 3, 1) := by decide +kernel
theorem dX12_isWrong_86 : decode cX12_isWrong 86 = .ok (.if_icmp .gt 7, 3) := by decide +kernel
theorem dX12_isWrong_89 : decode cX12_isWrong 89 = .ok (.iconst 1, 1) := by decide +kernel
theorem dX12_isWrong_90 : decode cX12_isWrong 90 = .ok (.goto 4, 3) := by decide +kernel
theorem dX12_isWrong_93 : decode cX12_isWrong 93 = .ok (.iconst 0, 1) := by decide +kernel
theorem dX12_isWrong_94 : decode cX12_isWrong 94 = .ok (.ireturn, 1) := by decide +kernel
theorem dX12_wrong_0 : decode cX12_wrong 0 = .ok (.iload_n 1, 1) := by decide +kernel
theorem dX12_wrong_1 : decode cX12_wrong 1 = .ok (.i2l, 1) := by decide +kernel
theorem dX12_wrong_2 : decode cX12_wrong 2 = .ok (.lconst 0, 1) := by decide +kernel
theorem dX12_wrong_3 : decode cX12_wrong 3 = .ok (.ldc2_w 240, 3) := by decide +kernel
theorem dX12_wrong_6 : decode cX12_wrong 6 = .ok (.invokestatic 87, 3) := by decide +kernel
theorem dX12_wrong_9 : decode cX12_wrong 9 = .ok (.ifCond .eq 13, 3) := by decide +kernel
theorem dX12_wrong_12 : decode cX12_wrong 12 = .ok (.iload_n 2, 1) := by decide +kernel
theorem dX12_wrong_13 : decode cX12_wrong 13 = .ok (.i2l, 1) := by decide +kernel
theorem dX12_wrong_14 : decode cX12_wrong 14 = .ok (.lconst 0, 1) := by decide +kernel
theorem dX12_wrong_15 : decode cX12_wrong 15 = .ok (.lconst 1, 1) := by decide +kernel
theorem dX12_wrong_16 : decode cX12_wrong 16 = .ok (.invokestatic 87, 3) := by decide +kernel
theorem dX12_wrong_19 : decode cX12_wrong 19 = .ok (.ifCond .ne 6, 3) := by decide +kernel
theorem dX12_wrong_22 : decode cX12_wrong 22 = .ok (.bipush (-3), 2) := by decide +kernel
theorem dX12_wrong_24 : decode cX12_wrong 24 = .ok (.ireturn, 1) := by decide +kernel
theorem dX12_wrong_25 : decode cX12_wrong 25 = .ok (.iconst 0, 1) := by decide +kernel
theorem dX12_wrong_26 : decode cX12_wrong 26 = .ok (.istore_n 3, 1) := by decide +kernel
theorem dX12_wrong_27 : decode cX12_wrong 27 = .ok (.iconst 0, 1) := by decide +kernel
theorem dX12_wrong_28 : decode cX12_wrong 28 = .ok (.istore 4, 2) := by decide +kernel
theorem dX12_wrong_30 : decode cX12_wrong 30 = .ok (.iload 4, 2) := by decide +kernel
theorem dX12_wrong_32 : decode cX12_wrong 32 = .ok (.iconst 3, 1) := by decide +kernel
theorem dX12_wrong_33 : decode cX12_wrong 33 = .ok (.if_icmp .ge 82, 3) := by decide +kernel
theorem dX12_wrong_36 : decode cX12_wrong 36 = .ok (.iconst 0, 1) := by decide +kernel
theorem dX12_wrong_37 : decode cX12_wrong 37 = .ok (.istore 5, 2) := by decide +kernel
theorem dX12_wrong_39 : decode cX12_wrong 39 = .ok (.iconst 0, 1) := by decide +kernel
theorem dX12_wrong_40 : decode cX12_wrong 40 = .ok (.istore 6, 2) := by decide +kernel
theorem dX12_wrong_42 : decode cX12_wrong 42 = .ok (.iload 6, 2) := by decide +kernel
theorem dX12_wrong_44 : decode cX12_wrong 44 = .ok (.aload_n 0, 1) := by decide +kernel
theorem dX12_wrong_45 : decode cX12_wrong 45 = .ok (.getfield 274, 3) := by decide +kernel
theorem dX12_wrong_48 : decode cX12_wrong 48 = .ok (.if_icmp .ge 31, 3) := by decide +kernel
theorem dX12_wrong_51 : decode cX12_wrong 51 = .ok (.iload 5, 2) := by decide +kernel
theorem dX12_wrong_53 : decode cX12_wrong 53 = .ok (.aload_n 0, 1) := by decide +kernel
theorem dX12_wrong_54 : decode cX12_wrong 54 = .ok (.iload 6, 2) := by decide +kernel
theorem dX12_wrong_56 : decode cX12_wrong 56 = .ok (.iload 4, 2) := by decide +kernel
theorem dX12_wrong_58 : decode cX12_wrong 58 = .ok (.iload_n 1, 1) := by decide +kernel
theorem dX12_wrong_59 : decode cX12_wrong 59 = .ok (.invokevirtual 277, 3) := by decide +kernel
theorem dX12_wrong_62 : decode cX12_wrong 62 = .ok (.ifCond .eq 7, 3) := by decide +kernel
theorem dX12_wrong_65 : decode cX12_wrong 65 = .ok (.iconst 1, 1) := by decide +kernel
theorem dX12_wrong_66 : decode cX12_wrong 66 = .ok (.goto 4, 3) := by decide +kernel
theorem dX12_wrong_69 : decode cX12_wrong 69 = .ok (.iconst 0, 1) := by decide +kernel
theorem dX12_wrong_70 : decode cX12_wrong 70 = .ok (.iadd, 1) := by decide +kernel
theorem dX12_wrong_71 : decode cX12_wrong 71 = .ok (.istore 5, 2) := by decide +kernel
theorem dX12_wrong_73 : decode cX12_wrong 73 = .ok (.iinc 6 1, 3) := by decide +kernel
theorem dX12_wrong_76 : decode cX12_wrong 76 = .ok (.goto (-34), 3) := by decide +kernel
theorem dX12_wrong_79 : decode cX12_wrong 79 = .ok (.iload_n 3, 1) := by decide +kernel
theorem dX12_wrong_80 : decode cX12_wrong 80 = .ok (.iload 5, 2) := by decide +kernel
theorem dX12_wrong_82 : decode cX12_wrong 82 = .ok (.ifCond .le 24, 3) := by decide +kernel
theorem dX12_wrong_85 : decode cX12_wrong 85 = .ok (.iload_n 2, 1) := by decide +kernel
theorem dX12_wrong_86 : decode cX12_wrong 86 = .ok (.iconst 1, 1) := by decide +kernel
theorem dX12_wrong_87 : decode cX12_wrong 87 = .ok (.if_icmp .eq 12, 3) := by decide +kernel
theorem dX12_wrong_90 : decode cX12_wrong 90 = .ok (.iload 5, 2) := by decide +kernel
theorem dX12_wrong_92 : decode cX12_wrong 92 = .ok (.aload_n 0, 1) := by decide +kernel
theorem dX12_wrong_93 : decode cX12_wrong 93 = .ok (.getfield 274, 3) := by decide +kernel
theorem dX12_wrong_96 : decode cX12_wrong 96 = .ok (.if_icmp .ne 10, 3) := by decide +kernel
theorem dX12_wrong_99 : decode cX12_wrong 99 = .ok (.iconst 1, 1) := by decide +kernel
theorem dX12_wrong_100 : decode cX12_wrong 100 = .ok (.iload 4, 2) := by decide +kernel
theorem dX12_wrong_102 : decode cX12_wrong 102 = .ok (.ishl, 1) := by decide +kernel
theorem dX12_wrong_103 : decode cX12_wrong 103 = .ok (.goto 4, 3) := by decide +kernel
theorem dX12_wrong_106 : decode cX12_wrong 106 = .ok (.iconst 0, 1) := by decide +kernel
theorem dX12_wrong_107 : decode cX12_wrong 107 = .ok (.ior, 1) := by decide +kernel
theorem dX12_wrong_108 : decode cX12_wrong 108 = .ok (.istore_n 3, 1) := by decide +kernel
theorem dX12_wrong_109 : decode cX12_wrong 109 = .ok (.iinc 4 1, 3) := by decide +kernel
theorem dX12_wrong_112 : decode cX12_wrong 112 = .ok (.goto (-82), 3) := by decide +kernel
theorem dX12_wrong_115 : decode cX12_wrong 115 = .ok (.iload_n 3, 1) := by decide +kernel
theorem dX12_wrong_116 : decode cX12_wrong 116 = .ok (.ireturn, 1) := by decide +kernel
theorem dX12_about_0 : decode cX12_about 0 = .ok (.iload_n 1, 1) := by decide +kernel
theorem dX12_about_1 : decode cX12_about 1 = .ok (.invokestatic 115, 3) := by decide +kernel
theorem dX12_about_4 : decode cX12_about 4 = .ok (.ifCond .eq 10, 3) := by decide +kernel
theorem dX12_about_7 : decode cX12_about 7 = .ok (.iload_n 2, 1) := by decide +kernel
theorem dX12_about_8 : decode cX12_about 8 = .ok (.invokestatic 115, 3) := by decide +kernel
theorem dX12_about_11 : decode cX12_about 11 = .ok (.ifCond .ne 6, 3) := by decide +kernel
theorem dX12_about_14 : decode cX12_about 14 = .ok (.bipush (-3), 2) := by decide +kernel
theorem dX12_about_16 : decode cX12_about 16 = .ok (.ireturn, 1) := by decide +kernel
theorem dX12_about_17 : decode cX12_about 17 = .ok (.aload_n 0, 1) := by decide +kernel
theorem dX12_about_18 : decode cX12_about 18 = .ok (.getfield 280, 3) := by decide +kernel
theorem dX12_about_21 : decode cX12_about 21 = .ok (.bipush 24, 2) := by decide +kernel
theorem dX12_about_23 : decode cX12_about 23 = .ok (.if_icmp .ne 6, 3) := by decide +kernel
theorem dX12_about_26 : decode cX12_about 26 = .ok (.bipush (-5), 2) := by decide +kernel
theorem dX12_about_28 : decode cX12_about 28 = .ok (.ireturn, 1) := by decide +kernel
theorem dX12_about_29 : decode cX12_about 29 = .ok (.aload_n 0, 1) := by decide +kernel
theorem dX12_about_30 : decode cX12_about 30 = .ok (.getfield 64, 3) := by decide +kernel
theorem dX12_about_33 : decode cX12_about 33 = .ok (.aload_n 0, 1) := by decide +kernel
theorem dX12_about_34 : decode cX12_about 34 = .ok (.getfield 280, 3) := by decide +kernel
theorem dX12_about_37 : decode cX12_about 37 = .ok (.iload_n 1, 1) := by decide +kernel
theorem dX12_about_38 : decode cX12_about 38 = .ok (.iastore, 1) := by decide +kernel
theorem dX12_about_39 : decode cX12_about 39 = .ok (.aload_n 0, 1) := by decide +kernel
theorem dX12_about_40 : decode cX12_about 40 = .ok (.getfield 67, 3) := by decide +kernel
theorem dX12_about_43 : decode cX12_about 43 = .ok (.aload_n 0, 1) := by decide +kernel
theorem dX12_about_44 : decode cX12_about 44 = .ok (.getfield 280, 3) := by decide +kernel
theorem dX12_about_47 : decode cX12_about 47 = .ok (.iload_n 1, 1) := by decide +kernel
theorem dX12_about_48 : decode cX12_about 48 = .ok (.iload_n 2, 1) := by decide +kernel
theorem dX12_about_49 : decode cX12_about 49 = .ok (.isub, 1) := by decide +kernel
theorem dX12_about_50 : decode cX12_about 50 = .ok (.invokestatic 167, 3) := by decide +kernel
theorem dX12_about_53 : decode cX12_about 53 = .ok (.iastore, 1) := by decide +kernel
theorem dX12_about_54 : decode cX12_about 54 = .ok (.aload_n 0, 1) := by decide +kernel
theorem dX12_about_55 : decode cX12_about 55 = .ok (.dup, 1) := by decide +kernel
theorem dX12_about_56 : decode cX12_about 56 = .ok (.getfield 280, 3) := by decide +kernel
theorem dX12_about_59 : decode cX12_about 59 = .ok (.iconst 1, 1) := by decide +kernel
theorem dX12_about_60 : decode cX12_about 60 = .ok (.iadd, 1) := by decide +kernel
theorem dX12_about_61 : decode cX12_about 61 = .ok (.putfield 280, 3) := by decide +kernel
theorem dX12_about_64 : decode cX12_about 64 = .ok (.aload_n 0, 1) := by decide +kernel
theorem dX12_about_65 : decode cX12_about 65 = .ok (.getfield 280, 3) := by decide +kernel
theorem dX12_about_68 : decode cX12_about 68 = .ok (.ireturn, 1) := by decide +kernel
theorem dX12_needle_0 : decode cX12_needle 0 = .ok (.iload_n 1, 1) := by decide +kernel
theorem dX12_needle_1 : decode cX12_needle 1 = .ok (.i2l, 1) := by decide +kernel
theorem dX12_needle_2 : decode cX12_needle 2 = .ok (.lconst 0, 1) := by decide +kernel
theorem dX12_needle_3 : decode cX12_needle 3 = .ok (.ldc2_w 145, 3) := by decide +kernel
theorem dX12_needle_6 : decode cX12_needle 6 = .ok (.invokestatic 87, 3) := by decide +kernel
theorem dX12_needle_9 : decode cX12_needle 9 = .ok (.ifCond .eq 13, 3) := by decide +kernel
theorem dX12_needle_12 : decode cX12_needle 12 = .ok (.iload_n 2, 1) := by decide +kernel
theorem dX12_needle_13 : decode cX12_needle 13 = .ok (.i2l, 1) := by decide +kernel
theorem dX12_needle_14 : decode cX12_needle 14 = .ok (.lconst 0, 1) := by decide +kernel
theorem dX12_needle_15 : decode cX12_needle 15 = .ok (.lconst 1, 1) := by decide +kernel
theorem dX12_needle_16 : decode cX12_needle 16 = .ok (.invokestatic 87, 3) := by decide +kernel
theorem dX12_needle_19 : decode cX12_needle 19 = .ok (.ifCond .ne 6, 3) := by decide +kernel
theorem dX12_needle_22 : decode cX12_needle 22 = .ok (.bipush (-3), 2) := by decide +kernel
theorem dX12_needle_24 : decode cX12_needle 24 = .ok (.ireturn, 1) := by decide +kernel
theorem dX12_needle_25 : decode cX12_needle 25 = .ok (.iconst (-1), 1) := by decide +kernel
theorem dX12_needle_26 : decode cX12_needle 26 = .ok (.istore_n 3, 1) := by decide +kernel
theorem dX12_needle_27 : decode cX12_needle 27 = .ok (.iconst 0, 1) := by decide +kernel
theorem dX12_needle_28 : decode cX12_needle 28 = .ok (.istore 4, 2) := by decide +kernel
theorem dX12_needle_30 : decode cX12_needle 30 = .ok (.iload 4, 2) := by decide +kernel
theorem dX12_needle_32 : decode cX12_needle 32 = .ok (.aload_n 0, 1) := by decide +kernel
theorem dX12_needle_33 : decode cX12_needle 33 = .ok (.getfield 280, 3) := by decide +kernel
theorem dX12_needle_36 : decode cX12_needle 36 = .ok (.if_icmp .ge 106, 3) := by decide +kernel
theorem dX12_needle_39 : decode cX12_needle 39 = .ok (.aload_n 0, 1) := by decide +kernel
theorem dX12_needle_40 : decode cX12_needle 40 = .ok (.getfield 64, 3) := by decide +kernel
theorem dX12_needle_43 : decode cX12_needle 43 = .ok (.iload 4, 2) := by decide +kernel
theorem dX12_needle_45 : decode cX12_needle 45 = .ok (.iaload, 1) := by decide +kernel
theorem dX12_needle_46 : decode cX12_needle 46 = .ok (.sipush 2250, 3) := by decide +kernel
theorem dX12_needle_49 : decode cX12_needle 49 = .ok (.iadd, 1) := by decide +kernel
theorem dX12_needle_50 : decode cX12_needle 50 = .ok (.sipush 4500, 3) := by decide +kernel
theorem dX12_needle_53 : decode cX12_needle 53 = .ok (.idiv, 1) := by decide +kernel
theorem dX12_needle_54 : decode cX12_needle 54 = .ok (.bipush 8, 2) := by decide +kernel
theorem dX12_needle_56 : decode cX12_needle 56 = .ok (.irem, 1) := by decide +kernel
theorem dX12_needle_57 : decode cX12_needle 57 = .ok (.iload_n 1, 1) := by decide +kernel
theorem dX12_needle_58 : decode cX12_needle 58 = .ok (.if_icmp .ne 7, 3) := by decide +kernel
theorem dX12_needle_61 : decode cX12_needle 61 = .ok (.iconst 1, 1) := by decide +kernel
theorem dX12_needle_62 : decode cX12_needle 62 = .ok (.goto 4, 3) := by decide +kernel
theorem dX12_needle_65 : decode cX12_needle 65 = .ok (.iconst 0, 1) := by decide +kernel
theorem dX12_needle_66 : decode cX12_needle 66 = .ok (.istore 5, 2) := by decide +kernel
theorem dX12_needle_68 : decode cX12_needle 68 = .ok (.iload_n 3, 1) := by decide +kernel
theorem dX12_needle_69 : decode cX12_needle 69 = .ok (.iconst (-1), 1) := by decide +kernel
theorem dX12_needle_70 : decode cX12_needle 70 = .ok (.if_icmp .eq 42, 3) := by decide +kernel
theorem dX12_needle_73 : decode cX12_needle 73 = .ok (.iload_n 2, 1) := by decide +kernel
theorem dX12_needle_74 : decode cX12_needle 74 = .ok (.ifCond .ne 22, 3) := by decide +kernel
theorem dX12_needle_77 : decode cX12_needle 77 = .ok (.aload_n 0, 1) := by decide +kernel
theorem dX12_needle_78 : decode cX12_needle 78 = .ok (.getfield 67, 3) := by decide +kernel
theorem dX12_needle_81 : decode cX12_needle 81 = .ok (.iload 4, 2) := by decide +kernel
theorem dX12_needle_83 : decode cX12_needle 83 = .ok (.iaload, 1) := by decide +kernel
theorem dX12_needle_84 : decode cX12_needle 84 = .ok (.aload_n 0, 1) := by decide +kernel
theorem dX12_needle_85 : decode cX12_needle 85 = .ok (.getfield 67, 3) := by decide +kernel
theorem dX12_needle_88 : decode cX12_needle 88 = .ok (.iload_n 3, 1) := by decide +kernel
theorem dX12_needle_89 : decode cX12_needle 89 = .ok (.iaload, 1) := by decide +kernel
theorem dX12_needle_90 : decode cX12_needle 90 = .ok (.if_icmp .ge 26, 3) := by decide +kernel
theorem dX12_needle_93 : decode cX12_needle 93 = .ok (.goto 19, 3) := by decide +kernel
theorem dX12_needle_96 : decode cX12_needle 96 = .ok (.aload_n 0, 1) := by decide +kernel
theorem dX12_needle_97 : decode cX12_needle 97 = .ok (.getfield 67, 3) := by decide +kernel
theorem dX12_needle_100 : decode cX12_needle 100 = .ok (.iload 4, 2) := by decide +kernel
theorem dX12_needle_102 : decode cX12_needle 102 = .ok (.iaload, 1) := by decide +kernel
theorem dX12_needle_103 : decode cX12_needle 103 = .ok (.aload_n 0, 1) := by decide +kernel
theorem dX12_needle_104 : decode cX12_needle 104 = .ok (.getfield 67, 3) := by decide +kernel
theorem dX12_needle_107 : decode cX12_needle 107 = .ok (.iload_n 3, 1) := by decide +kernel
theorem dX12_needle_108 : decode cX12_needle 108 = .ok (.iaload, 1) := by decide +kernel
theorem dX12_needle_109 : decode cX12_needle 109 = .ok (.if_icmp .le 7, 3) := by decide +kernel
theorem dX12_needle_112 : decode cX12_needle 112 = .ok (.iconst 1, 1) := by decide +kernel
theorem dX12_needle_113 : decode cX12_needle 113 = .ok (.goto 4, 3) := by decide +kernel
theorem dX12_needle_116 : decode cX12_needle 116 = .ok (.iconst 0, 1) := by decide +kernel
theorem dX12_needle_117 : decode cX12_needle 117 = .ok (.istore 6, 2) := by decide +kernel
theorem dX12_needle_119 : decode cX12_needle 119 = .ok (.iload 5, 2) := by decide +kernel
theorem dX12_needle_121 : decode cX12_needle 121 = .ok (.ifCond .eq 13, 3) := by decide +kernel
theorem dX12_needle_124 : decode cX12_needle 124 = .ok (.iload 6, 2) := by decide +kernel
theorem dX12_needle_126 : decode cX12_needle 126 = .ok (.ifCond .eq 8, 3) := by decide +kernel
theorem dX12_needle_129 : decode cX12_needle 129 = .ok (.iload 4, 2) := by decide +kernel
theorem dX12_needle_131 : decode cX12_needle 131 = .ok (.goto 4, 3) := by decide +kernel
theorem dX12_needle_134 : decode cX12_needle 134 = .ok (.iload_n 3, 1) := by decide +kernel
theorem dX12_needle_135 : decode cX12_needle 135 = .ok (.istore_n 3, 1) := by decide +kernel
theorem dX12_needle_136 : decode cX12_needle 136 = .ok (.iinc 4 1, 3) := by decide +kernel
theorem dX12_needle_139 : decode cX12_needle 139 = .ok (.goto (-109), 3) := by decide +kernel
theorem dX12_needle_142 : decode cX12_needle 142 = .ok (.iload_n 3, 1) := by decide +kernel
theorem dX12_needle_143 : decode cX12_needle 143 = .ok (.iconst (-1), 1) := by decide +kernel
theorem dX12_needle_144 : decode cX12_needle 144 = .ok (.if_icmp .ne 7, 3) := by decide +kernel
theorem dX12_needle_147 : decode cX12_needle 147 = .ok (.iconst (-1), 1) := by decide +kernel
theorem dX12_needle_148 : decode cX12_needle 148 = .ok (.goto 12, 3) := by decide +kernel
theorem dX12_needle_151 : decode cX12_needle 151 = .ok (.ldc 165, 2) := by decide +kernel
theorem dX12_needle_153 : decode cX12_needle 153 = .ok (.aload_n 0, 1) := by decide +kernel
theorem dX12_needle_154 : decode cX12_needle 154 = .ok (.getfield 67, 3) := by decide +kernel
theorem dX12_needle_157 : decode cX12_needle 157 = .ok (.iload_n 3, 1) := by decide +kernel
theorem dX12_needle_158 : decode cX12_needle 158 = .ok (.iaload, 1) := by decide +kernel
theorem dX12_needle_159 : decode cX12_needle 159 = .ok (.iadd, 1) := by decide +kernel
theorem dX12_needle_160 : decode cX12_needle 160 = .ok (.ireturn, 1) := by decide +kernel
theorem dX12_watch_0 : decode cX12_watch 0 = .ok (.iload_n 1, 1) := by decide +kernel
theorem dX12_watch_1 : decode cX12_watch 1 = .ok (.i2l, 1) := by decide +kernel
theorem dX12_watch_2 : decode cX12_watch 2 = .ok (.lconst 0, 1) := by decide +kernel
theorem dX12_watch_3 : decode cX12_watch 3 = .ok (.ldc2_w 283, 3) := by decide +kernel
theorem dX12_watch_6 : decode cX12_watch 6 = .ok (.invokestatic 87, 3) := by decide +kernel
theorem dX12_watch_9 : decode cX12_watch 9 = .ok (.ifCond .eq 10, 3) := by decide +kernel
theorem dX12_watch_12 : decode cX12_watch 12 = .ok (.iload_n 2, 1) := by decide +kernel
theorem dX12_watch_13 : decode cX12_watch 13 = .ok (.invokestatic 136, 3) := by decide +kernel
theorem dX12_watch_16 : decode cX12_watch 16 = .ok (.ifCond .ne 6, 3) := by decide +kernel
theorem dX12_watch_19 : decode cX12_watch 19 = .ok (.bipush (-3), 2) := by decide +kernel
theorem dX12_watch_21 : decode cX12_watch 21 = .ok (.ireturn, 1) := by decide +kernel
theorem dX12_watch_22 : decode cX12_watch 22 = .ok (.aload_n 0, 1) := by decide +kernel
theorem dX12_watch_23 : decode cX12_watch 23 = .ok (.getfield 285, 3) := by decide +kernel
theorem dX12_watch_26 : decode cX12_watch 26 = .ok (.bipush 10, 2) := by decide +kernel
theorem dX12_watch_28 : decode cX12_watch 28 = .ok (.if_icmp .ne 6, 3) := by decide +kernel
theorem dX12_watch_31 : decode cX12_watch 31 = .ok (.bipush (-5), 2) := by decide +kernel
theorem dX12_watch_33 : decode cX12_watch 33 = .ok (.ireturn, 1) := by decide +kernel
theorem dX12_watch_34 : decode cX12_watch 34 = .ok (.aload_n 0, 1) := by decide +kernel
theorem dX12_watch_35 : decode cX12_watch 35 = .ok (.getfield 70, 3) := by decide +kernel
theorem dX12_watch_38 : decode cX12_watch 38 = .ok (.aload_n 0, 1) := by decide +kernel
theorem dX12_watch_39 : decode cX12_watch 39 = .ok (.getfield 285, 3) := by decide +kernel
theorem dX12_watch_42 : decode cX12_watch 42 = .ok (.iload_n 1, 1) := by decide +kernel
theorem dX12_watch_43 : decode cX12_watch 43 = .ok (.iastore, 1) := by decide +kernel
theorem dX12_watch_44 : decode cX12_watch 44 = .ok (.aload_n 0, 1) := by decide +kernel
theorem dX12_watch_45 : decode cX12_watch 45 = .ok (.getfield 73, 3) := by decide +kernel
theorem dX12_watch_48 : decode cX12_watch 48 = .ok (.aload_n 0, 1) := by decide +kernel
theorem dX12_watch_49 : decode cX12_watch 49 = .ok (.getfield 285, 3) := by decide +kernel
theorem dX12_watch_52 : decode cX12_watch 52 = .ok (.iload_n 2, 1) := by decide +kernel
theorem dX12_watch_53 : decode cX12_watch 53 = .ok (.iastore, 1) := by decide +kernel
theorem dX12_watch_54 : decode cX12_watch 54 = .ok (.aload_n 0, 1) := by decide +kernel
theorem dX12_watch_55 : decode cX12_watch 55 = .ok (.dup, 1) := by decide +kernel
theorem dX12_watch_56 : decode cX12_watch 56 = .ok (.getfield 285, 3) := by decide +kernel
theorem dX12_watch_59 : decode cX12_watch 59 = .ok (.iconst 1, 1) := by decide +kernel
theorem dX12_watch_60 : decode cX12_watch 60 = .ok (.iadd, 1) := by decide +kernel
theorem dX12_watch_61 : decode cX12_watch 61 = .ok (.putfield 285, 3) := by decide +kernel
theorem dX12_watch_64 : decode cX12_watch 64 = .ok (.aload_n 0, 1) := by decide +kernel
theorem dX12_watch_65 : decode cX12_watch 65 = .ok (.getfield 285, 3) := by decide +kernel
theorem dX12_watch_68 : decode cX12_watch 68 = .ok (.ireturn, 1) := by decide +kernel
theorem dX12_mayBe_0 : decode cX12_mayBe 0 = .ok (.aload_n 0, 1) := by decide +kernel
theorem dX12_mayBe_1 : decode cX12_mayBe 1 = .ok (.iload_n 1, 1) := by decide +kernel
theorem dX12_mayBe_2 : decode cX12_mayBe 2 = .ok (.iload_n 2, 1) := by decide +kernel
theorem dX12_mayBe_3 : decode cX12_mayBe 3 = .ok (.iconst 1, 1) := by decide +kernel
theorem dX12_mayBe_4 : decode cX12_mayBe 4 = .ok (.iconst 0, 1) := by decide +kernel
theorem dX12_mayBe_5 : decode cX12_mayBe 5 = .ok (.sipush 3000, 3) := by decide +kernel
theorem dX12_mayBe_8 : decode cX12_mayBe 8 = .ok (.bipush 60, 2) := by decide +kernel
theorem dX12_mayBe_10 : decode cX12_mayBe 10 = .ok (.invokevirtual 242, 3) := by decide +kernel
theorem dX12_mayBe_13 : decode cX12_mayBe 13 = .ok (.iconst 1, 1) := by decide +kernel
theorem dX12_mayBe_14 : decode cX12_mayBe 14 = .ok (.istore 4, 2) := by decide +kernel
theorem dX12_mayBe_16 : decode cX12_mayBe 16 = .ok (.iconst 0, 1) := by decide +kernel
theorem dX12_mayBe_17 : decode cX12_mayBe 17 = .ok (.istore 5, 2) := by decide +kernel
theorem dX12_mayBe_19 : decode cX12_mayBe 19 = .ok (.iload 5, 2) := by decide +kernel
theorem dX12_mayBe_21 : decode cX12_mayBe 21 = .ok (.aload_n 0, 1) := by decide +kernel
theorem dX12_mayBe_22 : decode cX12_mayBe 22 = .ok (.getfield 285, 3) := by decide +kernel
theorem dX12_mayBe_25 : decode cX12_mayBe 25 = .ok (.if_icmp .ge 51, 3) := by decide +kernel
theorem dX12_mayBe_28 : decode cX12_mayBe 28 = .ok (.iload 4, 2) := by decide +kernel
theorem dX12_mayBe_30 : decode cX12_mayBe 30 = .ok (.ifCond .eq 37, 3) := by decide +kernel
theorem dX12_mayBe_33 : decode cX12_mayBe 33 = .ok (.aload_n 0, 1) := by decide +kernel
theorem dX12_mayBe_34 : decode cX12_mayBe 34 = .ok (.getfield 76, 3) := by decide +kernel
theorem dX12_mayBe_37 : decode cX12_mayBe 37 = .ok (.aload_n 0, 1) := by decide +kernel
theorem dX12_mayBe_38 : decode cX12_mayBe 38 = .ok (.getfield 70, 3) := by decide +kernel
theorem dX12_mayBe_41 : decode cX12_mayBe 41 = .ok (.iload 5, 2) := by decide +kernel
theorem dX12_mayBe_43 : decode cX12_mayBe 43 = .ok (.iaload, 1) := by decide +kernel
theorem dX12_mayBe_44 : decode cX12_mayBe 44 = .ok (.iaload, 1) := by decide +kernel
theorem dX12_mayBe_45 : decode cX12_mayBe 45 = .ok (.aload_n 0, 1) := by decide +kernel
theorem dX12_mayBe_46 : decode cX12_mayBe 46 = .ok (.getfield 73, 3) := by decide +kernel
theorem dX12_mayBe_49 : decode cX12_mayBe 49 = .ok (.iload 5, 2) := by decide +kernel
theorem dX12_mayBe_51 : decode cX12_mayBe 51 = .ok (.iaload, 1) := by decide +kernel
theorem dX12_mayBe_52 : decode cX12_mayBe 52 = .ok (.isub, 1) := by decide +kernel
theorem dX12_mayBe_53 : decode cX12_mayBe 53 = .ok (.invokestatic 167, 3) := by decide +kernel
theorem dX12_mayBe_56 : decode cX12_mayBe 56 = .ok (.invokestatic 96, 3) := by decide +kernel
theorem dX12_mayBe_59 : decode cX12_mayBe 59 = .ok (.iload_n 3, 1) := by decide +kernel
theorem dX12_mayBe_60 : decode cX12_mayBe 60 = .ok (.if_icmp .gt 7, 3) := by decide +kernel
theorem dX12_mayBe_63 : decode cX12_mayBe 63 = .ok (.iconst 1, 1) := by decide +kernel
theorem dX12_mayBe_64 : decode cX12_mayBe 64 = .ok (.goto 4, 3) := by decide +kernel
theorem dX12_mayBe_67 : decode cX12_mayBe 67 = .ok (.iconst 0, 1) := by decide +kernel
theorem dX12_mayBe_68 : decode cX12_mayBe 68 = .ok (.istore 4, 2) := by decide +kernel
theorem dX12_mayBe_70 : decode cX12_mayBe 70 = .ok (.iinc 5 1, 3) := by decide +kernel
theorem dX12_mayBe_73 : decode cX12_mayBe 73 = .ok (.goto (-54), 3) := by decide +kernel
theorem dX12_mayBe_76 : decode cX12_mayBe 76 = .ok (.iload 4, 2) := by decide +kernel
theorem dX12_mayBe_78 : decode cX12_mayBe 78 = .ok (.ireturn, 1) := by decide +kernel
theorem dX12_may_0 : decode cX12_may 0 = .ok (.iload_n 1, 1) := by decide +kernel
theorem dX12_may_1 : decode cX12_may 1 = .ok (.i2l, 1) := by decide +kernel
theorem dX12_may_2 : decode cX12_may 2 = .ok (.lconst 0, 1) := by decide +kernel
theorem dX12_may_3 : decode cX12_may 3 = .ok (.ldc2_w 121, 3) := by decide +kernel
theorem dX12_may_6 : decode cX12_may 6 = .ok (.invokestatic 87, 3) := by decide +kernel
theorem dX12_may_9 : decode cX12_may 9 = .ok (.ifCond .eq 15, 3) := by decide +kernel
theorem dX12_may_12 : decode cX12_may 12 = .ok (.iload_n 2, 1) := by decide +kernel
theorem dX12_may_13 : decode cX12_may 13 = .ok (.i2l, 1) := by decide +kernel
theorem dX12_may_14 : decode cX12_may 14 = .ok (.lconst 0, 1) := by decide +kernel
theorem dX12_may_15 : decode cX12_may 15 = .ok (.ldc2_w 85, 3) := by decide +kernel
theorem dX12_may_18 : decode cX12_may 18 = .ok (.invokestatic 87, 3) := by decide +kernel
theorem dX12_may_21 : decode cX12_may 21 = .ok (.ifCond .ne 6, 3) := by decide +kernel
theorem dX12_may_24 : decode cX12_may 24 = .ok (.bipush (-3), 2) := by decide +kernel
theorem dX12_may_26 : decode cX12_may 26 = .ok (.ireturn, 1) := by decide +kernel
theorem dX12_may_27 : decode cX12_may 27 = .ok (.iconst 0, 1) := by decide +kernel
theorem dX12_may_28 : decode cX12_may 28 = .ok (.istore_n 3, 1) := by decide +kernel
theorem dX12_may_29 : decode cX12_may 29 = .ok (.iconst (-1), 1) := by decide +kernel
theorem dX12_may_30 : decode cX12_may 30 = .ok (.istore 4, 2) := by decide +kernel
theorem dX12_may_32 : decode cX12_may 32 = .ok (.iconst 0, 1) := by decide +kernel
theorem dX12_may_33 : decode cX12_may 33 = .ok (.istore 5, 2) := by decide +kernel
theorem dX12_may_35 : decode cX12_may 35 = .ok (.iload 5, 2) := by decide +kernel
theorem dX12_may_37 : decode cX12_may 37 = .ok (.sipush 441, 3) := by decide +kernel
theorem dX12_may_40 : decode cX12_may 40 = .ok (.if_icmp .ge 161, 3) := by decide +kernel
theorem dX12_may_43 : decode cX12_may 43 = .ok (.aload_n 0, 1) := by decide +kernel
theorem dX12_may_44 : decode cX12_may 44 = .ok (.iload 5, 2) := by decide +kernel
theorem dX12_may_46 : decode cX12_may 46 = .ok (.bipush 21, 2) := by decide +kernel
theorem dX12_may_48 : decode cX12_may 48 = .ok (.idiv, 1) := by decide +kernel
theorem dX12_may_49 : decode cX12_may 49 = .ok (.iload 5, 2) := by decide +kernel
theorem dX12_may_51 : decode cX12_may 51 = .ok (.bipush 21, 2) := by decide +kernel
theorem dX12_may_53 : decode cX12_may 53 = .ok (.irem, 1) := by decide +kernel
theorem dX12_may_54 : decode cX12_may 54 = .ok (.iload_n 1, 1) := by decide +kernel
theorem dX12_may_55 : decode cX12_may 55 = .ok (.invokevirtual 288, 3) := by decide +kernel
theorem dX12_may_58 : decode cX12_may 58 = .ok (.ifCond .eq 137, 3) := by decide +kernel
theorem dX12_may_61 : decode cX12_may 61 = .ok (.iload_n 3, 1) := by decide +kernel
theorem dX12_may_62 : decode cX12_may 62 = .ok (.ifCond .ne 20, 3) := by decide +kernel
theorem dX12_may_65 : decode cX12_may 65 = .ok (.bipush 100, 2) := by decide +kernel
theorem dX12_may_67 : decode cX12_may 67 = .ok (.iload 5, 2) := by decide +kernel
theorem dX12_may_69 : decode cX12_may 69 = .ok (.bipush 21, 2) := by decide +kernel
theorem dX12_may_71 : decode cX12_may 71 = .ok (.idiv, 1) := by decide +kernel
theorem dX12_may_72 : decode cX12_may 72 = .ok (.imul, 1) := by decide +kernel
theorem dX12_may_73 : decode cX12_may 73 = .ok (.iload 5, 2) := by decide +kernel
theorem dX12_may_75 : decode cX12_may 75 = .ok (.bipush 21, 2) := by decide +kernel
theorem dX12_may_77 : decode cX12_may 77 = .ok (.irem, 1) := by decide +kernel
theorem dX12_may_78 : decode cX12_may 78 = .ok (.iadd, 1) := by decide +kernel
theorem dX12_may_79 : decode cX12_may 79 = .ok (.goto 5, 3) := by decide +kernel
theorem dX12_may_82 : decode cX12_may 82 = .ok (.iload 4, 2) := by decide +kernel
theorem dX12_may_84 : decode cX12_may 84 = .ok (.istore 4, 2) := by decide +kernel
theorem dX12_may_86 : decode cX12_may 86 = .ok (.iconst 0, 1) := by decide +kernel
theorem dX12_may_87 : decode cX12_may 87 = .ok (.istore 6, 2) := by decide +kernel
theorem dX12_may_89 : decode cX12_may 89 = .ok (.iload 6, 2) := by decide +kernel
theorem dX12_may_91 : decode cX12_may 91 = .ok (.bipush 60, 2) := by decide +kernel
theorem dX12_may_93 : decode cX12_may 93 = .ok (.if_icmp .gt 99, 3) := by decide +kernel
theorem dX12_may_96 : decode cX12_may 96 = .ok (.aload_n 0, 1) := by decide +kernel
theorem dX12_may_97 : decode cX12_may 97 = .ok (.getfield 79, 3) := by decide +kernel
theorem dX12_may_100 : decode cX12_may 100 = .ok (.iload 6, 2) := by decide +kernel
theorem dX12_may_102 : decode cX12_may 102 = .ok (.iload_n 3, 1) := by decide +kernel
theorem dX12_may_103 : decode cX12_may 103 = .ok (.ifCond .eq 20, 3) := by decide +kernel
theorem dX12_may_106 : decode cX12_may 106 = .ok (.aload_n 0, 1) := by decide +kernel
theorem dX12_may_107 : decode cX12_may 107 = .ok (.getfield 76, 3) := by decide +kernel
theorem dX12_may_110 : decode cX12_may 110 = .ok (.iload 6, 2) := by decide +kernel
theorem dX12_may_112 : decode cX12_may 112 = .ok (.iaload, 1) := by decide +kernel
theorem dX12_may_113 : decode cX12_may 113 = .ok (.aload_n 0, 1) := by decide +kernel
theorem dX12_may_114 : decode cX12_may 114 = .ok (.getfield 79, 3) := by decide +kernel
theorem dX12_may_117 : decode cX12_may 117 = .ok (.iload 6, 2) := by decide +kernel
theorem dX12_may_119 : decode cX12_may 119 = .ok (.iaload, 1) := by decide +kernel
theorem dX12_may_120 : decode cX12_may 120 = .ok (.if_icmp .ge 13, 3) := by decide +kernel
theorem dX12_may_123 : decode cX12_may 123 = .ok (.aload_n 0, 1) := by decide +kernel
theorem dX12_may_124 : decode cX12_may 124 = .ok (.getfield 76, 3) := by decide +kernel
theorem dX12_may_127 : decode cX12_may 127 = .ok (.iload 6, 2) := by decide +kernel
theorem dX12_may_129 : decode cX12_may 129 = .ok (.iaload, 1) := by decide +kernel
theorem dX12_may_130 : decode cX12_may 130 = .ok (.goto 10, 3) := by decide +kernel
theorem dX12_may_133 : decode cX12_may 133 = .ok (.aload_n 0, 1) := by decide +kernel
theorem dX12_may_134 : decode cX12_may 134 = .ok (.getfield 79, 3) := by decide +kernel
theorem dX12_may_137 : decode cX12_may 137 = .ok (.iload 6, 2) := by decide +kernel
theorem dX12_may_139 : decode cX12_may 139 = .ok (.iaload, 1) := by decide +kernel
theorem dX12_may_140 : decode cX12_may 140 = .ok (.iastore, 1) := by decide +kernel
theorem dX12_may_141 : decode cX12_may 141 = .ok (.aload_n 0, 1) := by decide +kernel
theorem dX12_may_142 : decode cX12_may 142 = .ok (.getfield 82, 3) := by decide +kernel
theorem dX12_may_145 : decode cX12_may 145 = .ok (.iload 6, 2) := by decide +kernel
theorem dX12_may_147 : decode cX12_may 147 = .ok (.iload_n 3, 1) := by decide +kernel
theorem dX12_may_148 : decode cX12_may 148 = .ok (.ifCond .eq 20, 3) := by decide +kernel
theorem dX12_may_151 : decode cX12_may 151 = .ok (.aload_n 0, 1) := by decide +kernel
theorem dX12_may_152 : decode cX12_may 152 = .ok (.getfield 76, 3) := by decide +kernel
theorem dX12_may_155 : decode cX12_may 155 = .ok (.iload 6, 2) := by decide +kernel
theorem dX12_may_157 : decode cX12_may 157 = .ok (.iaload, 1) := by decide +kernel
theorem dX12_may_158 : decode cX12_may 158 = .ok (.aload_n 0, 1) := by decide +kernel
theorem dX12_may_159 : decode cX12_may 159 = .ok (.getfield 82, 3) := by decide +kernel
theorem dX12_may_162 : decode cX12_may 162 = .ok (.iload 6, 2) := by decide +kernel
theorem dX12_may_164 : decode cX12_may 164 = .ok (.iaload, 1) := by decide +kernel
theorem dX12_may_165 : decode cX12_may 165 = .ok (.if_icmp .le 13, 3) := by decide +kernel
theorem dX12_may_168 : decode cX12_may 168 = .ok (.aload_n 0, 1) := by decide +kernel
theorem dX12_may_169 : decode cX12_may 169 = .ok (.getfield 76, 3) := by decide +kernel
theorem dX12_may_172 : decode cX12_may 172 = .ok (.iload 6, 2) := by decide +kernel
theorem dX12_may_174 : decode cX12_may 174 = .ok (.iaload, 1) := by decide +kernel
theorem dX12_may_175 : decode cX12_may 175 = .ok (.goto 10, 3) := by decide +kernel
theorem dX12_may_178 : decode cX12_may 178 = .ok (.aload_n 0, 1) := by decide +kernel
theorem dX12_may_179 : decode cX12_may 179 = .ok (.getfield 82, 3) := by decide +kernel
theorem dX12_may_182 : decode cX12_may 182 = .ok (.iload 6, 2) := by decide +kernel
theorem dX12_may_184 : decode cX12_may 184 = .ok (.iaload, 1) := by decide +kernel
theorem dX12_may_185 : decode cX12_may 185 = .ok (.iastore, 1) := by decide +kernel
theorem dX12_may_186 : decode cX12_may 186 = .ok (.iinc 6 1, 3) := by decide +kernel
theorem dX12_may_189 : decode cX12_may 189 = .ok (.goto (-100), 3) := by decide +kernel
theorem dX12_may_192 : decode cX12_may 192 = .ok (.iinc 3 1, 3) := by decide +kernel
theorem dX12_may_195 : decode cX12_may 195 = .ok (.iinc 5 1, 3) := by decide +kernel
theorem dX12_may_198 : decode cX12_may 198 = .ok (.goto (-163), 3) := by decide +kernel
theorem dX12_may_201 : decode cX12_may 201 = .ok (.iload_n 2, 1) := by decide +kernel
theorem dX12_may_202 : decode cX12_may 202 = .ok (.iconst 2, 1) := by decide +kernel
theorem dX12_may_203 : decode cX12_may 203 = .ok (.if_icmp .ge 14, 3) := by decide +kernel
theorem dX12_may_206 : decode cX12_may 206 = .ok (.iload_n 2, 1) := by decide +kernel
theorem dX12_may_207 : decode cX12_may 207 = .ok (.ifCond .ne 7, 3) := by decide +kernel
theorem dX12_may_210 : decode cX12_may 210 = .ok (.iload_n 3, 1) := by decide +kernel
theorem dX12_may_211 : decode cX12_may 211 = .ok (.goto 5, 3) := by decide +kernel
theorem dX12_may_214 : decode cX12_may 214 = .ok (.iload 4, 2) := by decide +kernel
theorem dX12_may_216 : decode cX12_may 216 = .ok (.ireturn, 1) := by decide +kernel
theorem dX12_may_217 : decode cX12_may 217 = .ok (.iconst (-1), 1) := by decide +kernel
theorem dX12_may_218 : decode cX12_may 218 = .ok (.istore 5, 2) := by decide +kernel
theorem dX12_may_220 : decode cX12_may 220 = .ok (.iconst 0, 1) := by decide +kernel
theorem dX12_may_221 : decode cX12_may 221 = .ok (.istore 6, 2) := by decide +kernel
theorem dX12_may_223 : decode cX12_may 223 = .ok (.iload 6, 2) := by decide +kernel
theorem dX12_may_225 : decode cX12_may 225 = .ok (.bipush 60, 2) := by decide +kernel
theorem dX12_may_227 : decode cX12_may 227 = .ok (.if_icmp .gt 61, 3) := by decide +kernel
theorem dX12_may_230 : decode cX12_may 230 = .ok (.iload_n 3, 1) := by decide +kernel
theorem dX12_may_231 : decode cX12_may 231 = .ok (.ifCond .le 57, 3) := by decide +kernel
theorem dX12_may_234 : decode cX12_may 234 = .ok (.iload 5, 2) := by decide +kernel
theorem dX12_may_236 : decode cX12_may 236 = .ok (.iconst (-1), 1) := by decide +kernel
theorem dX12_may_237 : decode cX12_may 237 = .ok (.if_icmp .eq 36, 3) := by decide +kernel
theorem dX12_may_240 : decode cX12_may 240 = .ok (.aload_n 0, 1) := by decide +kernel
theorem dX12_may_241 : decode cX12_may 241 = .ok (.getfield 82, 3) := by decide +kernel
theorem dX12_may_244 : decode cX12_may 244 = .ok (.iload 6, 2) := by decide +kernel
theorem dX12_may_246 : decode cX12_may 246 = .ok (.iaload, 1) := by decide +kernel
theorem dX12_may_247 : decode cX12_may 247 = .ok (.aload_n 0, 1) := by decide +kernel
theorem dX12_may_248 : decode cX12_may 248 = .ok (.getfield 79, 3) := by decide +kernel
theorem dX12_may_251 : decode cX12_may 251 = .ok (.iload 6, 2) := by decide +kernel
theorem dX12_may_253 : decode cX12_may 253 = .ok (.iaload, 1) := by decide +kernel
theorem dX12_may_254 : decode cX12_may 254 = .ok (.isub, 1) := by decide +kernel
theorem dX12_may_255 : decode cX12_may 255 = .ok (.aload_n 0, 1) := by decide +kernel
theorem dX12_may_256 : decode cX12_may 256 = .ok (.getfield 82, 3) := by decide +kernel
theorem dX12_may_259 : decode cX12_may 259 = .ok (.iload 5, 2) := by decide +kernel
theorem dX12_may_261 : decode cX12_may 261 = .ok (.iaload, 1) := by decide +kernel
theorem dX12_may_262 : decode cX12_may 262 = .ok (.aload_n 0, 1) := by decide +kernel
theorem dX12_may_263 : decode cX12_may 263 = .ok (.getfield 79, 3) := by decide +kernel
theorem dX12_may_266 : decode cX12_may 266 = .ok (.iload 5, 2) := by decide +kernel
theorem dX12_may_268 : decode cX12_may 268 = .ok (.iaload, 1) := by decide +kernel
theorem dX12_may_269 : decode cX12_may 269 = .ok (.isub, 1) := by decide +kernel
theorem dX12_may_270 : decode cX12_may 270 = .ok (.if_icmp .le 8, 3) := by decide +kernel
theorem dX12_may_273 : decode cX12_may 273 = .ok (.iload 6, 2) := by decide +kernel
theorem dX12_may_275 : decode cX12_may 275 = .ok (.goto 5, 3) := by decide +kernel
theorem dX12_may_278 : decode cX12_may 278 = .ok (.iload 5, 2) := by decide +kernel
theorem dX12_may_280 : decode cX12_may 280 = .ok (.istore 5, 2) := by decide +kernel
theorem dX12_may_282 : decode cX12_may 282 = .ok (.iinc 6 1, 3) := by decide +kernel
theorem dX12_may_285 : decode cX12_may 285 = .ok (.goto (-62), 3) := by decide +kernel
theorem dX12_may_288 : decode cX12_may 288 = .ok (.iload 5, 2) := by decide +kernel
theorem dX12_may_290 : decode cX12_may 290 = .ok (.ireturn, 1) := by decide +kernel
theorem dX12_count_0 : decode cX12_count 0 = .ok (.iload_n 1, 1) := by decide +kernel
theorem dX12_count_1 : decode cX12_count 1 = .ok (.tableswitch 96 0 7 #[47, 54, 61, 71, 76, 81, 86, 91], 47) := by decide +kernel
theorem dX12_count_48 : decode cX12_count 48 = .ok (.aload_n 0, 1) := by decide +kernel
theorem dX12_count_49 : decode cX12_count 49 = .ok (.getfield 16, 3) := by decide +kernel
theorem dX12_count_52 : decode cX12_count 52 = .ok (.iconst 0, 1) := by decide +kernel
theorem dX12_count_53 : decode cX12_count 53 = .ok (.iaload, 1) := by decide +kernel
theorem dX12_count_54 : decode cX12_count 54 = .ok (.ireturn, 1) := by decide +kernel
theorem dX12_count_55 : decode cX12_count 55 = .ok (.aload_n 0, 1) := by decide +kernel
theorem dX12_count_56 : decode cX12_count 56 = .ok (.getfield 13, 3) := by decide +kernel
theorem dX12_count_59 : decode cX12_count 59 = .ok (.iconst 0, 1) := by decide +kernel
theorem dX12_count_60 : decode cX12_count 60 = .ok (.iaload, 1) := by decide +kernel
theorem dX12_count_61 : decode cX12_count 61 = .ok (.ireturn, 1) := by decide +kernel
theorem dX12_count_62 : decode cX12_count 62 = .ok (.aload_n 0, 1) := by decide +kernel
theorem dX12_count_63 : decode cX12_count 63 = .ok (.getfield 7, 3) := by decide +kernel
theorem dX12_count_66 : decode cX12_count 66 = .ok (.iconst 3, 1) := by decide +kernel
theorem dX12_count_67 : decode cX12_count 67 = .ok (.iaload, 1) := by decide +kernel
theorem dX12_count_68 : decode cX12_count 68 = .ok (.bipush 50, 2) := by decide +kernel
theorem dX12_count_70 : decode cX12_count 70 = .ok (.iadd, 1) := by decide +kernel
theorem dX12_count_71 : decode cX12_count 71 = .ok (.ireturn, 1) := by decide +kernel
theorem dX12_count_72 : decode cX12_count 72 = .ok (.aload_n 0, 1) := by decide +kernel
theorem dX12_count_73 : decode cX12_count 73 = .ok (.getfield 123, 3) := by decide +kernel
theorem dX12_count_76 : decode cX12_count 76 = .ok (.ireturn, 1) := by decide +kernel
theorem dX12_count_77 : decode cX12_count 77 = .ok (.aload_n 0, 1) := by decide +kernel
theorem dX12_count_78 : decode cX12_count 78 = .ok (.getfield 198, 3) := by decide +kernel
theorem dX12_count_81 : decode cX12_count 81 = .ok (.ireturn, 1) := by decide +kernel
theorem dX12_count_82 : decode cX12_count 82 = .ok (.aload_n 0, 1) := by decide +kernel
theorem dX12_count_83 : decode cX12_count 83 = .ok (.getfield 274, 3) := by decide +kernel
theorem dX12_count_86 : decode cX12_count 86 = .ok (.ireturn, 1) := by decide +kernel
theorem dX12_count_87 : decode cX12_count 87 = .ok (.aload_n 0, 1) := by decide +kernel
theorem dX12_count_88 : decode cX12_count 88 = .ok (.getfield 280, 3) := by decide +kernel
theorem dX12_count_91 : decode cX12_count 91 = .ok (.ireturn, 1) := by decide +kernel
theorem dX12_count_92 : decode cX12_count 92 = .ok (.aload_n 0, 1) := by decide +kernel
theorem dX12_count_93 : decode cX12_count 93 = .ok (.getfield 285, 3) := by decide +kernel
theorem dX12_count_96 : decode cX12_count 96 = .ok (.ireturn, 1) := by decide +kernel
theorem dX12_count_97 : decode cX12_count 97 = .ok (.bipush (-3), 2) := by decide +kernel
theorem dX12_count_99 : decode cX12_count 99 = .ok (.ireturn, 1) := by decide +kernel
end
section
theorem dL_law_0 : decode cL_law 0 = .ok (.new 7, 3) := by decide +kernel
theorem dL_law_3 : decode cL_law 3 = .ok (.dup, 1) := by decide +kernel
theorem dL_law_4 : decode cL_law 4 = .ok (.invokespecial 9, 3) := by decide +kernel
theorem dL_law_7 : decode cL_law 7 = .ok (.astore_n 1, 1) := by decide +kernel
theorem dL_law_8 : decode cL_law 8 = .ok (.new 10, 3) := by decide +kernel
theorem dL_law_11 : decode cL_law 11 = .ok (.dup, 1) := by decide +kernel
theorem dL_law_12 : decode cL_law 12 = .ok (.invokespecial 12, 3) := by decide +kernel
theorem dL_law_15 : decode cL_law 15 = .ok (.astore_n 2, 1) := by decide +kernel
theorem dL_law_16 : decode cL_law 16 = .ok (.iconst 0, 1) := by decide +kernel
theorem dL_law_17 : decode cL_law 17 = .ok (.istore_n 3, 1) := by decide +kernel
theorem dL_law_18 : decode cL_law 18 = .ok (.iload_n 3, 1) := by decide +kernel
theorem dL_law_19 : decode cL_law 19 = .ok (.aload_n 0, 1) := by decide +kernel
theorem dL_law_20 : decode cL_law 20 = .ok (.arraylength, 1) := by decide +kernel
theorem dL_law_21 : decode cL_law 21 = .ok (.iconst 5, 1) := by decide +kernel
theorem dL_law_22 : decode cL_law 22 = .ok (.isub, 1) := by decide +kernel
theorem dL_law_23 : decode cL_law 23 = .ok (.if_icmp .gt 1264, 3) := by decide +kernel
theorem dL_law_26 : decode cL_law 26 = .ok (.aload_n 0, 1) := by decide +kernel
theorem dL_law_27 : decode cL_law 27 = .ok (.iload_n 3, 1) := by decide +kernel
theorem dL_law_28 : decode cL_law 28 = .ok (.iaload, 1) := by decide +kernel
theorem dL_law_29 : decode cL_law 29 = .ok (.bipush 63, 2) := by decide +kernel
theorem dL_law_31 : decode cL_law 31 = .ok (.iand, 1) := by decide +kernel
theorem dL_law_32 : decode cL_law 32 = .ok (.tableswitch 1249 0 32 #[148, 181, 204, 227, 240, 273, 316, 349, 392, 425, 448, 481, 524, 547, 596, 659, 672, 685, 698, 721, 744, 813, 836, 889, 942, 985, 1018, 1061, 1094, 1127, 1160, 1193, 1226], 148) := by decide +kernel
theorem dL_law_180 : decode cL_law 180 = .ok (.aload_n 1, 1) := by decide +kernel
theorem dL_law_181 : decode cL_law 181 = .ok (.aload_n 0, 1) := by decide +kernel
theorem dL_law_182 : decode cL_law 182 = .ok (.iload_n 3, 1) := by decide +kernel
theorem dL_law_183 : decode cL_law 183 = .ok (.iconst 1, 1) := by decide +kernel
theorem dL_law_184 : decode cL_law 184 = .ok (.iadd, 1) := by decide +kernel
theorem dL_law_185 : decode cL_law 185 = .ok (.iaload, 1) := by decide +kernel
theorem dL_law_186 : decode cL_law 186 = .ok (.aload_n 0, 1) := by decide +kernel
theorem dL_law_187 : decode cL_law 187 = .ok (.iload_n 3, 1) := by decide +kernel
theorem dL_law_188 : decode cL_law 188 = .ok (.iconst 2, 1) := by decide +kernel
theorem dL_law_189 : decode cL_law 189 = .ok (.iadd, 1) := by decide +kernel
theorem dL_law_190 : decode cL_law 190 = .ok (.iaload, 1) := by decide +kernel
theorem dL_law_191 : decode cL_law 191 = .ok (.invokevirtual 13, 3) := by decide +kernel
theorem dL_law_194 : decode cL_law 194 = .ok (.aload_n 2, 1) := by decide +kernel
theorem dL_law_195 : decode cL_law 195 = .ok (.aload_n 0, 1) := by decide +kernel
theorem dL_law_196 : decode cL_law 196 = .ok (.iload_n 3, 1) := by decide +kernel
theorem dL_law_197 : decode cL_law 197 = .ok (.iconst 1, 1) := by decide +kernel
theorem dL_law_198 : decode cL_law 198 = .ok (.iadd, 1) := by decide +kernel
theorem dL_law_199 : decode cL_law 199 = .ok (.iaload, 1) := by decide +kernel
theorem dL_law_200 : decode cL_law 200 = .ok (.aload_n 0, 1) := by decide +kernel
theorem dL_law_201 : decode cL_law 201 = .ok (.iload_n 3, 1) := by decide +kernel
theorem dL_law_202 : decode cL_law 202 = .ok (.iconst 2, 1) := by decide +kernel
theorem dL_law_203 : decode cL_law 203 = .ok (.iadd, 1) := by decide +kernel
theorem dL_law_204 : decode cL_law 204 = .ok (.iaload, 1) := by decide +kernel
theorem dL_law_205 : decode cL_law 205 = .ok (.invokevirtual 17, 3) := by decide +kernel
theorem dL_law_208 : decode cL_law 208 = .ok (.if_icmp .eq 1073, 3) := by decide +kernel
theorem dL_law_211 : decode cL_law 211 = .ok (.iconst 0, 1) := by decide +kernel
theorem dL_law_212 : decode cL_law 212 = .ok (.ireturn, 1) := by decide +kernel
theorem dL_law_213 : decode cL_law 213 = .ok (.aload_n 1, 1) := by decide +kernel
theorem dL_law_214 : decode cL_law 214 = .ok (.aload_n 0, 1) := by decide +kernel
theorem dL_law_215 : decode cL_law 215 = .ok (.iload_n 3, 1) := by decide +kernel
theorem dL_law_216 : decode cL_law 216 = .ok (.iconst 1, 1) := by decide +kernel
theorem dL_law_217 : decode cL_law 217 = .ok (.iadd, 1) := by decide +kernel
theorem dL_law_218 : decode cL_law 218 = .ok (.iaload, 1) := by decide +kernel
theorem dL_law_219 : decode cL_law 219 = .ok (.invokevirtual 18, 3) := by decide +kernel
theorem dL_law_222 : decode cL_law 222 = .ok (.aload_n 2, 1) := by decide +kernel
theorem dL_law_223 : decode cL_law 223 = .ok (.aload_n 0, 1) := by decide +kernel
theorem dL_law_224 : decode cL_law 224 = .ok (.iload_n 3, 1) := by decide +kernel
theorem dL_law_225 : decode cL_law 225 = .ok (.iconst 1, 1) := by decide +kernel
theorem dL_law_226 : decode cL_law 226 = .ok (.iadd, 1) := by decide +kernel
theorem dL_law_227 : decode cL_law 227 = .ok (.iaload, 1) := by decide +kernel
theorem dL_law_228 : decode cL_law 228 = .ok (.invokevirtual 22, 3) := by decide +kernel
theorem dL_law_231 : decode cL_law 231 = .ok (.if_icmp .eq 1050, 3) := by decide +kernel
theorem dL_law_234 : decode cL_law 234 = .ok (.iconst 0, 1) := by decide +kernel
theorem dL_law_235 : decode cL_law 235 = .ok (.ireturn, 1) := by decide +kernel
theorem dL_law_236 : decode cL_law 236 = .ok (.aload_n 1, 1) := by decide +kernel
theorem dL_law_237 : decode cL_law 237 = .ok (.aload_n 0, 1) := by decide +kernel
theorem dL_law_238 : decode cL_law 238 = .ok (.iload_n 3, 1) := by decide +kernel
theorem dL_law_239 : decode cL_law 239 = .ok (.iconst 1, 1) := by decide +kernel
theorem dL_law_240 : decode cL_law 240 = .ok (.iadd, 1) := by decide +kernel
theorem dL_law_241 : decode cL_law 241 = .ok (.iaload, 1) := by decide +kernel
theorem dL_law_242 : decode cL_law 242 = .ok (.invokevirtual 23, 3) := by decide +kernel
theorem dL_law_245 : decode cL_law 245 = .ok (.aload_n 2, 1) := by decide +kernel
theorem dL_law_246 : decode cL_law 246 = .ok (.aload_n 0, 1) := by decide +kernel
theorem dL_law_247 : decode cL_law 247 = .ok (.iload_n 3, 1) := by decide +kernel
theorem dL_law_248 : decode cL_law 248 = .ok (.iconst 1, 1) := by decide +kernel
theorem dL_law_249 : decode cL_law 249 = .ok (.iadd, 1) := by decide +kernel
theorem dL_law_250 : decode cL_law 250 = .ok (.iaload, 1) := by decide +kernel
theorem dL_law_251 : decode cL_law 251 = .ok (.invokevirtual 26, 3) := by decide +kernel
theorem dL_law_254 : decode cL_law 254 = .ok (.if_icmp .eq 1027, 3) := by decide +kernel
theorem dL_law_257 : decode cL_law 257 = .ok (.iconst 0, 1) := by decide +kernel
theorem dL_law_258 : decode cL_law 258 = .ok (.ireturn, 1) := by decide +kernel
theorem dL_law_259 : decode cL_law 259 = .ok (.aload_n 1, 1) := by decide +kernel
theorem dL_law_260 : decode cL_law 260 = .ok (.invokevirtual 27, 3) := by decide +kernel
theorem dL_law_263 : decode cL_law 263 = .ok (.aload_n 2, 1) := by decide +kernel
theorem dL_law_264 : decode cL_law 264 = .ok (.invokevirtual 31, 3) := by decide +kernel
theorem dL_law_267 : decode cL_law 267 = .ok (.if_icmp .eq 1014, 3) := by decide +kernel
theorem dL_law_270 : decode cL_law 270 = .ok (.iconst 0, 1) := by decide +kernel
theorem dL_law_271 : decode cL_law 271 = .ok (.ireturn, 1) := by decide +kernel
theorem dL_law_272 : decode cL_law 272 = .ok (.aload_n 1, 1) := by decide +kernel
theorem dL_law_273 : decode cL_law 273 = .ok (.aload_n 0, 1) := by decide +kernel
theorem dL_law_274 : decode cL_law 274 = .ok (.iload_n 3, 1) := by decide +kernel
theorem dL_law_275 : decode cL_law 275 = .ok (.iconst 1, 1) := by decide +kernel
theorem dL_law_276 : decode cL_law 276 = .ok (.iadd, 1) := by decide +kernel
theorem dL_law_277 : decode cL_law 277 = .ok (.iaload, 1) := by decide +kernel
theorem dL_law_278 : decode cL_law 278 = .ok (.aload_n 0, 1) := by decide +kernel
theorem dL_law_279 : decode cL_law 279 = .ok (.iload_n 3, 1) := by decide +kernel
theorem dL_law_280 : decode cL_law 280 = .ok (.iconst 2, 1) := by decide +kernel
theorem dL_law_281 : decode cL_law 281 = .ok (.iadd, 1) := by decide +kernel
theorem dL_law_282 : decode cL_law 282 = .ok (.iaload, 1) := by decide +kernel
theorem dL_law_283 : decode cL_law 283 = .ok (.invokevirtual 32, 3) := by decide +kernel
theorem dL_law_286 : decode cL_law 286 = .ok (.aload_n 2, 1) := by decide +kernel
theorem dL_law_287 : decode cL_law 287 = .ok (.aload_n 0, 1) := by decide +kernel
theorem dL_law_288 : decode cL_law 288 = .ok (.iload_n 3, 1) := by decide +kernel
theorem dL_law_289 : decode cL_law 289 = .ok (.iconst 1, 1) := by decide +kernel
theorem dL_law_290 : decode cL_law 290 = .ok (.iadd, 1) := by decide +kernel
theorem dL_law_291 : decode cL_law 291 = .ok (.iaload, 1) := by decide +kernel
theorem dL_law_292 : decode cL_law 292 = .ok (.aload_n 0, 1) := by decide +kernel
theorem dL_law_293 : decode cL_law 293 = .ok (.iload_n 3, 1) := by decide +kernel
theorem dL_law_294 : decode cL_law 294 = .ok (.iconst 2, 1) := by decide +kernel
theorem dL_law_295 : decode cL_law 295 = .ok (.iadd, 1) := by decide +kernel
theorem dL_law_296 : decode cL_law 296 = .ok (.iaload, 1) := by decide +kernel
theorem dL_law_297 : decode cL_law 297 = .ok (.invokevirtual 35, 3) := by decide +kernel
theorem dL_law_300 : decode cL_law 300 = .ok (.if_icmp .eq 981, 3) := by decide +kernel
theorem dL_law_303 : decode cL_law 303 = .ok (.iconst 0, 1) := by decide +kernel
theorem dL_law_304 : decode cL_law 304 = .ok (.ireturn, 1) := by decide +kernel
theorem dL_law_305 : decode cL_law 305 = .ok (.aload_n 1, 1) := by decide +kernel
theorem dL_law_306 : decode cL_law 306 = .ok (.aload_n 0, 1) := by decide +kernel
theorem dL_law_307 : decode cL_law 307 = .ok (.iload_n 3, 1) := by decide +kernel
theorem dL_law_308 : decode cL_law 308 = .ok (.iconst 1, 1) := by decide +kernel
theorem dL_law_309 : decode cL_law 309 = .ok (.iadd, 1) := by decide +kernel
theorem dL_law_310 : decode cL_law 310 = .ok (.iaload, 1) := by decide +kernel
theorem dL_law_311 : decode cL_law 311 = .ok (.aload_n 0, 1) := by decide +kernel
theorem dL_law_312 : decode cL_law 312 = .ok (.iload_n 3, 1) := by decide +kernel
theorem dL_law_313 : decode cL_law 313 = .ok (.iconst 2, 1) := by decide +kernel
theorem dL_law_314 : decode cL_law 314 = .ok (.iadd, 1) := by decide +kernel
theorem dL_law_315 : decode cL_law 315 = .ok (.iaload, 1) := by decide +kernel
theorem dL_law_316 : decode cL_law 316 = .ok (.aload_n 0, 1) := by decide +kernel
theorem dL_law_317 : decode cL_law 317 = .ok (.iload_n 3, 1) := by decide +kernel
theorem dL_law_318 : decode cL_law 318 = .ok (.iconst 3, 1) := by decide +kernel
theorem dL_law_319 : decode cL_law 319 = .ok (.iadd, 1) := by decide +kernel
theorem dL_law_320 : decode cL_law 320 = .ok (.iaload, 1) := by decide +kernel
theorem dL_law_321 : decode cL_law 321 = .ok (.invokevirtual 36, 3) := by decide +kernel
theorem dL_law_324 : decode cL_law 324 = .ok (.aload_n 2, 1) := by decide +kernel
theorem dL_law_325 : decode cL_law 325 = .ok (.aload_n 0, 1) := by decide +kernel
theorem dL_law_326 : decode cL_law 326 = .ok (.iload_n 3, 1) := by decide +kernel
theorem dL_law_327 : decode cL_law 327 = .ok (.iconst 1, 1) := by decide +kernel
theorem dL_law_328 : decode cL_law 328 = .ok (.iadd, 1) := by decide +kernel
theorem dL_law_329 : decode cL_law 329 = .ok (.iaload, 1) := by decide +kernel
theorem dL_law_330 : decode cL_law 330 = .ok (.aload_n 0, 1) := by decide +kernel
theorem dL_law_331 : decode cL_law 331 = .ok (.iload_n 3, 1) := by decide +kernel
theorem dL_law_332 : decode cL_law 332 = .ok (.iconst 2, 1) := by decide +kernel
theorem dL_law_333 : decode cL_law 333 = .ok (.iadd, 1) := by decide +kernel
theorem dL_law_334 : decode cL_law 334 = .ok (.iaload, 1) := by decide +kernel
theorem dL_law_335 : decode cL_law 335 = .ok (.aload_n 0, 1) := by decide +kernel
theorem dL_law_336 : decode cL_law 336 = .ok (.iload_n 3, 1) := by decide +kernel
theorem dL_law_337 : decode cL_law 337 = .ok (.iconst 3, 1) := by decide +kernel
theorem dL_law_338 : decode cL_law 338 = .ok (.iadd, 1) := by decide +kernel
theorem dL_law_339 : decode cL_law 339 = .ok (.iaload, 1) := by decide +kernel
theorem dL_law_340 : decode cL_law 340 = .ok (.invokevirtual 40, 3) := by decide +kernel
theorem dL_law_343 : decode cL_law 343 = .ok (.if_icmp .eq 938, 3) := by decide +kernel
theorem dL_law_346 : decode cL_law 346 = .ok (.iconst 0, 1) := by decide +kernel
theorem dL_law_347 : decode cL_law 347 = .ok (.ireturn, 1) := by decide +kernel
theorem dL_law_348 : decode cL_law 348 = .ok (.aload_n 1, 1) := by decide +kernel
theorem dL_law_349 : decode cL_law 349 = .ok (.aload_n 0, 1) := by decide +kernel
theorem dL_law_350 : decode cL_law 350 = .ok (.iload_n 3, 1) := by decide +kernel
theorem dL_law_351 : decode cL_law 351 = .ok (.iconst 1, 1) := by decide +kernel
theorem dL_law_352 : decode cL_law 352 = .ok (.iadd, 1) := by decide +kernel
theorem dL_law_353 : decode cL_law 353 = .ok (.iaload, 1) := by decide +kernel
theorem dL_law_354 : decode cL_law 354 = .ok (.aload_n 0, 1) := by decide +kernel
theorem dL_law_355 : decode cL_law 355 = .ok (.iload_n 3, 1) := by decide +kernel
theorem dL_law_356 : decode cL_law 356 = .ok (.iconst 2, 1) := by decide +kernel
theorem dL_law_357 : decode cL_law 357 = .ok (.iadd, 1) := by decide +kernel
theorem dL_law_358 : decode cL_law 358 = .ok (.iaload, 1) := by decide +kernel
theorem dL_law_359 : decode cL_law 359 = .ok (.invokevirtual 41, 3) := by decide +kernel
theorem dL_law_362 : decode cL_law 362 = .ok (.aload_n 2, 1) := by decide +kernel
theorem dL_law_363 : decode cL_law 363 = .ok (.aload_n 0, 1) := by decide +kernel
theorem dL_law_364 : decode cL_law 364 = .ok (.iload_n 3, 1) := by decide +kernel
theorem dL_law_365 : decode cL_law 365 = .ok (.iconst 1, 1) := by decide +kernel
theorem dL_law_366 : decode cL_law 366 = .ok (.iadd, 1) := by decide +kernel
theorem dL_law_367 : decode cL_law 367 = .ok (.iaload, 1) := by decide +kernel
theorem dL_law_368 : decode cL_law 368 = .ok (.aload_n 0, 1) := by decide +kernel
theorem dL_law_369 : decode cL_law 369 = .ok (.iload_n 3, 1) := by decide +kernel
theorem dL_law_370 : decode cL_law 370 = .ok (.iconst 2, 1) := by decide +kernel
theorem dL_law_371 : decode cL_law 371 = .ok (.iadd, 1) := by decide +kernel
theorem dL_law_372 : decode cL_law 372 = .ok (.iaload, 1) := by decide +kernel
theorem dL_law_373 : decode cL_law 373 = .ok (.invokevirtual 44, 3) := by decide +kernel
theorem dL_law_376 : decode cL_law 376 = .ok (.if_icmp .eq 905, 3) := by decide +kernel
theorem dL_law_379 : decode cL_law 379 = .ok (.iconst 0, 1) := by decide +kernel
theorem dL_law_380 : decode cL_law 380 = .ok (.ireturn, 1) := by decide +kernel
theorem dL_law_381 : decode cL_law 381 = .ok (.aload_n 1, 1) := by decide +kernel
theorem dL_law_382 : decode cL_law 382 = .ok (.aload_n 0, 1) := by decide +kernel
theorem dL_law_383 : decode cL_law 383 = .ok (.iload_n 3, 1) := by decide +kernel
theorem dL_law_384 : decode cL_law 384 = .ok (.iconst 1, 1) := by decide +kernel
theorem dL_law_385 : decode cL_law 385 = .ok (.iadd, 1) := by decide +kernel
theorem dL_law_386 : decode cL_law 386 = .ok (.iaload, 1) := by decide +kernel
theorem dL_law_387 : decode cL_law 387 = .ok (.aload_n 0, 1) := by decide +kernel
theorem dL_law_388 : decode cL_law 388 = .ok (.iload_n 3, 1) := by decide +kernel
theorem dL_law_389 : decode cL_law 389 = .ok (.iconst 2, 1) := by decide +kernel
theorem dL_law_390 : decode cL_law 390 = .ok (.iadd, 1) := by decide +kernel
theorem dL_law_391 : decode cL_law 391 = .ok (.iaload, 1) := by decide +kernel
theorem dL_law_392 : decode cL_law 392 = .ok (.aload_n 0, 1) := by decide +kernel
theorem dL_law_393 : decode cL_law 393 = .ok (.iload_n 3, 1) := by decide +kernel
theorem dL_law_394 : decode cL_law 394 = .ok (.iconst 3, 1) := by decide +kernel
theorem dL_law_395 : decode cL_law 395 = .ok (.iadd, 1) := by decide +kernel
theorem dL_law_396 : decode cL_law 396 = .ok (.iaload, 1) := by decide +kernel
theorem dL_law_397 : decode cL_law 397 = .ok (.invokevirtual 45, 3) := by decide +kernel
theorem dL_law_400 : decode cL_law 400 = .ok (.aload_n 2, 1) := by decide +kernel
theorem dL_law_401 : decode cL_law 401 = .ok (.aload_n 0, 1) := by decide +kernel
theorem dL_law_402 : decode cL_law 402 = .ok (.iload_n 3, 1) := by decide +kernel
theorem dL_law_403 : decode cL_law 403 = .ok (.iconst 1, 1) := by decide +kernel
theorem dL_law_404 : decode cL_law 404 = .ok (.iadd, 1) := by decide +kernel
theorem dL_law_405 : decode cL_law 405 = .ok (.iaload, 1) := by decide +kernel
theorem dL_law_406 : decode cL_law 406 = .ok (.aload_n 0, 1) := by decide +kernel
theorem dL_law_407 : decode cL_law 407 = .ok (.iload_n 3, 1) := by decide +kernel
theorem dL_law_408 : decode cL_law 408 = .ok (.iconst 2, 1) := by decide +kernel
theorem dL_law_409 : decode cL_law 409 = .ok (.iadd, 1) := by decide +kernel
theorem dL_law_410 : decode cL_law 410 = .ok (.iaload, 1) := by decide +kernel
theorem dL_law_411 : decode cL_law 411 = .ok (.aload_n 0, 1) := by decide +kernel
theorem dL_law_412 : decode cL_law 412 = .ok (.iload_n 3, 1) := by decide +kernel
theorem dL_law_413 : decode cL_law 413 = .ok (.iconst 3, 1) := by decide +kernel
theorem dL_law_414 : decode cL_law 414 = .ok (.iadd, 1) := by decide +kernel
theorem dL_law_415 : decode cL_law 415 = .ok (.iaload, 1) := by decide +kernel
theorem dL_law_416 : decode cL_law 416 = .ok (.invokevirtual 48, 3) := by decide +kernel
theorem dL_law_419 : decode cL_law 419 = .ok (.if_icmp .eq 862, 3) := by decide +kernel
theorem dL_law_422 : decode cL_law 422 = .ok (.iconst 0, 1) := by decide +kernel
theorem dL_law_423 : decode cL_law 423 = .ok (.ireturn, 1) := by decide +kernel
theorem dL_law_424 : decode cL_law 424 = .ok (.aload_n 1, 1) := by decide +kernel
theorem dL_law_425 : decode cL_law 425 = .ok (.aload_n 0, 1) := by decide +kernel
theorem dL_law_426 : decode cL_law 426 = .ok (.iload_n 3, 1) := by decide +kernel
theorem dL_law_427 : decode cL_law 427 = .ok (.iconst 1, 1) := by decide +kernel
theorem dL_law_428 : decode cL_law 428 = .ok (.iadd, 1) := by decide +kernel
theorem dL_law_429 : decode cL_law 429 = .ok (.iaload, 1) := by decide +kernel
theorem dL_law_430 : decode cL_law 430 = .ok (.aload_n 0, 1) := by decide +kernel
theorem dL_law_431 : decode cL_law 431 = .ok (.iload_n 3, 1) := by decide +kernel
theorem dL_law_432 : decode cL_law 432 = .ok (.iconst 2, 1) := by decide +kernel
theorem dL_law_433 : decode cL_law 433 = .ok (.iadd, 1) := by decide +kernel
theorem dL_law_434 : decode cL_law 434 = .ok (.iaload, 1) := by decide +kernel
theorem dL_law_435 : decode cL_law 435 = .ok (.invokevirtual 49, 3) := by decide +kernel
theorem dL_law_438 : decode cL_law 438 = .ok (.aload_n 2, 1) := by decide +kernel
theorem dL_law_439 : decode cL_law 439 = .ok (.aload_n 0, 1) := by decide +kernel
theorem dL_law_440 : decode cL_law 440 = .ok (.iload_n 3, 1) := by decide +kernel
theorem dL_law_441 : decode cL_law 441 = .ok (.iconst 1, 1) := by decide +kernel
theorem dL_law_442 : decode cL_law 442 = .ok (.iadd, 1) := by decide +kernel
theorem dL_law_443 : decode cL_law 443 = .ok (.iaload, 1) := by decide +kernel
theorem dL_law_444 : decode cL_law 444 = .ok (.aload_n 0, 1) := by decide +kernel
theorem dL_law_445 : decode cL_law 445 = .ok (.iload_n 3, 1) := by decide +kernel
theorem dL_law_446 : decode cL_law 446 = .ok (.iconst 2, 1) := by decide +kernel
theorem dL_law_447 : decode cL_law 447 = .ok (.iadd, 1) := by decide +kernel
theorem dL_law_448 : decode cL_law 448 = .ok (.iaload, 1) := by decide +kernel
theorem dL_law_449 : decode cL_law 449 = .ok (.invokevirtual 52, 3) := by decide +kernel
theorem dL_law_452 : decode cL_law 452 = .ok (.if_icmp .eq 829, 3) := by decide +kernel
theorem dL_law_455 : decode cL_law 455 = .ok (.iconst 0, 1) := by decide +kernel
theorem dL_law_456 : decode cL_law 456 = .ok (.ireturn, 1) := by decide +kernel
theorem dL_law_457 : decode cL_law 457 = .ok (.aload_n 1, 1) := by decide +kernel
theorem dL_law_458 : decode cL_law 458 = .ok (.aload_n 0, 1) := by decide +kernel
theorem dL_law_459 : decode cL_law 459 = .ok (.iload_n 3, 1) := by decide +kernel
theorem dL_law_460 : decode cL_law 460 = .ok (.iconst 1, 1) := by decide +kernel
theorem dL_law_461 : decode cL_law 461 = .ok (.iadd, 1) := by decide +kernel
theorem dL_law_462 : decode cL_law 462 = .ok (.iaload, 1) := by decide +kernel
theorem dL_law_463 : decode cL_law 463 = .ok (.invokevirtual 53, 3) := by decide +kernel
theorem dL_law_466 : decode cL_law 466 = .ok (.aload_n 2, 1) := by decide +kernel
theorem dL_law_467 : decode cL_law 467 = .ok (.aload_n 0, 1) := by decide +kernel
theorem dL_law_468 : decode cL_law 468 = .ok (.iload_n 3, 1) := by decide +kernel
theorem dL_law_469 : decode cL_law 469 = .ok (.iconst 1, 1) := by decide +kernel
theorem dL_law_470 : decode cL_law 470 = .ok (.iadd, 1) := by decide +kernel
theorem dL_law_471 : decode cL_law 471 = .ok (.iaload, 1) := by decide +kernel
theorem dL_law_472 : decode cL_law 472 = .ok (.invokevirtual 56, 3) := by decide +kernel
theorem dL_law_475 : decode cL_law 475 = .ok (.if_icmp .eq 806, 3) := by decide +kernel
theorem dL_law_478 : decode cL_law 478 = .ok (.iconst 0, 1) := by decide +kernel
theorem dL_law_479 : decode cL_law 479 = .ok (.ireturn, 1) := by decide +kernel
theorem dL_law_480 : decode cL_law 480 = .ok (.aload_n 1, 1) := by decide +kernel
theorem dL_law_481 : decode cL_law 481 = .ok (.aload_n 0, 1) := by decide +kernel
theorem dL_law_482 : decode cL_law 482 = .ok (.iload_n 3, 1) := by decide +kernel
theorem dL_law_483 : decode cL_law 483 = .ok (.iconst 1, 1) := by decide +kernel
theorem dL_law_484 : decode cL_law 484 = .ok (.iadd, 1) := by decide +kernel
theorem dL_law_485 : decode cL_law 485 = .ok (.iaload, 1) := by decide +kernel
theorem dL_law_486 : decode cL_law 486 = .ok (.aload_n 0, 1) := by decide +kernel
theorem dL_law_487 : decode cL_law 487 = .ok (.iload_n 3, 1) := by decide +kernel
theorem dL_law_488 : decode cL_law 488 = .ok (.iconst 2, 1) := by decide +kernel
theorem dL_law_489 : decode cL_law 489 = .ok (.iadd, 1) := by decide +kernel
theorem dL_law_490 : decode cL_law 490 = .ok (.iaload, 1) := by decide +kernel
theorem dL_law_491 : decode cL_law 491 = .ok (.invokevirtual 57, 3) := by decide +kernel
theorem dL_law_494 : decode cL_law 494 = .ok (.aload_n 2, 1) := by decide +kernel
theorem dL_law_495 : decode cL_law 495 = .ok (.aload_n 0, 1) := by decide +kernel
theorem dL_law_496 : decode cL_law 496 = .ok (.iload_n 3, 1) := by decide +kernel
theorem dL_law_497 : decode cL_law 497 = .ok (.iconst 1, 1) := by decide +kernel
theorem dL_law_498 : decode cL_law 498 = .ok (.iadd, 1) := by decide +kernel
theorem dL_law_499 : decode cL_law 499 = .ok (.iaload, 1) := by decide +kernel
theorem dL_law_500 : decode cL_law 500 = .ok (.aload_n 0, 1) := by decide +kernel
theorem dL_law_501 : decode cL_law 501 = .ok (.iload_n 3, 1) := by decide +kernel
theorem dL_law_502 : decode cL_law 502 = .ok (.iconst 2, 1) := by decide +kernel
theorem dL_law_503 : decode cL_law 503 = .ok (.iadd, 1) := by decide +kernel
theorem dL_law_504 : decode cL_law 504 = .ok (.iaload, 1) := by decide +kernel
theorem dL_law_505 : decode cL_law 505 = .ok (.invokevirtual 60, 3) := by decide +kernel
theorem dL_law_508 : decode cL_law 508 = .ok (.if_icmp .eq 773, 3) := by decide +kernel
theorem dL_law_511 : decode cL_law 511 = .ok (.iconst 0, 1) := by decide +kernel
theorem dL_law_512 : decode cL_law 512 = .ok (.ireturn, 1) := by decide +kernel
theorem dL_law_513 : decode cL_law 513 = .ok (.aload_n 1, 1) := by decide +kernel
theorem dL_law_514 : decode cL_law 514 = .ok (.aload_n 0, 1) := by decide +kernel
theorem dL_law_515 : decode cL_law 515 = .ok (.iload_n 3, 1) := by decide +kernel
theorem dL_law_516 : decode cL_law 516 = .ok (.iconst 1, 1) := by decide +kernel
theorem dL_law_517 : decode cL_law 517 = .ok (.iadd, 1) := by decide +kernel
theorem dL_law_518 : decode cL_law 518 = .ok (.iaload, 1) := by decide +kernel
theorem dL_law_519 : decode cL_law 519 = .ok (.aload_n 0, 1) := by decide +kernel
theorem dL_law_520 : decode cL_law 520 = .ok (.iload_n 3, 1) := by decide +kernel
theorem dL_law_521 : decode cL_law 521 = .ok (.iconst 2, 1) := by decide +kernel
theorem dL_law_522 : decode cL_law 522 = .ok (.iadd, 1) := by decide +kernel
theorem dL_law_523 : decode cL_law 523 = .ok (.iaload, 1) := by decide +kernel
theorem dL_law_524 : decode cL_law 524 = .ok (.aload_n 0, 1) := by decide +kernel
theorem dL_law_525 : decode cL_law 525 = .ok (.iload_n 3, 1) := by decide +kernel
theorem dL_law_526 : decode cL_law 526 = .ok (.iconst 3, 1) := by decide +kernel
theorem dL_law_527 : decode cL_law 527 = .ok (.iadd, 1) := by decide +kernel
theorem dL_law_528 : decode cL_law 528 = .ok (.iaload, 1) := by decide +kernel
theorem dL_law_529 : decode cL_law 529 = .ok (.invokevirtual 61, 3) := by decide +kernel
theorem dL_law_532 : decode cL_law 532 = .ok (.aload_n 2, 1) := by decide +kernel
theorem dL_law_533 : decode cL_law 533 = .ok (.aload_n 0, 1) := by decide +kernel
theorem dL_law_534 : decode cL_law 534 = .ok (.iload_n 3, 1) := by decide +kernel
theorem dL_law_535 : decode cL_law 535 = .ok (.iconst 1, 1) := by decide +kernel
theorem dL_law_536 : decode cL_law 536 = .ok (.iadd, 1) := by decide +kernel
theorem dL_law_537 : decode cL_law 537 = .ok (.iaload, 1) := by decide +kernel
theorem dL_law_538 : decode cL_law 538 = .ok (.aload_n 0, 1) := by decide +kernel
theorem dL_law_539 : decode cL_law 539 = .ok (.iload_n 3, 1) := by decide +kernel
theorem dL_law_540 : decode cL_law 540 = .ok (.iconst 2, 1) := by decide +kernel
theorem dL_law_541 : decode cL_law 541 = .ok (.iadd, 1) := by decide +kernel
theorem dL_law_542 : decode cL_law 542 = .ok (.iaload, 1) := by decide +kernel
theorem dL_law_543 : decode cL_law 543 = .ok (.aload_n 0, 1) := by decide +kernel
theorem dL_law_544 : decode cL_law 544 = .ok (.iload_n 3, 1) := by decide +kernel
theorem dL_law_545 : decode cL_law 545 = .ok (.iconst 3, 1) := by decide +kernel
theorem dL_law_546 : decode cL_law 546 = .ok (.iadd, 1) := by decide +kernel
theorem dL_law_547 : decode cL_law 547 = .ok (.iaload, 1) := by decide +kernel
theorem dL_law_548 : decode cL_law 548 = .ok (.invokevirtual 64, 3) := by decide +kernel
theorem dL_law_551 : decode cL_law 551 = .ok (.if_icmp .eq 730, 3) := by decide +kernel
theorem dL_law_554 : decode cL_law 554 = .ok (.iconst 0, 1) := by decide +kernel
theorem dL_law_555 : decode cL_law 555 = .ok (.ireturn, 1) := by decide +kernel
theorem dL_law_556 : decode cL_law 556 = .ok (.aload_n 1, 1) := by decide +kernel
theorem dL_law_557 : decode cL_law 557 = .ok (.aload_n 0, 1) := by decide +kernel
theorem dL_law_558 : decode cL_law 558 = .ok (.iload_n 3, 1) := by decide +kernel
theorem dL_law_559 : decode cL_law 559 = .ok (.iconst 1, 1) := by decide +kernel
theorem dL_law_560 : decode cL_law 560 = .ok (.iadd, 1) := by decide +kernel
theorem dL_law_561 : decode cL_law 561 = .ok (.iaload, 1) := by decide +kernel
theorem dL_law_562 : decode cL_law 562 = .ok (.invokevirtual 65, 3) := by decide +kernel
theorem dL_law_565 : decode cL_law 565 = .ok (.aload_n 2, 1) := by decide +kernel
theorem dL_law_566 : decode cL_law 566 = .ok (.aload_n 0, 1) := by decide +kernel
theorem dL_law_567 : decode cL_law 567 = .ok (.iload_n 3, 1) := by decide +kernel
theorem dL_law_568 : decode cL_law 568 = .ok (.iconst 1, 1) := by decide +kernel
theorem dL_law_569 : decode cL_law 569 = .ok (.iadd, 1) := by decide +kernel
theorem dL_law_570 : decode cL_law 570 = .ok (.iaload, 1) := by decide +kernel
theorem dL_law_571 : decode cL_law 571 = .ok (.invokevirtual 68, 3) := by decide +kernel
theorem dL_law_574 : decode cL_law 574 = .ok (.if_icmp .eq 707, 3) := by decide +kernel
theorem dL_law_577 : decode cL_law 577 = .ok (.iconst 0, 1) := by decide +kernel
theorem dL_law_578 : decode cL_law 578 = .ok (.ireturn, 1) := by decide +kernel
theorem dL_law_579 : decode cL_law 579 = .ok (.aload_n 1, 1) := by decide +kernel
theorem dL_law_580 : decode cL_law 580 = .ok (.aload_n 0, 1) := by decide +kernel
theorem dL_law_581 : decode cL_law 581 = .ok (.iload_n 3, 1) := by decide +kernel
theorem dL_law_582 : decode cL_law 582 = .ok (.iconst 1, 1) := by decide +kernel
theorem dL_law_583 : decode cL_law 583 = .ok (.iadd, 1) := by decide +kernel
theorem dL_law_584 : decode cL_law 584 = .ok (.iaload, 1) := by decide +kernel
theorem dL_law_585 : decode cL_law 585 = .ok (.aload_n 0, 1) := by decide +kernel
theorem dL_law_586 : decode cL_law 586 = .ok (.iload_n 3, 1) := by decide +kernel
theorem dL_law_587 : decode cL_law 587 = .ok (.iconst 2, 1) := by decide +kernel
theorem dL_law_588 : decode cL_law 588 = .ok (.iadd, 1) := by decide +kernel
theorem dL_law_589 : decode cL_law 589 = .ok (.iaload, 1) := by decide +kernel
theorem dL_law_590 : decode cL_law 590 = .ok (.ifCond .eq 7, 3) := by decide +kernel
theorem dL_law_593 : decode cL_law 593 = .ok (.iconst 1, 1) := by decide +kernel
theorem dL_law_594 : decode cL_law 594 = .ok (.goto 4, 3) := by decide +kernel
theorem dL_law_597 : decode cL_law 597 = .ok (.iconst 0, 1) := by decide +kernel
theorem dL_law_598 : decode cL_law 598 = .ok (.invokevirtual 69, 3) := by decide +kernel
theorem dL_law_601 : decode cL_law 601 = .ok (.aload_n 2, 1) := by decide +kernel
theorem dL_law_602 : decode cL_law 602 = .ok (.aload_n 0, 1) := by decide +kernel
theorem dL_law_603 : decode cL_law 603 = .ok (.iload_n 3, 1) := by decide +kernel
theorem dL_law_604 : decode cL_law 604 = .ok (.iconst 1, 1) := by decide +kernel
theorem dL_law_605 : decode cL_law 605 = .ok (.iadd, 1) := by decide +kernel
theorem dL_law_606 : decode cL_law 606 = .ok (.iaload, 1) := by decide +kernel
theorem dL_law_607 : decode cL_law 607 = .ok (.aload_n 0, 1) := by decide +kernel
theorem dL_law_608 : decode cL_law 608 = .ok (.iload_n 3, 1) := by decide +kernel
theorem dL_law_609 : decode cL_law 609 = .ok (.iconst 2, 1) := by decide +kernel
theorem dL_law_610 : decode cL_law 610 = .ok (.iadd, 1) := by decide +kernel
theorem dL_law_611 : decode cL_law 611 = .ok (.iaload, 1) := by decide +kernel
theorem dL_law_612 : decode cL_law 612 = .ok (.ifCond .eq 7, 3) := by decide +kernel
theorem dL_law_615 : decode cL_law 615 = .ok (.iconst 1, 1) := by decide +kernel
theorem dL_law_616 : decode cL_law 616 = .ok (.goto 4, 3) := by decide +kernel
theorem dL_law_619 : decode cL_law 619 = .ok (.iconst 0, 1) := by decide +kernel
theorem dL_law_620 : decode cL_law 620 = .ok (.invokevirtual 73, 3) := by decide +kernel
theorem dL_law_623 : decode cL_law 623 = .ok (.if_icmp .eq 658, 3) := by decide +kernel
theorem dL_law_626 : decode cL_law 626 = .ok (.iconst 0, 1) := by decide +kernel
theorem dL_law_627 : decode cL_law 627 = .ok (.ireturn, 1) := by decide +kernel
theorem dL_law_628 : decode cL_law 628 = .ok (.aload_n 1, 1) := by decide +kernel
theorem dL_law_629 : decode cL_law 629 = .ok (.aload_n 0, 1) := by decide +kernel
theorem dL_law_630 : decode cL_law 630 = .ok (.iload_n 3, 1) := by decide +kernel
theorem dL_law_631 : decode cL_law 631 = .ok (.iconst 1, 1) := by decide +kernel
theorem dL_law_632 : decode cL_law 632 = .ok (.iadd, 1) := by decide +kernel
theorem dL_law_633 : decode cL_law 633 = .ok (.iaload, 1) := by decide +kernel
theorem dL_law_634 : decode cL_law 634 = .ok (.i2l, 1) := by decide +kernel
theorem dL_law_635 : decode cL_law 635 = .ok (.bipush 32, 2) := by decide +kernel
theorem dL_law_637 : decode cL_law 637 = .ok (.lshl, 1) := by decide +kernel
theorem dL_law_638 : decode cL_law 638 = .ok (.aload_n 0, 1) := by decide +kernel
theorem dL_law_639 : decode cL_law 639 = .ok (.iload_n 3, 1) := by decide +kernel
theorem dL_law_640 : decode cL_law 640 = .ok (.iconst 2, 1) := by decide +kernel
theorem dL_law_641 : decode cL_law 641 = .ok (.iadd, 1) := by decide +kernel
theorem dL_law_642 : decode cL_law 642 = .ok (.iaload, 1) := by decide +kernel
theorem dL_law_643 : decode cL_law 643 = .ok (.i2l, 1) := by decide +kernel
theorem dL_law_644 : decode cL_law 644 = .ok (.ldc2_w 74, 3) := by decide +kernel
theorem dL_law_647 : decode cL_law 647 = .ok (.land, 1) := by decide +kernel
theorem dL_law_648 : decode cL_law 648 = .ok (.lor, 1) := by decide +kernel
theorem dL_law_649 : decode cL_law 649 = .ok (.aload_n 0, 1) := by decide +kernel
theorem dL_law_650 : decode cL_law 650 = .ok (.iload_n 3, 1) := by decide +kernel
theorem dL_law_651 : decode cL_law 651 = .ok (.iconst 3, 1) := by decide +kernel
theorem dL_law_652 : decode cL_law 652 = .ok (.iadd, 1) := by decide +kernel
theorem dL_law_653 : decode cL_law 653 = .ok (.iaload, 1) := by decide +kernel
theorem dL_law_654 : decode cL_law 654 = .ok (.invokevirtual 76, 3) := by decide +kernel
theorem dL_law_657 : decode cL_law 657 = .ok (.aload_n 2, 1) := by decide +kernel
theorem dL_law_658 : decode cL_law 658 = .ok (.aload_n 0, 1) := by decide +kernel
theorem dL_law_659 : decode cL_law 659 = .ok (.iload_n 3, 1) := by decide +kernel
theorem dL_law_660 : decode cL_law 660 = .ok (.iconst 1, 1) := by decide +kernel
theorem dL_law_661 : decode cL_law 661 = .ok (.iadd, 1) := by decide +kernel
theorem dL_law_662 : decode cL_law 662 = .ok (.iaload, 1) := by decide +kernel
theorem dL_law_663 : decode cL_law 663 = .ok (.i2l, 1) := by decide +kernel
theorem dL_law_664 : decode cL_law 664 = .ok (.bipush 32, 2) := by decide +kernel
theorem dL_law_666 : decode cL_law 666 = .ok (.lshl, 1) := by decide +kernel
theorem dL_law_667 : decode cL_law 667 = .ok (.aload_n 0, 1) := by decide +kernel
theorem dL_law_668 : decode cL_law 668 = .ok (.iload_n 3, 1) := by decide +kernel
theorem dL_law_669 : decode cL_law 669 = .ok (.iconst 2, 1) := by decide +kernel
theorem dL_law_670 : decode cL_law 670 = .ok (.iadd, 1) := by decide +kernel
theorem dL_law_671 : decode cL_law 671 = .ok (.iaload, 1) := by decide +kernel
theorem dL_law_672 : decode cL_law 672 = .ok (.i2l, 1) := by decide +kernel
theorem dL_law_673 : decode cL_law 673 = .ok (.ldc2_w 74, 3) := by decide +kernel
theorem dL_law_676 : decode cL_law 676 = .ok (.land, 1) := by decide +kernel
theorem dL_law_677 : decode cL_law 677 = .ok (.lor, 1) := by decide +kernel
theorem dL_law_678 : decode cL_law 678 = .ok (.aload_n 0, 1) := by decide +kernel
theorem dL_law_679 : decode cL_law 679 = .ok (.iload_n 3, 1) := by decide +kernel
theorem dL_law_680 : decode cL_law 680 = .ok (.iconst 3, 1) := by decide +kernel
theorem dL_law_681 : decode cL_law 681 = .ok (.iadd, 1) := by decide +kernel
theorem dL_law_682 : decode cL_law 682 = .ok (.iaload, 1) := by decide +kernel
theorem dL_law_683 : decode cL_law 683 = .ok (.invokevirtual 80, 3) := by decide +kernel
theorem dL_law_686 : decode cL_law 686 = .ok (.if_icmp .eq 595, 3) := by decide +kernel
theorem dL_law_689 : decode cL_law 689 = .ok (.iconst 0, 1) := by decide +kernel
theorem dL_law_690 : decode cL_law 690 = .ok (.ireturn, 1) := by decide +kernel
theorem dL_law_691 : decode cL_law 691 = .ok (.aload_n 1, 1) := by decide +kernel
theorem dL_law_692 : decode cL_law 692 = .ok (.invokevirtual 81, 3) := by decide +kernel
theorem dL_law_695 : decode cL_law 695 = .ok (.aload_n 2, 1) := by decide +kernel
theorem dL_law_696 : decode cL_law 696 = .ok (.invokevirtual 84, 3) := by decide +kernel
theorem dL_law_699 : decode cL_law 699 = .ok (.if_icmp .eq 582, 3) := by decide +kernel
theorem dL_law_702 : decode cL_law 702 = .ok (.iconst 0, 1) := by decide +kernel
theorem dL_law_703 : decode cL_law 703 = .ok (.ireturn, 1) := by decide +kernel
theorem dL_law_704 : decode cL_law 704 = .ok (.aload_n 1, 1) := by decide +kernel
theorem dL_law_705 : decode cL_law 705 = .ok (.invokevirtual 85, 3) := by decide +kernel
theorem dL_law_708 : decode cL_law 708 = .ok (.aload_n 2, 1) := by decide +kernel
theorem dL_law_709 : decode cL_law 709 = .ok (.invokevirtual 88, 3) := by decide +kernel
theorem dL_law_712 : decode cL_law 712 = .ok (.if_icmp .eq 569, 3) := by decide +kernel
theorem dL_law_715 : decode cL_law 715 = .ok (.iconst 0, 1) := by decide +kernel
theorem dL_law_716 : decode cL_law 716 = .ok (.ireturn, 1) := by decide +kernel
theorem dL_law_717 : decode cL_law 717 = .ok (.aload_n 1, 1) := by decide +kernel
theorem dL_law_718 : decode cL_law 718 = .ok (.invokevirtual 89, 3) := by decide +kernel
theorem dL_law_721 : decode cL_law 721 = .ok (.aload_n 2, 1) := by decide +kernel
theorem dL_law_722 : decode cL_law 722 = .ok (.invokevirtual 92, 3) := by decide +kernel
theorem dL_law_725 : decode cL_law 725 = .ok (.if_icmp .eq 556, 3) := by decide +kernel
theorem dL_law_728 : decode cL_law 728 = .ok (.iconst 0, 1) := by decide +kernel
theorem dL_law_729 : decode cL_law 729 = .ok (.ireturn, 1) := by decide +kernel
theorem dL_law_730 : decode cL_law 730 = .ok (.aload_n 1, 1) := by decide +kernel
theorem dL_law_731 : decode cL_law 731 = .ok (.aload_n 0, 1) := by decide +kernel
theorem dL_law_732 : decode cL_law 732 = .ok (.iload_n 3, 1) := by decide +kernel
theorem dL_law_733 : decode cL_law 733 = .ok (.iconst 1, 1) := by decide +kernel
theorem dL_law_734 : decode cL_law 734 = .ok (.iadd, 1) := by decide +kernel
theorem dL_law_735 : decode cL_law 735 = .ok (.iaload, 1) := by decide +kernel
theorem dL_law_736 : decode cL_law 736 = .ok (.invokevirtual 93, 3) := by decide +kernel
theorem dL_law_739 : decode cL_law 739 = .ok (.aload_n 2, 1) := by decide +kernel
theorem dL_law_740 : decode cL_law 740 = .ok (.aload_n 0, 1) := by decide +kernel
theorem dL_law_741 : decode cL_law 741 = .ok (.iload_n 3, 1) := by decide +kernel
theorem dL_law_742 : decode cL_law 742 = .ok (.iconst 1, 1) := by decide +kernel
theorem dL_law_743 : decode cL_law 743 = .ok (.iadd, 1) := by decide +kernel
theorem dL_law_744 : decode cL_law 744 = .ok (.iaload, 1) := by decide +kernel
theorem dL_law_745 : decode cL_law 745 = .ok (.invokevirtual 96, 3) := by decide +kernel
theorem dL_law_748 : decode cL_law 748 = .ok (.if_icmp .eq 533, 3) := by decide +kernel
theorem dL_law_751 : decode cL_law 751 = .ok (.iconst 0, 1) := by decide +kernel
theorem dL_law_752 : decode cL_law 752 = .ok (.ireturn, 1) := by decide +kernel
theorem dL_law_753 : decode cL_law 753 = .ok (.aload_n 1, 1) := by decide +kernel
theorem dL_law_754 : decode cL_law 754 = .ok (.aload_n 0, 1) := by decide +kernel
theorem dL_law_755 : decode cL_law 755 = .ok (.iload_n 3, 1) := by decide +kernel
theorem dL_law_756 : decode cL_law 756 = .ok (.iconst 1, 1) := by decide +kernel
theorem dL_law_757 : decode cL_law 757 = .ok (.iadd, 1) := by decide +kernel
theorem dL_law_758 : decode cL_law 758 = .ok (.iaload, 1) := by decide +kernel
theorem dL_law_759 : decode cL_law 759 = .ok (.invokevirtual 97, 3) := by decide +kernel
theorem dL_law_762 : decode cL_law 762 = .ok (.aload_n 2, 1) := by decide +kernel
theorem dL_law_763 : decode cL_law 763 = .ok (.aload_n 0, 1) := by decide +kernel
theorem dL_law_764 : decode cL_law 764 = .ok (.iload_n 3, 1) := by decide +kernel
theorem dL_law_765 : decode cL_law 765 = .ok (.iconst 1, 1) := by decide +kernel
theorem dL_law_766 : decode cL_law 766 = .ok (.iadd, 1) := by decide +kernel
theorem dL_law_767 : decode cL_law 767 = .ok (.iaload, 1) := by decide +kernel
theorem dL_law_768 : decode cL_law 768 = .ok (.invokevirtual 100, 3) := by decide +kernel
theorem dL_law_771 : decode cL_law 771 = .ok (.if_icmp .eq 510, 3) := by decide +kernel
theorem dL_law_774 : decode cL_law 774 = .ok (.iconst 0, 1) := by decide +kernel
theorem dL_law_775 : decode cL_law 775 = .ok (.ireturn, 1) := by decide +kernel
theorem dL_law_776 : decode cL_law 776 = .ok (.aload_n 1, 1) := by decide +kernel
theorem dL_law_777 : decode cL_law 777 = .ok (.aload_n 0, 1) := by decide +kernel
theorem dL_law_778 : decode cL_law 778 = .ok (.iload_n 3, 1) := by decide +kernel
theorem dL_law_779 : decode cL_law 779 = .ok (.iconst 1, 1) := by decide +kernel
theorem dL_law_780 : decode cL_law 780 = .ok (.iadd, 1) := by decide +kernel
theorem dL_law_781 : decode cL_law 781 = .ok (.iaload, 1) := by decide +kernel
theorem dL_law_782 : decode cL_law 782 = .ok (.aload_n 0, 1) := by decide +kernel
theorem dL_law_783 : decode cL_law 783 = .ok (.iload_n 3, 1) := by decide +kernel
theorem dL_law_784 : decode cL_law 784 = .ok (.iconst 2, 1) := by decide +kernel
theorem dL_law_785 : decode cL_law 785 = .ok (.iadd, 1) := by decide +kernel
theorem dL_law_786 : decode cL_law 786 = .ok (.iaload, 1) := by decide +kernel
theorem dL_law_787 : decode cL_law 787 = .ok (.aload_n 0, 1) := by decide +kernel
theorem dL_law_788 : decode cL_law 788 = .ok (.iload_n 3, 1) := by decide +kernel
theorem dL_law_789 : decode cL_law 789 = .ok (.iconst 3, 1) := by decide +kernel
theorem dL_law_790 : decode cL_law 790 = .ok (.iadd, 1) := by decide +kernel
theorem dL_law_791 : decode cL_law 791 = .ok (.iaload, 1) := by decide +kernel
theorem dL_law_792 : decode cL_law 792 = .ok (.ifCond .eq 7, 3) := by decide +kernel
theorem dL_law_795 : decode cL_law 795 = .ok (.iconst 1, 1) := by decide +kernel
theorem dL_law_796 : decode cL_law 796 = .ok (.goto 4, 3) := by decide +kernel
theorem dL_law_799 : decode cL_law 799 = .ok (.iconst 0, 1) := by decide +kernel
theorem dL_law_800 : decode cL_law 800 = .ok (.aload_n 0, 1) := by decide +kernel
theorem dL_law_801 : decode cL_law 801 = .ok (.iload_n 3, 1) := by decide +kernel
theorem dL_law_802 : decode cL_law 802 = .ok (.iconst 4, 1) := by decide +kernel
theorem dL_law_803 : decode cL_law 803 = .ok (.iadd, 1) := by decide +kernel
theorem dL_law_804 : decode cL_law 804 = .ok (.iaload, 1) := by decide +kernel
theorem dL_law_805 : decode cL_law 805 = .ok (.invokevirtual 101, 3) := by decide +kernel
theorem dL_law_808 : decode cL_law 808 = .ok (.aload_n 2, 1) := by decide +kernel
theorem dL_law_809 : decode cL_law 809 = .ok (.aload_n 0, 1) := by decide +kernel
theorem dL_law_810 : decode cL_law 810 = .ok (.iload_n 3, 1) := by decide +kernel
theorem dL_law_811 : decode cL_law 811 = .ok (.iconst 1, 1) := by decide +kernel
theorem dL_law_812 : decode cL_law 812 = .ok (.iadd, 1) := by decide +kernel
theorem dL_law_813 : decode cL_law 813 = .ok (.iaload, 1) := by decide +kernel
theorem dL_law_814 : decode cL_law 814 = .ok (.aload_n 0, 1) := by decide +kernel
theorem dL_law_815 : decode cL_law 815 = .ok (.iload_n 3, 1) := by decide +kernel
theorem dL_law_816 : decode cL_law 816 = .ok (.iconst 2, 1) := by decide +kernel
theorem dL_law_817 : decode cL_law 817 = .ok (.iadd, 1) := by decide +kernel
theorem dL_law_818 : decode cL_law 818 = .ok (.iaload, 1) := by decide +kernel
theorem dL_law_819 : decode cL_law 819 = .ok (.aload_n 0, 1) := by decide +kernel
theorem dL_law_820 : decode cL_law 820 = .ok (.iload_n 3, 1) := by decide +kernel
theorem dL_law_821 : decode cL_law 821 = .ok (.iconst 3, 1) := by decide +kernel
theorem dL_law_822 : decode cL_law 822 = .ok (.iadd, 1) := by decide +kernel
theorem dL_law_823 : decode cL_law 823 = .ok (.iaload, 1) := by decide +kernel
theorem dL_law_824 : decode cL_law 824 = .ok (.ifCond .eq 7, 3) := by decide +kernel
theorem dL_law_827 : decode cL_law 827 = .ok (.iconst 1, 1) := by decide +kernel
theorem dL_law_828 : decode cL_law 828 = .ok (.goto 4, 3) := by decide +kernel
theorem dL_law_831 : decode cL_law 831 = .ok (.iconst 0, 1) := by decide +kernel
theorem dL_law_832 : decode cL_law 832 = .ok (.aload_n 0, 1) := by decide +kernel
theorem dL_law_833 : decode cL_law 833 = .ok (.iload_n 3, 1) := by decide +kernel
theorem dL_law_834 : decode cL_law 834 = .ok (.iconst 4, 1) := by decide +kernel
theorem dL_law_835 : decode cL_law 835 = .ok (.iadd, 1) := by decide +kernel
theorem dL_law_836 : decode cL_law 836 = .ok (.iaload, 1) := by decide +kernel
theorem dL_law_837 : decode cL_law 837 = .ok (.invokevirtual 105, 3) := by decide +kernel
theorem dL_law_840 : decode cL_law 840 = .ok (.if_icmp .eq 441, 3) := by decide +kernel
theorem dL_law_843 : decode cL_law 843 = .ok (.iconst 0, 1) := by decide +kernel
theorem dL_law_844 : decode cL_law 844 = .ok (.ireturn, 1) := by decide +kernel
theorem dL_law_845 : decode cL_law 845 = .ok (.aload_n 1, 1) := by decide +kernel
theorem dL_law_846 : decode cL_law 846 = .ok (.aload_n 0, 1) := by decide +kernel
theorem dL_law_847 : decode cL_law 847 = .ok (.iload_n 3, 1) := by decide +kernel
theorem dL_law_848 : decode cL_law 848 = .ok (.iconst 1, 1) := by decide +kernel
theorem dL_law_849 : decode cL_law 849 = .ok (.iadd, 1) := by decide +kernel
theorem dL_law_850 : decode cL_law 850 = .ok (.iaload, 1) := by decide +kernel
theorem dL_law_851 : decode cL_law 851 = .ok (.invokevirtual 106, 3) := by decide +kernel
theorem dL_law_854 : decode cL_law 854 = .ok (.aload_n 2, 1) := by decide +kernel
theorem dL_law_855 : decode cL_law 855 = .ok (.aload_n 0, 1) := by decide +kernel
theorem dL_law_856 : decode cL_law 856 = .ok (.iload_n 3, 1) := by decide +kernel
theorem dL_law_857 : decode cL_law 857 = .ok (.iconst 1, 1) := by decide +kernel
theorem dL_law_858 : decode cL_law 858 = .ok (.iadd, 1) := by decide +kernel
theorem dL_law_859 : decode cL_law 859 = .ok (.iaload, 1) := by decide +kernel
theorem dL_law_860 : decode cL_law 860 = .ok (.invokevirtual 109, 3) := by decide +kernel
theorem dL_law_863 : decode cL_law 863 = .ok (.if_icmp .eq 418, 3) := by decide +kernel
theorem dL_law_866 : decode cL_law 866 = .ok (.iconst 0, 1) := by decide +kernel
theorem dL_law_867 : decode cL_law 867 = .ok (.ireturn, 1) := by decide +kernel
theorem dL_law_868 : decode cL_law 868 = .ok (.aload_n 1, 1) := by decide +kernel
theorem dL_law_869 : decode cL_law 869 = .ok (.aload_n 0, 1) := by decide +kernel
theorem dL_law_870 : decode cL_law 870 = .ok (.iload_n 3, 1) := by decide +kernel
theorem dL_law_871 : decode cL_law 871 = .ok (.iconst 1, 1) := by decide +kernel
theorem dL_law_872 : decode cL_law 872 = .ok (.iadd, 1) := by decide +kernel
theorem dL_law_873 : decode cL_law 873 = .ok (.iaload, 1) := by decide +kernel
theorem dL_law_874 : decode cL_law 874 = .ok (.aload_n 0, 1) := by decide +kernel
theorem dL_law_875 : decode cL_law 875 = .ok (.iload_n 3, 1) := by decide +kernel
theorem dL_law_876 : decode cL_law 876 = .ok (.iconst 2, 1) := by decide +kernel
theorem dL_law_877 : decode cL_law 877 = .ok (.iadd, 1) := by decide +kernel
theorem dL_law_878 : decode cL_law 878 = .ok (.iaload, 1) := by decide +kernel
theorem dL_law_879 : decode cL_law 879 = .ok (.aload_n 0, 1) := by decide +kernel
theorem dL_law_880 : decode cL_law 880 = .ok (.iload_n 3, 1) := by decide +kernel
theorem dL_law_881 : decode cL_law 881 = .ok (.iconst 3, 1) := by decide +kernel
theorem dL_law_882 : decode cL_law 882 = .ok (.iadd, 1) := by decide +kernel
theorem dL_law_883 : decode cL_law 883 = .ok (.iaload, 1) := by decide +kernel
theorem dL_law_884 : decode cL_law 884 = .ok (.aload_n 0, 1) := by decide +kernel
theorem dL_law_885 : decode cL_law 885 = .ok (.iload_n 3, 1) := by decide +kernel
theorem dL_law_886 : decode cL_law 886 = .ok (.iconst 4, 1) := by decide +kernel
theorem dL_law_887 : decode cL_law 887 = .ok (.iadd, 1) := by decide +kernel
theorem dL_law_888 : decode cL_law 888 = .ok (.iaload, 1) := by decide +kernel
theorem dL_law_889 : decode cL_law 889 = .ok (.invokevirtual 110, 3) := by decide +kernel
theorem dL_law_892 : decode cL_law 892 = .ok (.aload_n 2, 1) := by decide +kernel
theorem dL_law_893 : decode cL_law 893 = .ok (.aload_n 0, 1) := by decide +kernel
theorem dL_law_894 : decode cL_law 894 = .ok (.iload_n 3, 1) := by decide +kernel
theorem dL_law_895 : decode cL_law 895 = .ok (.iconst 1, 1) := by decide +kernel
theorem dL_law_896 : decode cL_law 896 = .ok (.iadd, 1) := by decide +kernel
theorem dL_law_897 : decode cL_law 897 = .ok (.iaload, 1) := by decide +kernel
theorem dL_law_898 : decode cL_law 898 = .ok (.aload_n 0, 1) := by decide +kernel
theorem dL_law_899 : decode cL_law 899 = .ok (.iload_n 3, 1) := by decide +kernel
theorem dL_law_900 : decode cL_law 900 = .ok (.iconst 2, 1) := by decide +kernel
theorem dL_law_901 : decode cL_law 901 = .ok (.iadd, 1) := by decide +kernel
theorem dL_law_902 : decode cL_law 902 = .ok (.iaload, 1) := by decide +kernel
theorem dL_law_903 : decode cL_law 903 = .ok (.aload_n 0, 1) := by decide +kernel
theorem dL_law_904 : decode cL_law 904 = .ok (.iload_n 3, 1) := by decide +kernel
theorem dL_law_905 : decode cL_law 905 = .ok (.iconst 3, 1) := by decide +kernel
theorem dL_law_906 : decode cL_law 906 = .ok (.iadd, 1) := by decide +kernel
theorem dL_law_907 : decode cL_law 907 = .ok (.iaload, 1) := by decide +kernel
theorem dL_law_908 : decode cL_law 908 = .ok (.aload_n 0, 1) := by decide +kernel
theorem dL_law_909 : decode cL_law 909 = .ok (.iload_n 3, 1) := by decide +kernel
theorem dL_law_910 : decode cL_law 910 = .ok (.iconst 4, 1) := by decide +kernel
theorem dL_law_911 : decode cL_law 911 = .ok (.iadd, 1) := by decide +kernel
theorem dL_law_912 : decode cL_law 912 = .ok (.iaload, 1) := by decide +kernel
theorem dL_law_913 : decode cL_law 913 = .ok (.invokevirtual 114, 3) := by decide +kernel
theorem dL_law_916 : decode cL_law 916 = .ok (.if_icmp .eq 365, 3) := by decide +kernel
theorem dL_law_919 : decode cL_law 919 = .ok (.iconst 0, 1) := by decide +kernel
theorem dL_law_920 : decode cL_law 920 = .ok (.ireturn, 1) := by decide +kernel
theorem dL_law_921 : decode cL_law 921 = .ok (.aload_n 1, 1) := by decide +kernel
theorem dL_law_922 : decode cL_law 922 = .ok (.aload_n 0, 1) := by decide +kernel
theorem dL_law_923 : decode cL_law 923 = .ok (.iload_n 3, 1) := by decide +kernel
theorem dL_law_924 : decode cL_law 924 = .ok (.iconst 1, 1) := by decide +kernel
theorem dL_law_925 : decode cL_law 925 = .ok (.iadd, 1) := by decide +kernel
theorem dL_law_926 : decode cL_law 926 = .ok (.iaload, 1) := by decide +kernel
theorem dL_law_927 : decode cL_law 927 = .ok (.aload_n 0, 1) := by decide +kernel
theorem dL_law_928 : decode cL_law 928 = .ok (.iload_n 3, 1) := by decide +kernel
theorem dL_law_929 : decode cL_law 929 = .ok (.iconst 2, 1) := by decide +kernel
theorem dL_law_930 : decode cL_law 930 = .ok (.iadd, 1) := by decide +kernel
theorem dL_law_931 : decode cL_law 931 = .ok (.iaload, 1) := by decide +kernel
theorem dL_law_932 : decode cL_law 932 = .ok (.aload_n 0, 1) := by decide +kernel
theorem dL_law_933 : decode cL_law 933 = .ok (.iload_n 3, 1) := by decide +kernel
theorem dL_law_934 : decode cL_law 934 = .ok (.iconst 3, 1) := by decide +kernel
theorem dL_law_935 : decode cL_law 935 = .ok (.iadd, 1) := by decide +kernel
theorem dL_law_936 : decode cL_law 936 = .ok (.iaload, 1) := by decide +kernel
theorem dL_law_937 : decode cL_law 937 = .ok (.aload_n 0, 1) := by decide +kernel
theorem dL_law_938 : decode cL_law 938 = .ok (.iload_n 3, 1) := by decide +kernel
theorem dL_law_939 : decode cL_law 939 = .ok (.iconst 4, 1) := by decide +kernel
theorem dL_law_940 : decode cL_law 940 = .ok (.iadd, 1) := by decide +kernel
theorem dL_law_941 : decode cL_law 941 = .ok (.iaload, 1) := by decide +kernel
theorem dL_law_942 : decode cL_law 942 = .ok (.invokevirtual 115, 3) := by decide +kernel
theorem dL_law_945 : decode cL_law 945 = .ok (.aload_n 2, 1) := by decide +kernel
theorem dL_law_946 : decode cL_law 946 = .ok (.aload_n 0, 1) := by decide +kernel
theorem dL_law_947 : decode cL_law 947 = .ok (.iload_n 3, 1) := by decide +kernel
theorem dL_law_948 : decode cL_law 948 = .ok (.iconst 1, 1) := by decide +kernel
theorem dL_law_949 : decode cL_law 949 = .ok (.iadd, 1) := by decide +kernel
theorem dL_law_950 : decode cL_law 950 = .ok (.iaload, 1) := by decide +kernel
theorem dL_law_951 : decode cL_law 951 = .ok (.aload_n 0, 1) := by decide +kernel
theorem dL_law_952 : decode cL_law 952 = .ok (.iload_n 3, 1) := by decide +kernel
theorem dL_law_953 : decode cL_law 953 = .ok (.iconst 2, 1) := by decide +kernel
theorem dL_law_954 : decode cL_law 954 = .ok (.iadd, 1) := by decide +kernel
theorem dL_law_955 : decode cL_law 955 = .ok (.iaload, 1) := by decide +kernel
theorem dL_law_956 : decode cL_law 956 = .ok (.aload_n 0, 1) := by decide +kernel
theorem dL_law_957 : decode cL_law 957 = .ok (.iload_n 3, 1) := by decide +kernel
theorem dL_law_958 : decode cL_law 958 = .ok (.iconst 3, 1) := by decide +kernel
theorem dL_law_959 : decode cL_law 959 = .ok (.iadd, 1) := by decide +kernel
theorem dL_law_960 : decode cL_law 960 = .ok (.iaload, 1) := by decide +kernel
theorem dL_law_961 : decode cL_law 961 = .ok (.aload_n 0, 1) := by decide +kernel
theorem dL_law_962 : decode cL_law 962 = .ok (.iload_n 3, 1) := by decide +kernel
theorem dL_law_963 : decode cL_law 963 = .ok (.iconst 4, 1) := by decide +kernel
theorem dL_law_964 : decode cL_law 964 = .ok (.iadd, 1) := by decide +kernel
theorem dL_law_965 : decode cL_law 965 = .ok (.iaload, 1) := by decide +kernel
theorem dL_law_966 : decode cL_law 966 = .ok (.invokevirtual 118, 3) := by decide +kernel
theorem dL_law_969 : decode cL_law 969 = .ok (.if_icmp .eq 312, 3) := by decide +kernel
theorem dL_law_972 : decode cL_law 972 = .ok (.iconst 0, 1) := by decide +kernel
theorem dL_law_973 : decode cL_law 973 = .ok (.ireturn, 1) := by decide +kernel
theorem dL_law_974 : decode cL_law 974 = .ok (.aload_n 1, 1) := by decide +kernel
theorem dL_law_975 : decode cL_law 975 = .ok (.aload_n 0, 1) := by decide +kernel
theorem dL_law_976 : decode cL_law 976 = .ok (.iload_n 3, 1) := by decide +kernel
theorem dL_law_977 : decode cL_law 977 = .ok (.iconst 1, 1) := by decide +kernel
theorem dL_law_978 : decode cL_law 978 = .ok (.iadd, 1) := by decide +kernel
theorem dL_law_979 : decode cL_law 979 = .ok (.iaload, 1) := by decide +kernel
theorem dL_law_980 : decode cL_law 980 = .ok (.aload_n 0, 1) := by decide +kernel
theorem dL_law_981 : decode cL_law 981 = .ok (.iload_n 3, 1) := by decide +kernel
theorem dL_law_982 : decode cL_law 982 = .ok (.iconst 2, 1) := by decide +kernel
theorem dL_law_983 : decode cL_law 983 = .ok (.iadd, 1) := by decide +kernel
theorem dL_law_984 : decode cL_law 984 = .ok (.iaload, 1) := by decide +kernel
theorem dL_law_985 : decode cL_law 985 = .ok (.aload_n 0, 1) := by decide +kernel
theorem dL_law_986 : decode cL_law 986 = .ok (.iload_n 3, 1) := by decide +kernel
theorem dL_law_987 : decode cL_law 987 = .ok (.iconst 3, 1) := by decide +kernel
theorem dL_law_988 : decode cL_law 988 = .ok (.iadd, 1) := by decide +kernel
theorem dL_law_989 : decode cL_law 989 = .ok (.iaload, 1) := by decide +kernel
theorem dL_law_990 : decode cL_law 990 = .ok (.invokevirtual 119, 3) := by decide +kernel
theorem dL_law_993 : decode cL_law 993 = .ok (.aload_n 2, 1) := by decide +kernel
theorem dL_law_994 : decode cL_law 994 = .ok (.aload_n 0, 1) := by decide +kernel
theorem dL_law_995 : decode cL_law 995 = .ok (.iload_n 3, 1) := by decide +kernel
theorem dL_law_996 : decode cL_law 996 = .ok (.iconst 1, 1) := by decide +kernel
theorem dL_law_997 : decode cL_law 997 = .ok (.iadd, 1) := by decide +kernel
theorem dL_law_998 : decode cL_law 998 = .ok (.iaload, 1) := by decide +kernel
theorem dL_law_999 : decode cL_law 999 = .ok (.aload_n 0, 1) := by decide +kernel
theorem dL_law_1000 : decode cL_law 1000 = .ok (.iload_n 3, 1) := by decide +kernel
theorem dL_law_1001 : decode cL_law 1001 = .ok (.iconst 2, 1) := by decide +kernel
theorem dL_law_1002 : decode cL_law 1002 = .ok (.iadd, 1) := by decide +kernel
theorem dL_law_1003 : decode cL_law 1003 = .ok (.iaload, 1) := by decide +kernel
theorem dL_law_1004 : decode cL_law 1004 = .ok (.aload_n 0, 1) := by decide +kernel
theorem dL_law_1005 : decode cL_law 1005 = .ok (.iload_n 3, 1) := by decide +kernel
theorem dL_law_1006 : decode cL_law 1006 = .ok (.iconst 3, 1) := by decide +kernel
theorem dL_law_1007 : decode cL_law 1007 = .ok (.iadd, 1) := by decide +kernel
theorem dL_law_1008 : decode cL_law 1008 = .ok (.iaload, 1) := by decide +kernel
theorem dL_law_1009 : decode cL_law 1009 = .ok (.invokevirtual 122, 3) := by decide +kernel
theorem dL_law_1012 : decode cL_law 1012 = .ok (.if_icmp .eq 269, 3) := by decide +kernel
theorem dL_law_1015 : decode cL_law 1015 = .ok (.iconst 0, 1) := by decide +kernel
theorem dL_law_1016 : decode cL_law 1016 = .ok (.ireturn, 1) := by decide +kernel
theorem dL_law_1017 : decode cL_law 1017 = .ok (.aload_n 1, 1) := by decide +kernel
theorem dL_law_1018 : decode cL_law 1018 = .ok (.aload_n 0, 1) := by decide +kernel
theorem dL_law_1019 : decode cL_law 1019 = .ok (.iload_n 3, 1) := by decide +kernel
theorem dL_law_1020 : decode cL_law 1020 = .ok (.iconst 1, 1) := by decide +kernel
theorem dL_law_1021 : decode cL_law 1021 = .ok (.iadd, 1) := by decide +kernel
theorem dL_law_1022 : decode cL_law 1022 = .ok (.iaload, 1) := by decide +kernel
theorem dL_law_1023 : decode cL_law 1023 = .ok (.aload_n 0, 1) := by decide +kernel
theorem dL_law_1024 : decode cL_law 1024 = .ok (.iload_n 3, 1) := by decide +kernel
theorem dL_law_1025 : decode cL_law 1025 = .ok (.iconst 2, 1) := by decide +kernel
theorem dL_law_1026 : decode cL_law 1026 = .ok (.iadd, 1) := by decide +kernel
theorem dL_law_1027 : decode cL_law 1027 = .ok (.iaload, 1) := by decide +kernel
theorem dL_law_1028 : decode cL_law 1028 = .ok (.invokevirtual 123, 3) := by decide +kernel
theorem dL_law_1031 : decode cL_law 1031 = .ok (.aload_n 2, 1) := by decide +kernel
theorem dL_law_1032 : decode cL_law 1032 = .ok (.aload_n 0, 1) := by decide +kernel
theorem dL_law_1033 : decode cL_law 1033 = .ok (.iload_n 3, 1) := by decide +kernel
theorem dL_law_1034 : decode cL_law 1034 = .ok (.iconst 1, 1) := by decide +kernel
theorem dL_law_1035 : decode cL_law 1035 = .ok (.iadd, 1) := by decide +kernel
theorem dL_law_1036 : decode cL_law 1036 = .ok (.iaload, 1) := by decide +kernel
theorem dL_law_1037 : decode cL_law 1037 = .ok (.aload_n 0, 1) := by decide +kernel
theorem dL_law_1038 : decode cL_law 1038 = .ok (.iload_n 3, 1) := by decide +kernel
theorem dL_law_1039 : decode cL_law 1039 = .ok (.iconst 2, 1) := by decide +kernel
theorem dL_law_1040 : decode cL_law 1040 = .ok (.iadd, 1) := by decide +kernel
theorem dL_law_1041 : decode cL_law 1041 = .ok (.iaload, 1) := by decide +kernel
theorem dL_law_1042 : decode cL_law 1042 = .ok (.invokevirtual 126, 3) := by decide +kernel
theorem dL_law_1045 : decode cL_law 1045 = .ok (.if_icmp .eq 236, 3) := by decide +kernel
theorem dL_law_1048 : decode cL_law 1048 = .ok (.iconst 0, 1) := by decide +kernel
theorem dL_law_1049 : decode cL_law 1049 = .ok (.ireturn, 1) := by decide +kernel
theorem dL_law_1050 : decode cL_law 1050 = .ok (.aload_n 1, 1) := by decide +kernel
theorem dL_law_1051 : decode cL_law 1051 = .ok (.aload_n 0, 1) := by decide +kernel
theorem dL_law_1052 : decode cL_law 1052 = .ok (.iload_n 3, 1) := by decide +kernel
theorem dL_law_1053 : decode cL_law 1053 = .ok (.iconst 1, 1) := by decide +kernel
theorem dL_law_1054 : decode cL_law 1054 = .ok (.iadd, 1) := by decide +kernel
theorem dL_law_1055 : decode cL_law 1055 = .ok (.iaload, 1) := by decide +kernel
theorem dL_law_1056 : decode cL_law 1056 = .ok (.aload_n 0, 1) := by decide +kernel
theorem dL_law_1057 : decode cL_law 1057 = .ok (.iload_n 3, 1) := by decide +kernel
theorem dL_law_1058 : decode cL_law 1058 = .ok (.iconst 2, 1) := by decide +kernel
theorem dL_law_1059 : decode cL_law 1059 = .ok (.iadd, 1) := by decide +kernel
theorem dL_law_1060 : decode cL_law 1060 = .ok (.iaload, 1) := by decide +kernel
theorem dL_law_1061 : decode cL_law 1061 = .ok (.aload_n 0, 1) := by decide +kernel
theorem dL_law_1062 : decode cL_law 1062 = .ok (.iload_n 3, 1) := by decide +kernel
theorem dL_law_1063 : decode cL_law 1063 = .ok (.iconst 3, 1) := by decide +kernel
theorem dL_law_1064 : decode cL_law 1064 = .ok (.iadd, 1) := by decide +kernel
theorem dL_law_1065 : decode cL_law 1065 = .ok (.iaload, 1) := by decide +kernel
theorem dL_law_1066 : decode cL_law 1066 = .ok (.invokevirtual 127, 3) := by decide +kernel
theorem dL_law_1069 : decode cL_law 1069 = .ok (.aload_n 2, 1) := by decide +kernel
theorem dL_law_1070 : decode cL_law 1070 = .ok (.aload_n 0, 1) := by decide +kernel
theorem dL_law_1071 : decode cL_law 1071 = .ok (.iload_n 3, 1) := by decide +kernel
theorem dL_law_1072 : decode cL_law 1072 = .ok (.iconst 1, 1) := by decide +kernel
theorem dL_law_1073 : decode cL_law 1073 = .ok (.iadd, 1) := by decide +kernel
theorem dL_law_1074 : decode cL_law 1074 = .ok (.iaload, 1) := by decide +kernel
theorem dL_law_1075 : decode cL_law 1075 = .ok (.aload_n 0, 1) := by decide +kernel
theorem dL_law_1076 : decode cL_law 1076 = .ok (.iload_n 3, 1) := by decide +kernel
theorem dL_law_1077 : decode cL_law 1077 = .ok (.iconst 2, 1) := by decide +kernel
theorem dL_law_1078 : decode cL_law 1078 = .ok (.iadd, 1) := by decide +kernel
theorem dL_law_1079 : decode cL_law 1079 = .ok (.iaload, 1) := by decide +kernel
theorem dL_law_1080 : decode cL_law 1080 = .ok (.aload_n 0, 1) := by decide +kernel
theorem dL_law_1081 : decode cL_law 1081 = .ok (.iload_n 3, 1) := by decide +kernel
theorem dL_law_1082 : decode cL_law 1082 = .ok (.iconst 3, 1) := by decide +kernel
theorem dL_law_1083 : decode cL_law 1083 = .ok (.iadd, 1) := by decide +kernel
theorem dL_law_1084 : decode cL_law 1084 = .ok (.iaload, 1) := by decide +kernel
theorem dL_law_1085 : decode cL_law 1085 = .ok (.invokevirtual 130, 3) := by decide +kernel
theorem dL_law_1088 : decode cL_law 1088 = .ok (.if_icmp .eq 193, 3) := by decide +kernel
theorem dL_law_1091 : decode cL_law 1091 = .ok (.iconst 0, 1) := by decide +kernel
theorem dL_law_1092 : decode cL_law 1092 = .ok (.ireturn, 1) := by decide +kernel
theorem dL_law_1093 : decode cL_law 1093 = .ok (.aload_n 1, 1) := by decide +kernel
theorem dL_law_1094 : decode cL_law 1094 = .ok (.aload_n 0, 1) := by decide +kernel
theorem dL_law_1095 : decode cL_law 1095 = .ok (.iload_n 3, 1) := by decide +kernel
theorem dL_law_1096 : decode cL_law 1096 = .ok (.iconst 1, 1) := by decide +kernel
theorem dL_law_1097 : decode cL_law 1097 = .ok (.iadd, 1) := by decide +kernel
theorem dL_law_1098 : decode cL_law 1098 = .ok (.iaload, 1) := by decide +kernel
theorem dL_law_1099 : decode cL_law 1099 = .ok (.aload_n 0, 1) := by decide +kernel
theorem dL_law_1100 : decode cL_law 1100 = .ok (.iload_n 3, 1) := by decide +kernel
theorem dL_law_1101 : decode cL_law 1101 = .ok (.iconst 2, 1) := by decide +kernel
theorem dL_law_1102 : decode cL_law 1102 = .ok (.iadd, 1) := by decide +kernel
theorem dL_law_1103 : decode cL_law 1103 = .ok (.iaload, 1) := by decide +kernel
theorem dL_law_1104 : decode cL_law 1104 = .ok (.invokevirtual 131, 3) := by decide +kernel
theorem dL_law_1107 : decode cL_law 1107 = .ok (.aload_n 2, 1) := by decide +kernel
theorem dL_law_1108 : decode cL_law 1108 = .ok (.aload_n 0, 1) := by decide +kernel
theorem dL_law_1109 : decode cL_law 1109 = .ok (.iload_n 3, 1) := by decide +kernel
theorem dL_law_1110 : decode cL_law 1110 = .ok (.iconst 1, 1) := by decide +kernel
theorem dL_law_1111 : decode cL_law 1111 = .ok (.iadd, 1) := by decide +kernel
theorem dL_law_1112 : decode cL_law 1112 = .ok (.iaload, 1) := by decide +kernel
theorem dL_law_1113 : decode cL_law 1113 = .ok (.aload_n 0, 1) := by decide +kernel
theorem dL_law_1114 : decode cL_law 1114 = .ok (.iload_n 3, 1) := by decide +kernel
theorem dL_law_1115 : decode cL_law 1115 = .ok (.iconst 2, 1) := by decide +kernel
theorem dL_law_1116 : decode cL_law 1116 = .ok (.iadd, 1) := by decide +kernel
theorem dL_law_1117 : decode cL_law 1117 = .ok (.iaload, 1) := by decide +kernel
theorem dL_law_1118 : decode cL_law 1118 = .ok (.invokevirtual 134, 3) := by decide +kernel
theorem dL_law_1121 : decode cL_law 1121 = .ok (.if_icmp .eq 160, 3) := by decide +kernel
theorem dL_law_1124 : decode cL_law 1124 = .ok (.iconst 0, 1) := by decide +kernel
theorem dL_law_1125 : decode cL_law 1125 = .ok (.ireturn, 1) := by decide +kernel
theorem dL_law_1126 : decode cL_law 1126 = .ok (.aload_n 1, 1) := by decide +kernel
theorem dL_law_1127 : decode cL_law 1127 = .ok (.aload_n 0, 1) := by decide +kernel
theorem dL_law_1128 : decode cL_law 1128 = .ok (.iload_n 3, 1) := by decide +kernel
theorem dL_law_1129 : decode cL_law 1129 = .ok (.iconst 1, 1) := by decide +kernel
theorem dL_law_1130 : decode cL_law 1130 = .ok (.iadd, 1) := by decide +kernel
theorem dL_law_1131 : decode cL_law 1131 = .ok (.iaload, 1) := by decide +kernel
theorem dL_law_1132 : decode cL_law 1132 = .ok (.aload_n 0, 1) := by decide +kernel
theorem dL_law_1133 : decode cL_law 1133 = .ok (.iload_n 3, 1) := by decide +kernel
theorem dL_law_1134 : decode cL_law 1134 = .ok (.iconst 2, 1) := by decide +kernel
theorem dL_law_1135 : decode cL_law 1135 = .ok (.iadd, 1) := by decide +kernel
theorem dL_law_1136 : decode cL_law 1136 = .ok (.iaload, 1) := by decide +kernel
theorem dL_law_1137 : decode cL_law 1137 = .ok (.invokevirtual 135, 3) := by decide +kernel
theorem dL_law_1140 : decode cL_law 1140 = .ok (.aload_n 2, 1) := by decide +kernel
theorem dL_law_1141 : decode cL_law 1141 = .ok (.aload_n 0, 1) := by decide +kernel
theorem dL_law_1142 : decode cL_law 1142 = .ok (.iload_n 3, 1) := by decide +kernel
theorem dL_law_1143 : decode cL_law 1143 = .ok (.iconst 1, 1) := by decide +kernel
theorem dL_law_1144 : decode cL_law 1144 = .ok (.iadd, 1) := by decide +kernel
theorem dL_law_1145 : decode cL_law 1145 = .ok (.iaload, 1) := by decide +kernel
theorem dL_law_1146 : decode cL_law 1146 = .ok (.aload_n 0, 1) := by decide +kernel
theorem dL_law_1147 : decode cL_law 1147 = .ok (.iload_n 3, 1) := by decide +kernel
theorem dL_law_1148 : decode cL_law 1148 = .ok (.iconst 2, 1) := by decide +kernel
theorem dL_law_1149 : decode cL_law 1149 = .ok (.iadd, 1) := by decide +kernel
theorem dL_law_1150 : decode cL_law 1150 = .ok (.iaload, 1) := by decide +kernel
theorem dL_law_1151 : decode cL_law 1151 = .ok (.invokevirtual 138, 3) := by decide +kernel
theorem dL_law_1154 : decode cL_law 1154 = .ok (.if_icmp .eq 127, 3) := by decide +kernel
theorem dL_law_1157 : decode cL_law 1157 = .ok (.iconst 0, 1) := by decide +kernel
theorem dL_law_1158 : decode cL_law 1158 = .ok (.ireturn, 1) := by decide +kernel
theorem dL_law_1159 : decode cL_law 1159 = .ok (.aload_n 1, 1) := by decide +kernel
theorem dL_law_1160 : decode cL_law 1160 = .ok (.aload_n 0, 1) := by decide +kernel
theorem dL_law_1161 : decode cL_law 1161 = .ok (.iload_n 3, 1) := by decide +kernel
theorem dL_law_1162 : decode cL_law 1162 = .ok (.iconst 1, 1) := by decide +kernel
theorem dL_law_1163 : decode cL_law 1163 = .ok (.iadd, 1) := by decide +kernel
theorem dL_law_1164 : decode cL_law 1164 = .ok (.iaload, 1) := by decide +kernel
theorem dL_law_1165 : decode cL_law 1165 = .ok (.aload_n 0, 1) := by decide +kernel
theorem dL_law_1166 : decode cL_law 1166 = .ok (.iload_n 3, 1) := by decide +kernel
theorem dL_law_1167 : decode cL_law 1167 = .ok (.iconst 2, 1) := by decide +kernel
theorem dL_law_1168 : decode cL_law 1168 = .ok (.iadd, 1) := by decide +kernel
theorem dL_law_1169 : decode cL_law 1169 = .ok (.iaload, 1) := by decide +kernel
theorem dL_law_1170 : decode cL_law 1170 = .ok (.invokevirtual 139, 3) := by decide +kernel
theorem dL_law_1173 : decode cL_law 1173 = .ok (.aload_n 2, 1) := by decide +kernel
theorem dL_law_1174 : decode cL_law 1174 = .ok (.aload_n 0, 1) := by decide +kernel
theorem dL_law_1175 : decode cL_law 1175 = .ok (.iload_n 3, 1) := by decide +kernel
theorem dL_law_1176 : decode cL_law 1176 = .ok (.iconst 1, 1) := by decide +kernel
theorem dL_law_1177 : decode cL_law 1177 = .ok (.iadd, 1) := by decide +kernel
theorem dL_law_1178 : decode cL_law 1178 = .ok (.iaload, 1) := by decide +kernel
theorem dL_law_1179 : decode cL_law 1179 = .ok (.aload_n 0, 1) := by decide +kernel
theorem dL_law_1180 : decode cL_law 1180 = .ok (.iload_n 3, 1) := by decide +kernel
theorem dL_law_1181 : decode cL_law 1181 = .ok (.iconst 2, 1) := by decide +kernel
theorem dL_law_1182 : decode cL_law 1182 = .ok (.iadd, 1) := by decide +kernel
theorem dL_law_1183 : decode cL_law 1183 = .ok (.iaload, 1) := by decide +kernel
theorem dL_law_1184 : decode cL_law 1184 = .ok (.invokevirtual 142, 3) := by decide +kernel
theorem dL_law_1187 : decode cL_law 1187 = .ok (.if_icmp .eq 94, 3) := by decide +kernel
theorem dL_law_1190 : decode cL_law 1190 = .ok (.iconst 0, 1) := by decide +kernel
theorem dL_law_1191 : decode cL_law 1191 = .ok (.ireturn, 1) := by decide +kernel
theorem dL_law_1192 : decode cL_law 1192 = .ok (.aload_n 1, 1) := by decide +kernel
theorem dL_law_1193 : decode cL_law 1193 = .ok (.aload_n 0, 1) := by decide +kernel
theorem dL_law_1194 : decode cL_law 1194 = .ok (.iload_n 3, 1) := by decide +kernel
theorem dL_law_1195 : decode cL_law 1195 = .ok (.iconst 1, 1) := by decide +kernel
theorem dL_law_1196 : decode cL_law 1196 = .ok (.iadd, 1) := by decide +kernel
theorem dL_law_1197 : decode cL_law 1197 = .ok (.iaload, 1) := by decide +kernel
theorem dL_law_1198 : decode cL_law 1198 = .ok (.aload_n 0, 1) := by decide +kernel
theorem dL_law_1199 : decode cL_law 1199 = .ok (.iload_n 3, 1) := by decide +kernel
theorem dL_law_1200 : decode cL_law 1200 = .ok (.iconst 2, 1) := by decide +kernel
theorem dL_law_1201 : decode cL_law 1201 = .ok (.iadd, 1) := by decide +kernel
theorem dL_law_1202 : decode cL_law 1202 = .ok (.iaload, 1) := by decide +kernel
theorem dL_law_1203 : decode cL_law 1203 = .ok (.invokevirtual 143, 3) := by decide +kernel
theorem dL_law_1206 : decode cL_law 1206 = .ok (.aload_n 2, 1) := by decide +kernel
theorem dL_law_1207 : decode cL_law 1207 = .ok (.aload_n 0, 1) := by decide +kernel
theorem dL_law_1208 : decode cL_law 1208 = .ok (.iload_n 3, 1) := by decide +kernel
theorem dL_law_1209 : decode cL_law 1209 = .ok (.iconst 1, 1) := by decide +kernel
theorem dL_law_1210 : decode cL_law 1210 = .ok (.iadd, 1) := by decide +kernel
theorem dL_law_1211 : decode cL_law 1211 = .ok (.iaload, 1) := by decide +kernel
theorem dL_law_1212 : decode cL_law 1212 = .ok (.aload_n 0, 1) := by decide +kernel
theorem dL_law_1213 : decode cL_law 1213 = .ok (.iload_n 3, 1) := by decide +kernel
theorem dL_law_1214 : decode cL_law 1214 = .ok (.iconst 2, 1) := by decide +kernel
theorem dL_law_1215 : decode cL_law 1215 = .ok (.iadd, 1) := by decide +kernel
theorem dL_law_1216 : decode cL_law 1216 = .ok (.iaload, 1) := by decide +kernel
theorem dL_law_1217 : decode cL_law 1217 = .ok (.invokevirtual 146, 3) := by decide +kernel
theorem dL_law_1220 : decode cL_law 1220 = .ok (.if_icmp .eq 61, 3) := by decide +kernel
theorem dL_law_1223 : decode cL_law 1223 = .ok (.iconst 0, 1) := by decide +kernel
theorem dL_law_1224 : decode cL_law 1224 = .ok (.ireturn, 1) := by decide +kernel
theorem dL_law_1225 : decode cL_law 1225 = .ok (.aload_n 1, 1) := by decide +kernel
theorem dL_law_1226 : decode cL_law 1226 = .ok (.aload_n 0, 1) := by decide +kernel
theorem dL_law_1227 : decode cL_law 1227 = .ok (.iload_n 3, 1) := by decide +kernel
theorem dL_law_1228 : decode cL_law 1228 = .ok (.iconst 1, 1) := by decide +kernel
theorem dL_law_1229 : decode cL_law 1229 = .ok (.iadd, 1) := by decide +kernel
theorem dL_law_1230 : decode cL_law 1230 = .ok (.iaload, 1) := by decide +kernel
theorem dL_law_1231 : decode cL_law 1231 = .ok (.aload_n 0, 1) := by decide +kernel
theorem dL_law_1232 : decode cL_law 1232 = .ok (.iload_n 3, 1) := by decide +kernel
theorem dL_law_1233 : decode cL_law 1233 = .ok (.iconst 2, 1) := by decide +kernel
theorem dL_law_1234 : decode cL_law 1234 = .ok (.iadd, 1) := by decide +kernel
theorem dL_law_1235 : decode cL_law 1235 = .ok (.iaload, 1) := by decide +kernel
theorem dL_law_1236 : decode cL_law 1236 = .ok (.invokevirtual 147, 3) := by decide +kernel
theorem dL_law_1239 : decode cL_law 1239 = .ok (.aload_n 2, 1) := by decide +kernel
theorem dL_law_1240 : decode cL_law 1240 = .ok (.aload_n 0, 1) := by decide +kernel
theorem dL_law_1241 : decode cL_law 1241 = .ok (.iload_n 3, 1) := by decide +kernel
theorem dL_law_1242 : decode cL_law 1242 = .ok (.iconst 1, 1) := by decide +kernel
theorem dL_law_1243 : decode cL_law 1243 = .ok (.iadd, 1) := by decide +kernel
theorem dL_law_1244 : decode cL_law 1244 = .ok (.iaload, 1) := by decide +kernel
theorem dL_law_1245 : decode cL_law 1245 = .ok (.aload_n 0, 1) := by decide +kernel
theorem dL_law_1246 : decode cL_law 1246 = .ok (.iload_n 3, 1) := by decide +kernel
theorem dL_law_1247 : decode cL_law 1247 = .ok (.iconst 2, 1) := by decide +kernel
theorem dL_law_1248 : decode cL_law 1248 = .ok (.iadd, 1) := by decide +kernel
theorem dL_law_1249 : decode cL_law 1249 = .ok (.iaload, 1) := by decide +kernel
theorem dL_law_1250 : decode cL_law 1250 = .ok (.invokevirtual 150, 3) := by decide +kernel
theorem dL_law_1253 : decode cL_law 1253 = .ok (.if_icmp .eq 28, 3) := by decide +kernel
theorem dL_law_1256 : decode cL_law 1256 = .ok (.iconst 0, 1) := by decide +kernel
theorem dL_law_1257 : decode cL_law 1257 = .ok (.ireturn, 1) := by decide +kernel
theorem dL_law_1258 : decode cL_law 1258 = .ok (.aload_n 1, 1) := by decide +kernel
theorem dL_law_1259 : decode cL_law 1259 = .ok (.aload_n 0, 1) := by decide +kernel
theorem dL_law_1260 : decode cL_law 1260 = .ok (.iload_n 3, 1) := by decide +kernel
theorem dL_law_1261 : decode cL_law 1261 = .ok (.iconst 1, 1) := by decide +kernel
theorem dL_law_1262 : decode cL_law 1262 = .ok (.iadd, 1) := by decide +kernel
theorem dL_law_1263 : decode cL_law 1263 = .ok (.iaload, 1) := by decide +kernel
theorem dL_law_1264 : decode cL_law 1264 = .ok (.invokevirtual 151, 3) := by decide +kernel
theorem dL_law_1267 : decode cL_law 1267 = .ok (.aload_n 2, 1) := by decide +kernel
theorem dL_law_1268 : decode cL_law 1268 = .ok (.aload_n 0, 1) := by decide +kernel
theorem dL_law_1269 : decode cL_law 1269 = .ok (.iload_n 3, 1) := by decide +kernel
theorem dL_law_1270 : decode cL_law 1270 = .ok (.iconst 1, 1) := by decide +kernel
theorem dL_law_1271 : decode cL_law 1271 = .ok (.iadd, 1) := by decide +kernel
theorem dL_law_1272 : decode cL_law 1272 = .ok (.iaload, 1) := by decide +kernel
theorem dL_law_1273 : decode cL_law 1273 = .ok (.invokevirtual 154, 3) := by decide +kernel
theorem dL_law_1276 : decode cL_law 1276 = .ok (.if_icmp .eq 5, 3) := by decide +kernel
theorem dL_law_1279 : decode cL_law 1279 = .ok (.iconst 0, 1) := by decide +kernel
theorem dL_law_1280 : decode cL_law 1280 = .ok (.ireturn, 1) := by decide +kernel
theorem dL_law_1281 : decode cL_law 1281 = .ok (.iinc 3 5, 3) := by decide +kernel
theorem dL_law_1284 : decode cL_law 1284 = .ok (.goto (-1266), 3) := by decide +kernel
theorem dL_law_1287 : decode cL_law 1287 = .ok (.iconst 1, 1) := by decide +kernel
theorem dL_law_1288 : decode cL_law 1288 = .ok (.ireturn, 1) := by decide +kernel
end
section
def isNest : Cond → Bool
  | .fieldLinkNest .. => true
  | .methodLinkNest .. => true
  | _ => false
def tblG : List Cond := lw_tbl.filter goodWord
def tblN : List Cond := tables_1.filter isNest
theorem tb_1 {w : Cond} (h : w ∈ tables_1_1) : w ∈ tables_1 := List.mem_append_left _ h
theorem tb_2 {w : Cond} (h : w ∈ tables_1_2) : w ∈ tables_1 := List.mem_append_right _ (List.mem_append_left _ h)
theorem tb_3 {w : Cond} (h : w ∈ tables_1_3) : w ∈ tables_1 := List.mem_append_right _ (List.mem_append_right _ (List.mem_append_left _ h))
theorem tb_4 {w : Cond} (h : w ∈ tables_1_4) : w ∈ tables_1 := List.mem_append_right _ (List.mem_append_right _ (List.mem_append_right _ (List.mem_append_left _ h)))
theorem tb_5 {w : Cond} (h : w ∈ tables_1_5) : w ∈ tables_1 := List.mem_append_right _ (List.mem_append_right _ (List.mem_append_right _ (List.mem_append_right _ (List.mem_append_left _ h))))
theorem tb_6 {w : Cond} (h : w ∈ tables_1_6) : w ∈ tables_1 := List.mem_append_right _ (List.mem_append_right _ (List.mem_append_right _ (List.mem_append_right _ (List.mem_append_right _ h))))
theorem tg_of {w : Cond} (h : w ∈ tables_1) (g : goodWord w = true) : w ∈ tblG := List.mem_filter.mpr ⟨List.mem_append_right _ h, g⟩
theorem tn_of {w : Cond} (h : w ∈ tables_1) (g : isNest w = true) : w ∈ tblN := List.mem_filter.mpr ⟨h, g⟩
theorem ts_of {q : MethodName × Nat} (h : q ∈ lw_privs) : Cond.selects q.1.cls q.1 q.1 ∈ tblG := List.mem_filter.mpr ⟨List.mem_append_left _ (List.mem_map.mpr ⟨q, h, rfl⟩), rfl⟩
theorem tw_0 : (Jvm.Cond.initialized "NorthWheelLaw") ∈ tblG := tg_of (tb_1 (List.mem_of_getElem? (i := 0) rfl)) rfl
theorem tw_1 : (Jvm.Cond.initialized "NorthWheel") ∈ tblG := tg_of (tb_1 (List.mem_of_getElem? (i := 1) rfl)) rfl
theorem tw_2 : (Jvm.Cond.initialized "NorthWheel$Seas") ∈ tblG := tg_of (tb_1 (List.mem_of_getElem? (i := 2) rfl)) rfl
theorem tw_3 : (Jvm.Cond.initialized "NorthWheel$Needles") ∈ tblG := tg_of (tb_1 (List.mem_of_getElem? (i := 3) rfl)) rfl
theorem tw_4 : (Jvm.Cond.initialized "NorthWheel$Ship") ∈ tblG := tg_of (tb_1 (List.mem_of_getElem? (i := 4) rfl)) rfl
theorem tw_5 : (Jvm.Cond.initialized "NorthWheel$Pointer") ∈ tblG := tg_of (tb_1 (List.mem_of_getElem? (i := 5) rfl)) rfl
theorem tw_6 : (Jvm.Cond.initialized "NorthWheel$Helm") ∈ tblG := tg_of (tb_1 (List.mem_of_getElem? (i := 6) rfl)) rfl
theorem tw_7 : (Jvm.Cond.initialized "NorthWheel$Script") ∈ tblG := tg_of (tb_1 (List.mem_of_getElem? (i := 7) rfl)) rfl
theorem tw_8 : (Jvm.Cond.initialized "java/lang/System") ∈ tblG := tg_of (tb_1 (List.mem_of_getElem? (i := 8) rfl)) rfl
theorem tw_9 : (Jvm.Cond.initialized "NorthWheel$Swings") ∈ tblG := tg_of (tb_1 (List.mem_of_getElem? (i := 9) rfl)) rfl
theorem tw_10 : (Jvm.Cond.initialized "NorthWheel$Keeping") ∈ tblG := tg_of (tb_1 (List.mem_of_getElem? (i := 10) rfl)) rfl
theorem tw_11 : (Jvm.Cond.initialized "NorthWheel$Looks") ∈ tblG := tg_of (tb_1 (List.mem_of_getElem? (i := 11) rfl)) rfl
theorem tw_12 : (Jvm.Cond.initialized "NorthWheel$TurnedAbout") ∈ tblG := tg_of (tb_1 (List.mem_of_getElem? (i := 12) rfl)) rfl
theorem tw_13 : (Jvm.Cond.initialized "NorthWheel$Watched") ∈ tblG := tg_of (tb_1 (List.mem_of_getElem? (i := 13) rfl)) rfl
theorem tw_14 : (Jvm.Cond.initialized "NorthWheelModel") ∈ tblG := tg_of (tb_1 (List.mem_of_getElem? (i := 14) rfl)) rfl
theorem tw_15 : (Jvm.Cond.initialized "java/lang/Math") ∈ tblG := tg_of (tb_1 (List.mem_of_getElem? (i := 15) rfl)) rfl
theorem tw_16 : (Jvm.Cond.initialized "java/lang/String") ∈ tblG := tg_of (tb_1 (List.mem_of_getElem? (i := 16) rfl)) rfl
theorem tw_17 : (Jvm.Cond.initialized "java/lang/StringLatin1") ∈ tblG := tg_of (tb_1 (List.mem_of_getElem? (i := 17) rfl)) rfl
theorem tw_18 : (Jvm.Cond.initialized "jdk/internal/util/Preconditions") ∈ tblG := tg_of (tb_1 (List.mem_of_getElem? (i := 18) rfl)) rfl
theorem tw_19 : (Jvm.Cond.initialized "java/lang/StringUTF16") ∈ tblG := tg_of (tb_1 (List.mem_of_getElem? (i := 19) rfl)) rfl
theorem tw_20 : (Jvm.Cond.classLink "NorthWheelLaw" (7 : Nat) "NorthWheel") ∈ tblG := tg_of (tb_1 (List.mem_of_getElem? (i := 20) rfl)) rfl
theorem tw_21 : (Jvm.Cond.instantiable "NorthWheel" (10 : Nat)) ∈ tblG := tg_of (tb_1 (List.mem_of_getElem? (i := 21) rfl)) rfl
theorem tw_22 : (Jvm.Cond.methodLink "NorthWheelLaw" (9 : Nat) ({ cls := "NorthWheel", name := "<init>", desc := "()V" } : Jvm.MethodName)) ∈ tblG := tg_of (tb_1 (List.mem_of_getElem? (i := 22) rfl)) rfl
theorem tw_23 : (Jvm.Cond.instanceMethod ({ cls := "NorthWheel", name := "<init>", desc := "()V" } : Jvm.MethodName)) ∈ tblG := tg_of (tb_1 (List.mem_of_getElem? (i := 23) rfl)) rfl
theorem tw_24 : (Jvm.Cond.code ({ cls := "NorthWheel", name := "<init>", desc := "()V" } : Jvm.MethodName) prog_1_method_1_code (1 : Nat) (Option.none : Option Jvm.ClassFile.FieldType)) ∈ tblG := tg_of (tb_1 (List.mem_of_getElem? (i := 24) rfl)) rfl
theorem tw_25 : (Jvm.Cond.methodLink "NorthWheel" (1 : Nat) ({ cls := "java/lang/Object", name := "<init>", desc := "()V" } : Jvm.MethodName)) ∈ tblG := tg_of (tb_1 (List.mem_of_getElem? (i := 25) rfl)) rfl
theorem tw_26 : (Jvm.Cond.instanceMethod ({ cls := "java/lang/Object", name := "<init>", desc := "()V" } : Jvm.MethodName)) ∈ tblG := tg_of (tb_1 (List.mem_of_getElem? (i := 26) rfl)) rfl
theorem tw_27 : (Jvm.Cond.code ({ cls := "java/lang/Object", name := "<init>", desc := "()V" } : Jvm.MethodName) object_method_1_code (1 : Nat) (Option.none : Option Jvm.ClassFile.FieldType)) ∈ tblG := tg_of (tb_1 (List.mem_of_getElem? (i := 27) rfl)) rfl
theorem tw_28 : (Jvm.Cond.classLink "NorthWheel" (7 : Nat) "NorthWheel$Seas") ∈ tblG := tg_of (tb_1 (List.mem_of_getElem? (i := 28) rfl)) rfl
theorem tw_29 : (Jvm.Cond.instantiable "NorthWheel$Seas" (2 : Nat)) ∈ tblG := tg_of (tb_1 (List.mem_of_getElem? (i := 29) rfl)) rfl
theorem tn_30 : (Jvm.Cond.methodLinkNest "NorthWheel" (9 : Nat) ({ cls := "NorthWheel$Seas", name := "<init>", desc := "()V" } : Jvm.MethodName) "NorthWheel") ∈ tblN := tn_of (tb_1 (List.mem_of_getElem? (i := 30) rfl)) rfl
theorem tw_31 : (Jvm.Cond.instanceMethod ({ cls := "NorthWheel$Seas", name := "<init>", desc := "()V" } : Jvm.MethodName)) ∈ tblG := tg_of (tb_1 (List.mem_of_getElem? (i := 31) rfl)) rfl
theorem tw_32 : (Jvm.Cond.code ({ cls := "NorthWheel$Seas", name := "<init>", desc := "()V" } : Jvm.MethodName) prog_8_method_1_code (1 : Nat) (Option.none : Option Jvm.ClassFile.FieldType)) ∈ tblG := tg_of (tb_1 (List.mem_of_getElem? (i := 32) rfl)) rfl
theorem tw_33 : (Jvm.Cond.methodLink "NorthWheel$Seas" (3 : Nat) ({ cls := "java/lang/Object", name := "<init>", desc := "()V" } : Jvm.MethodName)) ∈ tblG := tg_of (tb_1 (List.mem_of_getElem? (i := 33) rfl)) rfl
theorem tw_34 : (Jvm.Cond.fieldLink "NorthWheel$Seas" (11 : Nat) "NorthWheel$Seas" "yaws" "[I") ∈ tblG := tg_of (tb_1 (List.mem_of_getElem? (i := 34) rfl)) rfl
theorem tw_35 : (Jvm.Cond.fieldLink "NorthWheel$Seas" (15 : Nat) "NorthWheel$Seas" "size" "I") ∈ tblG := tg_of (tb_1 (List.mem_of_getElem? (i := 35) rfl)) rfl
theorem tn_36 : (Jvm.Cond.fieldLinkNest "NorthWheel" (120 : Nat) "NorthWheel$Seas" "size" "I" "NorthWheel") ∈ tblN := tn_of (tb_1 (List.mem_of_getElem? (i := 36) rfl)) rfl
theorem tw_37 : (Jvm.Cond.laysFinal "NorthWheel$Seas" "NorthWheel$Seas" "yaws" "[I") ∈ tblG := tg_of (tb_1 (List.mem_of_getElem? (i := 37) rfl)) rfl
theorem tw_38 : (Jvm.Cond.soleField "NorthWheel$Seas" "yaws") ∈ tblG := tg_of (tb_1 (List.mem_of_getElem? (i := 38) rfl)) rfl
theorem tw_39 : (Jvm.Cond.lays "NorthWheel$Seas" "NorthWheel$Seas" "size" "I") ∈ tblG := tg_of (tb_1 (List.mem_of_getElem? (i := 39) rfl)) rfl
theorem tw_40 : (Jvm.Cond.soleField "NorthWheel$Seas" "size") ∈ tblG := tg_of (tb_1 (List.mem_of_getElem? (i := 40) rfl)) rfl
theorem tw_41 : (Jvm.Cond.superclass "NorthWheel$Seas" "java/lang/Object") ∈ tblG := tg_of (tb_1 (List.mem_of_getElem? (i := 41) rfl)) rfl
theorem tw_42 : (Jvm.Cond.arrayClass Jvm.ClassFile.FieldType.int) ∈ tblG := tg_of (tb_1 (List.mem_of_getElem? (i := 42) rfl)) rfl
theorem tw_43 : (Jvm.Cond.classLink "NorthWheel" (16 : Nat) "NorthWheel$Needles") ∈ tblG := tg_of (tb_1 (List.mem_of_getElem? (i := 43) rfl)) rfl
theorem tw_44 : (Jvm.Cond.instantiable "NorthWheel$Needles" (1 : Nat)) ∈ tblG := tg_of (tb_1 (List.mem_of_getElem? (i := 44) rfl)) rfl
theorem tn_45 : (Jvm.Cond.methodLinkNest "NorthWheel" (18 : Nat) ({ cls := "NorthWheel$Needles", name := "<init>", desc := "()V" } : Jvm.MethodName) "NorthWheel") ∈ tblN := tn_of (tb_1 (List.mem_of_getElem? (i := 45) rfl)) rfl
theorem tw_46 : (Jvm.Cond.instanceMethod ({ cls := "NorthWheel$Needles", name := "<init>", desc := "()V" } : Jvm.MethodName)) ∈ tblG := tg_of (tb_1 (List.mem_of_getElem? (i := 46) rfl)) rfl
theorem tw_47 : (Jvm.Cond.code ({ cls := "NorthWheel$Needles", name := "<init>", desc := "()V" } : Jvm.MethodName) prog_5_method_1_code (1 : Nat) (Option.none : Option Jvm.ClassFile.FieldType)) ∈ tblG := tg_of (tb_1 (List.mem_of_getElem? (i := 47) rfl)) rfl
theorem tw_48 : (Jvm.Cond.methodLink "NorthWheel$Needles" (3 : Nat) ({ cls := "java/lang/Object", name := "<init>", desc := "()V" } : Jvm.MethodName)) ∈ tblG := tg_of (tb_1 (List.mem_of_getElem? (i := 48) rfl)) rfl
theorem tw_49 : (Jvm.Cond.fieldLink "NorthWheel$Needles" (9 : Nat) "NorthWheel$Needles" "deviations" "[I") ∈ tblG := tg_of (tb_1 (List.mem_of_getElem? (i := 49) rfl)) rfl
theorem tn_50 : (Jvm.Cond.fieldLinkNest "NorthWheel" (152 : Nat) "NorthWheel$Needles" "deviations" "[I" "NorthWheel") ∈ tblN := tn_of (tb_1 (List.mem_of_getElem? (i := 50) rfl)) rfl
theorem tw_51 : (Jvm.Cond.laysFinal "NorthWheel$Needles" "NorthWheel$Needles" "deviations" "[I") ∈ tblG := tg_of (tb_1 (List.mem_of_getElem? (i := 51) rfl)) rfl
theorem tw_52 : (Jvm.Cond.soleField "NorthWheel$Needles" "deviations") ∈ tblG := tg_of (tb_1 (List.mem_of_getElem? (i := 52) rfl)) rfl
theorem tw_53 : (Jvm.Cond.superclass "NorthWheel$Needles" "java/lang/Object") ∈ tblG := tg_of (tb_1 (List.mem_of_getElem? (i := 53) rfl)) rfl
theorem tw_54 : (Jvm.Cond.classLink "NorthWheel" (23 : Nat) "NorthWheel$Ship") ∈ tblG := tg_of (tb_1 (List.mem_of_getElem? (i := 54) rfl)) rfl
theorem tw_55 : (Jvm.Cond.instantiable "NorthWheel$Ship" (9 : Nat)) ∈ tblG := tg_of (tb_1 (List.mem_of_getElem? (i := 55) rfl)) rfl
theorem tn_56 : (Jvm.Cond.methodLinkNest "NorthWheel" (25 : Nat) ({ cls := "NorthWheel$Ship", name := "<init>", desc := "(LNorthWheel$Seas;LNorthWheel$Needles;)V" } : Jvm.MethodName) "NorthWheel") ∈ tblN := tn_of (tb_1 (List.mem_of_getElem? (i := 56) rfl)) rfl
theorem tw_57 : (Jvm.Cond.instanceMethod ({ cls := "NorthWheel$Ship", name := "<init>", desc := "(LNorthWheel$Seas;LNorthWheel$Needles;)V" } : Jvm.MethodName)) ∈ tblG := tg_of (tb_1 (List.mem_of_getElem? (i := 57) rfl)) rfl
theorem tw_58 : (Jvm.Cond.code ({ cls := "NorthWheel$Ship", name := "<init>", desc := "(LNorthWheel$Seas;LNorthWheel$Needles;)V" } : Jvm.MethodName) prog_9_method_1_code (4 : Nat) (Option.none : Option Jvm.ClassFile.FieldType)) ∈ tblG := tg_of (tb_1 (List.mem_of_getElem? (i := 58) rfl)) rfl
theorem tw_59 : (Jvm.Cond.methodLink "NorthWheel$Ship" (3 : Nat) ({ cls := "java/lang/Object", name := "<init>", desc := "()V" } : Jvm.MethodName)) ∈ tblG := tg_of (tb_1 (List.mem_of_getElem? (i := 59) rfl)) rfl
theorem tw_60 : (Jvm.Cond.classLink "NorthWheel$Ship" (23 : Nat) "NorthWheel$Pointer") ∈ tblG := tg_of (tb_1 (List.mem_of_getElem? (i := 60) rfl)) rfl
theorem tw_62 : (Jvm.Cond.instantiable "NorthWheel$Pointer" (8 : Nat)) ∈ tblG := tg_of (tb_1 (List.mem_of_getElem? (i := 62) rfl)) rfl
theorem tn_63 : (Jvm.Cond.methodLinkNest "NorthWheel$Ship" (29 : Nat) ({ cls := "NorthWheel$Pointer", name := "<init>", desc := "()V" } : Jvm.MethodName) "NorthWheel") ∈ tblN := tn_of (tb_1 (List.mem_of_getElem? (i := 63) rfl)) rfl
theorem tw_64 : (Jvm.Cond.instanceMethod ({ cls := "NorthWheel$Pointer", name := "<init>", desc := "()V" } : Jvm.MethodName)) ∈ tblG := tg_of (tb_1 (List.mem_of_getElem? (i := 64) rfl)) rfl
theorem tw_65 : (Jvm.Cond.code ({ cls := "NorthWheel$Pointer", name := "<init>", desc := "()V" } : Jvm.MethodName) prog_6_method_1_code (1 : Nat) (Option.none : Option Jvm.ClassFile.FieldType)) ∈ tblG := tg_of (tb_1 (List.mem_of_getElem? (i := 65) rfl)) rfl
theorem tw_66 : (Jvm.Cond.methodLink "NorthWheel$Pointer" (3 : Nat) ({ cls := "java/lang/Object", name := "<init>", desc := "()V" } : Jvm.MethodName)) ∈ tblG := tg_of (tb_1 (List.mem_of_getElem? (i := 66) rfl)) rfl
theorem tw_67 : (Jvm.Cond.fieldLink "NorthWheel$Pointer" (9 : Nat) "NorthWheel$Pointer" "kind" "I") ∈ tblG := tg_of (tb_1 (List.mem_of_getElem? (i := 67) rfl)) rfl
theorem tn_68 : (Jvm.Cond.fieldLinkNest "NorthWheel$Ship" (49 : Nat) "NorthWheel$Pointer" "kind" "I" "NorthWheel") ∈ tblN := tn_of (tb_1 (List.mem_of_getElem? (i := 68) rfl)) rfl
theorem tn_69 : (Jvm.Cond.fieldLinkNest "NorthWheel" (127 : Nat) "NorthWheel$Pointer" "kind" "I" "NorthWheel") ∈ tblN := tn_of (tb_1 (List.mem_of_getElem? (i := 69) rfl)) rfl
theorem tw_70 : (Jvm.Cond.fieldLink "NorthWheel$Pointer" (15 : Nat) "NorthWheel$Pointer" "pull" "I") ∈ tblG := tg_of (tb_1 (List.mem_of_getElem? (i := 70) rfl)) rfl
theorem tn_71 : (Jvm.Cond.fieldLinkNest "NorthWheel$Watched" (55 : Nat) "NorthWheel$Pointer" "pull" "I" "NorthWheel") ∈ tblN := tn_of (tb_1 (List.mem_of_getElem? (i := 71) rfl)) rfl
theorem tn_72 : (Jvm.Cond.fieldLinkNest "NorthWheel$Swings" (63 : Nat) "NorthWheel$Pointer" "pull" "I" "NorthWheel") ∈ tblN := tn_of (tb_1 (List.mem_of_getElem? (i := 72) rfl)) rfl
theorem tn_73 : (Jvm.Cond.fieldLinkNest "NorthWheel" (236 : Nat) "NorthWheel$Pointer" "pull" "I" "NorthWheel") ∈ tblN := tn_of (tb_1 (List.mem_of_getElem? (i := 73) rfl)) rfl
theorem tw_74 : (Jvm.Cond.fieldLink "NorthWheel$Pointer" (18 : Nat) "NorthWheel$Pointer" "damp" "I") ∈ tblG := tg_of (tb_1 (List.mem_of_getElem? (i := 74) rfl)) rfl
theorem tn_75 : (Jvm.Cond.fieldLinkNest "NorthWheel$Watched" (58 : Nat) "NorthWheel$Pointer" "damp" "I" "NorthWheel") ∈ tblN := tn_of (tb_1 (List.mem_of_getElem? (i := 75) rfl)) rfl
theorem tw_76 : (Jvm.Cond.fieldLink "NorthWheel$Pointer" (21 : Nat) "NorthWheel$Pointer" "kick" "I") ∈ tblG := tg_of (tb_1 (List.mem_of_getElem? (i := 76) rfl)) rfl
theorem tw_77 : (Jvm.Cond.fieldLink "NorthWheel$Pointer" (24 : Nat) "NorthWheel$Pointer" "off" "I") ∈ tblG := tg_of (tb_1 (List.mem_of_getElem? (i := 77) rfl)) rfl
theorem tn_78 : (Jvm.Cond.fieldLinkNest "NorthWheel$Swings" (39 : Nat) "NorthWheel$Pointer" "off" "I" "NorthWheel") ∈ tblN := tn_of (tb_1 (List.mem_of_getElem? (i := 78) rfl)) rfl
theorem tn_79 : (Jvm.Cond.fieldLinkNest "NorthWheel$Watched" (69 : Nat) "NorthWheel$Pointer" "off" "I" "NorthWheel") ∈ tblN := tn_of (tb_1 (List.mem_of_getElem? (i := 79) rfl)) rfl
theorem tn_80 : (Jvm.Cond.fieldLinkNest "NorthWheel" (160 : Nat) "NorthWheel$Pointer" "off" "I" "NorthWheel") ∈ tblN := tn_of (tb_1 (List.mem_of_getElem? (i := 80) rfl)) rfl
theorem tw_81 : (Jvm.Cond.fieldLink "NorthWheel$Pointer" (27 : Nat) "NorthWheel$Pointer" "rate" "I") ∈ tblG := tg_of (tb_1 (List.mem_of_getElem? (i := 81) rfl)) rfl
theorem tn_82 : (Jvm.Cond.fieldLinkNest "NorthWheel" (163 : Nat) "NorthWheel$Pointer" "rate" "I" "NorthWheel") ∈ tblN := tn_of (tb_1 (List.mem_of_getElem? (i := 82) rfl)) rfl
theorem tw_83 : (Jvm.Cond.fieldLink "NorthWheel$Pointer" (30 : Nat) "NorthWheel$Pointer" "toldSpeed" "I") ∈ tblG := tg_of (tb_1 (List.mem_of_getElem? (i := 83) rfl)) rfl
theorem tn_84 : (Jvm.Cond.fieldLinkNest "NorthWheel" (143 : Nat) "NorthWheel$Pointer" "toldSpeed" "I" "NorthWheel") ∈ tblN := tn_of (tb_1 (List.mem_of_getElem? (i := 84) rfl)) rfl
theorem tw_85 : (Jvm.Cond.fieldLink "NorthWheel$Pointer" (33 : Nat) "NorthWheel$Pointer" "toldPlace" "I") ∈ tblG := tg_of (tb_1 (List.mem_of_getElem? (i := 85) rfl)) rfl
theorem tn_86 : (Jvm.Cond.fieldLinkNest "NorthWheel" (146 : Nat) "NorthWheel$Pointer" "toldPlace" "I" "NorthWheel") ∈ tblN := tn_of (tb_1 (List.mem_of_getElem? (i := 86) rfl)) rfl
theorem tw_87 : (Jvm.Cond.lays "NorthWheel$Pointer" "NorthWheel$Pointer" "kind" "I") ∈ tblG := tg_of (tb_1 (List.mem_of_getElem? (i := 87) rfl)) rfl
theorem tw_88 : (Jvm.Cond.soleField "NorthWheel$Pointer" "kind") ∈ tblG := tg_of (tb_1 (List.mem_of_getElem? (i := 88) rfl)) rfl
theorem tw_89 : (Jvm.Cond.lays "NorthWheel$Pointer" "NorthWheel$Pointer" "pull" "I") ∈ tblG := tg_of (tb_1 (List.mem_of_getElem? (i := 89) rfl)) rfl
theorem tw_90 : (Jvm.Cond.soleField "NorthWheel$Pointer" "pull") ∈ tblG := tg_of (tb_1 (List.mem_of_getElem? (i := 90) rfl)) rfl
theorem tw_91 : (Jvm.Cond.lays "NorthWheel$Pointer" "NorthWheel$Pointer" "damp" "I") ∈ tblG := tg_of (tb_1 (List.mem_of_getElem? (i := 91) rfl)) rfl
theorem tw_92 : (Jvm.Cond.soleField "NorthWheel$Pointer" "damp") ∈ tblG := tg_of (tb_1 (List.mem_of_getElem? (i := 92) rfl)) rfl
theorem tw_93 : (Jvm.Cond.lays "NorthWheel$Pointer" "NorthWheel$Pointer" "kick" "I") ∈ tblG := tg_of (tb_1 (List.mem_of_getElem? (i := 93) rfl)) rfl
theorem tw_94 : (Jvm.Cond.soleField "NorthWheel$Pointer" "kick") ∈ tblG := tg_of (tb_1 (List.mem_of_getElem? (i := 94) rfl)) rfl
theorem tw_95 : (Jvm.Cond.lays "NorthWheel$Pointer" "NorthWheel$Pointer" "off" "I") ∈ tblG := tg_of (tb_1 (List.mem_of_getElem? (i := 95) rfl)) rfl
theorem tw_96 : (Jvm.Cond.soleField "NorthWheel$Pointer" "off") ∈ tblG := tg_of (tb_1 (List.mem_of_getElem? (i := 96) rfl)) rfl
theorem tw_97 : (Jvm.Cond.lays "NorthWheel$Pointer" "NorthWheel$Pointer" "rate" "I") ∈ tblG := tg_of (tb_1 (List.mem_of_getElem? (i := 97) rfl)) rfl
theorem tw_98 : (Jvm.Cond.soleField "NorthWheel$Pointer" "rate") ∈ tblG := tg_of (tb_1 (List.mem_of_getElem? (i := 98) rfl)) rfl
theorem tw_99 : (Jvm.Cond.lays "NorthWheel$Pointer" "NorthWheel$Pointer" "toldSpeed" "I") ∈ tblG := tg_of (tb_1 (List.mem_of_getElem? (i := 99) rfl)) rfl
theorem tw_100 : (Jvm.Cond.soleField "NorthWheel$Pointer" "toldSpeed") ∈ tblG := tg_of (tb_1 (List.mem_of_getElem? (i := 100) rfl)) rfl
theorem tw_101 : (Jvm.Cond.lays "NorthWheel$Pointer" "NorthWheel$Pointer" "toldPlace" "I") ∈ tblG := tg_of (tb_1 (List.mem_of_getElem? (i := 101) rfl)) rfl
theorem tw_102 : (Jvm.Cond.soleField "NorthWheel$Pointer" "toldPlace") ∈ tblG := tg_of (tb_1 (List.mem_of_getElem? (i := 102) rfl)) rfl
theorem tw_103 : (Jvm.Cond.superclass "NorthWheel$Pointer" "java/lang/Object") ∈ tblG := tg_of (tb_1 (List.mem_of_getElem? (i := 103) rfl)) rfl
theorem tw_104 : (Jvm.Cond.fieldLink "NorthWheel$Ship" (15 : Nat) "NorthWheel$Ship" "seas" "LNorthWheel$Seas;") ∈ tblG := tg_of (tb_1 (List.mem_of_getElem? (i := 104) rfl)) rfl
theorem tw_105 : (Jvm.Cond.fieldLink "NorthWheel$Ship" (19 : Nat) "NorthWheel$Ship" "needles" "LNorthWheel$Needles;") ∈ tblG := tg_of (tb_1 (List.mem_of_getElem? (i := 105) rfl)) rfl
theorem tn_106 : (Jvm.Cond.fieldLinkNest "NorthWheel$Helm" (47 : Nat) "NorthWheel$Ship" "needles" "LNorthWheel$Needles;" "NorthWheel") ∈ tblN := tn_of (tb_1 (List.mem_of_getElem? (i := 106) rfl)) rfl
theorem tw_107 : (Jvm.Cond.fieldLink "NorthWheel$Ship" (25 : Nat) "NorthWheel$Ship" "pointers" "[LNorthWheel$Pointer;") ∈ tblG := tg_of (tb_1 (List.mem_of_getElem? (i := 107) rfl)) rfl
theorem tw_108 : (Jvm.Cond.fieldLink "NorthWheel$Ship" (30 : Nat) "NorthWheel$Ship" "place" "I") ∈ tblG := tg_of (tb_1 (List.mem_of_getElem? (i := 108) rfl)) rfl
theorem tn_109 : (Jvm.Cond.fieldLinkNest "NorthWheel" (87 : Nat) "NorthWheel$Ship" "place" "I" "NorthWheel") ∈ tblN := tn_of (tb_1 (List.mem_of_getElem? (i := 109) rfl)) rfl
theorem tn_110 : (Jvm.Cond.fieldLinkNest "NorthWheel$Pointer" (49 : Nat) "NorthWheel$Ship" "place" "I" "NorthWheel") ∈ tblN := tn_of (tb_1 (List.mem_of_getElem? (i := 110) rfl)) rfl
theorem tw_111 : (Jvm.Cond.fieldLink "NorthWheel$Ship" (33 : Nat) "NorthWheel$Ship" "heading" "I") ∈ tblG := tg_of (tb_1 (List.mem_of_getElem? (i := 111) rfl)) rfl
theorem tn_112 : (Jvm.Cond.fieldLinkNest "NorthWheel$Keeping" (61 : Nat) "NorthWheel$Ship" "heading" "I" "NorthWheel") ∈ tblN := tn_of (tb_1 (List.mem_of_getElem? (i := 112) rfl)) rfl
theorem tn_113 : (Jvm.Cond.fieldLinkNest "NorthWheel" (110 : Nat) "NorthWheel$Ship" "heading" "I" "NorthWheel") ∈ tblN := tn_of (tb_1 (List.mem_of_getElem? (i := 113) rfl)) rfl
theorem tn_114 : (Jvm.Cond.fieldLinkNest "NorthWheel$Helm" (44 : Nat) "NorthWheel$Ship" "heading" "I" "NorthWheel") ∈ tblN := tn_of (tb_1 (List.mem_of_getElem? (i := 114) rfl)) rfl
theorem tn_115 : (Jvm.Cond.fieldLinkNest "NorthWheel$Pointer" (67 : Nat) "NorthWheel$Ship" "heading" "I" "NorthWheel") ∈ tblN := tn_of (tb_1 (List.mem_of_getElem? (i := 115) rfl)) rfl
theorem tw_116 : (Jvm.Cond.fieldLink "NorthWheel$Ship" (36 : Nat) "NorthWheel$Ship" "speed" "I") ∈ tblG := tg_of (tb_1 (List.mem_of_getElem? (i := 116) rfl)) rfl
theorem tn_117 : (Jvm.Cond.fieldLinkNest "NorthWheel" (94 : Nat) "NorthWheel$Ship" "speed" "I" "NorthWheel") ∈ tblN := tn_of (tb_1 (List.mem_of_getElem? (i := 117) rfl)) rfl
theorem tn_118 : (Jvm.Cond.fieldLinkNest "NorthWheel$Pointer" (64 : Nat) "NorthWheel$Ship" "speed" "I" "NorthWheel") ∈ tblN := tn_of (tb_1 (List.mem_of_getElem? (i := 118) rfl)) rfl
theorem tw_119 : (Jvm.Cond.fieldLink "NorthWheel$Ship" (39 : Nat) "NorthWheel$Ship" "rudder" "I") ∈ tblG := tg_of (tb_1 (List.mem_of_getElem? (i := 119) rfl)) rfl
theorem tn_120 : (Jvm.Cond.fieldLinkNest "NorthWheel$Keeping" (49 : Nat) "NorthWheel$Ship" "rudder" "I" "NorthWheel") ∈ tblN := tn_of (tb_1 (List.mem_of_getElem? (i := 120) rfl)) rfl
theorem tn_121 : (Jvm.Cond.fieldLinkNest "NorthWheel" (104 : Nat) "NorthWheel$Ship" "rudder" "I" "NorthWheel") ∈ tblN := tn_of (tb_1 (List.mem_of_getElem? (i := 121) rfl)) rfl
theorem tn_122 : (Jvm.Cond.fieldLinkNest "NorthWheel$Helm" (72 : Nat) "NorthWheel$Ship" "rudder" "I" "NorthWheel") ∈ tblN := tn_of (tb_1 (List.mem_of_getElem? (i := 122) rfl)) rfl
theorem tw_123 : (Jvm.Cond.fieldLink "NorthWheel$Ship" (9 : Nat) "NorthWheel$Ship" "agile" "I") ∈ tblG := tg_of (tb_1 (List.mem_of_getElem? (i := 123) rfl)) rfl
theorem tn_124 : (Jvm.Cond.fieldLinkNest "NorthWheel" (101 : Nat) "NorthWheel$Ship" "agile" "I" "NorthWheel") ∈ tblN := tn_of (tb_1 (List.mem_of_getElem? (i := 124) rfl)) rfl
theorem tw_125 : (Jvm.Cond.fieldLink "NorthWheel$Ship" (42 : Nat) "NorthWheel$Ship" "ticks" "I") ∈ tblG := tg_of (tb_1 (List.mem_of_getElem? (i := 125) rfl)) rfl
theorem tn_126 : (Jvm.Cond.fieldLinkNest "NorthWheel$Helm" (41 : Nat) "NorthWheel$Ship" "ticks" "I" "NorthWheel") ∈ tblN := tn_of (tb_1 (List.mem_of_getElem? (i := 126) rfl)) rfl
theorem tn_127 : (Jvm.Cond.fieldLinkNest "NorthWheel" (175 : Nat) "NorthWheel$Ship" "ticks" "I" "NorthWheel") ∈ tblN := tn_of (tb_1 (List.mem_of_getElem? (i := 127) rfl)) rfl
theorem tw_128 : (Jvm.Cond.laysFinal "NorthWheel$Ship" "NorthWheel$Ship" "seas" "LNorthWheel$Seas;") ∈ tblG := tg_of (tb_1 (List.mem_of_getElem? (i := 128) rfl)) rfl
theorem tw_129 : (Jvm.Cond.soleField "NorthWheel$Ship" "seas") ∈ tblG := tg_of (tb_1 (List.mem_of_getElem? (i := 129) rfl)) rfl
theorem tw_130 : (Jvm.Cond.laysFinal "NorthWheel$Ship" "NorthWheel$Ship" "needles" "LNorthWheel$Needles;") ∈ tblG := tg_of (tb_1 (List.mem_of_getElem? (i := 130) rfl)) rfl
theorem tw_131 : (Jvm.Cond.soleField "NorthWheel$Ship" "needles") ∈ tblG := tg_of (tb_1 (List.mem_of_getElem? (i := 131) rfl)) rfl
theorem tw_132 : (Jvm.Cond.laysFinal "NorthWheel$Ship" "NorthWheel$Ship" "pointers" "[LNorthWheel$Pointer;") ∈ tblG := tg_of (tb_1 (List.mem_of_getElem? (i := 132) rfl)) rfl
theorem tw_133 : (Jvm.Cond.soleField "NorthWheel$Ship" "pointers") ∈ tblG := tg_of (tb_1 (List.mem_of_getElem? (i := 133) rfl)) rfl
theorem tw_134 : (Jvm.Cond.lays "NorthWheel$Ship" "NorthWheel$Ship" "place" "I") ∈ tblG := tg_of (tb_1 (List.mem_of_getElem? (i := 134) rfl)) rfl
theorem tw_135 : (Jvm.Cond.soleField "NorthWheel$Ship" "place") ∈ tblG := tg_of (tb_1 (List.mem_of_getElem? (i := 135) rfl)) rfl
theorem tw_136 : (Jvm.Cond.lays "NorthWheel$Ship" "NorthWheel$Ship" "heading" "I") ∈ tblG := tg_of (tb_1 (List.mem_of_getElem? (i := 136) rfl)) rfl
theorem tw_137 : (Jvm.Cond.soleField "NorthWheel$Ship" "heading") ∈ tblG := tg_of (tb_1 (List.mem_of_getElem? (i := 137) rfl)) rfl
theorem tw_138 : (Jvm.Cond.lays "NorthWheel$Ship" "NorthWheel$Ship" "speed" "I") ∈ tblG := tg_of (tb_1 (List.mem_of_getElem? (i := 138) rfl)) rfl
theorem tw_139 : (Jvm.Cond.soleField "NorthWheel$Ship" "speed") ∈ tblG := tg_of (tb_1 (List.mem_of_getElem? (i := 139) rfl)) rfl
theorem tw_140 : (Jvm.Cond.lays "NorthWheel$Ship" "NorthWheel$Ship" "rudder" "I") ∈ tblG := tg_of (tb_1 (List.mem_of_getElem? (i := 140) rfl)) rfl
theorem tw_141 : (Jvm.Cond.soleField "NorthWheel$Ship" "rudder") ∈ tblG := tg_of (tb_1 (List.mem_of_getElem? (i := 141) rfl)) rfl
theorem tw_142 : (Jvm.Cond.lays "NorthWheel$Ship" "NorthWheel$Ship" "agile" "I") ∈ tblG := tg_of (tb_1 (List.mem_of_getElem? (i := 142) rfl)) rfl
theorem tw_143 : (Jvm.Cond.soleField "NorthWheel$Ship" "agile") ∈ tblG := tg_of (tb_1 (List.mem_of_getElem? (i := 143) rfl)) rfl
theorem tw_144 : (Jvm.Cond.lays "NorthWheel$Ship" "NorthWheel$Ship" "ticks" "I") ∈ tblG := tg_of (tb_1 (List.mem_of_getElem? (i := 144) rfl)) rfl
theorem tw_145 : (Jvm.Cond.soleField "NorthWheel$Ship" "ticks") ∈ tblG := tg_of (tb_1 (List.mem_of_getElem? (i := 145) rfl)) rfl
theorem tw_146 : (Jvm.Cond.superclass "NorthWheel$Ship" "java/lang/Object") ∈ tblG := tg_of (tb_1 (List.mem_of_getElem? (i := 146) rfl)) rfl
theorem tw_147 : (Jvm.Cond.classLink "NorthWheel" (32 : Nat) "NorthWheel$Helm") ∈ tblG := tg_of (tb_1 (List.mem_of_getElem? (i := 147) rfl)) rfl
theorem tw_148 : (Jvm.Cond.instantiable "NorthWheel$Helm" (4 : Nat)) ∈ tblG := tg_of (tb_1 (List.mem_of_getElem? (i := 148) rfl)) rfl
theorem tn_149 : (Jvm.Cond.methodLinkNest "NorthWheel" (34 : Nat) ({ cls := "NorthWheel$Helm", name := "<init>", desc := "()V" } : Jvm.MethodName) "NorthWheel") ∈ tblN := tn_of (tb_1 (List.mem_of_getElem? (i := 149) rfl)) rfl
theorem tw_150 : (Jvm.Cond.instanceMethod ({ cls := "NorthWheel$Helm", name := "<init>", desc := "()V" } : Jvm.MethodName)) ∈ tblG := tg_of (tb_1 (List.mem_of_getElem? (i := 150) rfl)) rfl
theorem tw_151 : (Jvm.Cond.code ({ cls := "NorthWheel$Helm", name := "<init>", desc := "()V" } : Jvm.MethodName) prog_2_method_1_code (1 : Nat) (Option.none : Option Jvm.ClassFile.FieldType)) ∈ tblG := tg_of (tb_1 (List.mem_of_getElem? (i := 151) rfl)) rfl
theorem tw_152 : (Jvm.Cond.methodLink "NorthWheel$Helm" (1 : Nat) ({ cls := "java/lang/Object", name := "<init>", desc := "()V" } : Jvm.MethodName)) ∈ tblG := tg_of (tb_1 (List.mem_of_getElem? (i := 152) rfl)) rfl
theorem tn_153 : (Jvm.Cond.fieldLinkNest "NorthWheel$Helm" (15 : Nat) "NorthWheel$Script" "AT_FIRST" "[I" "NorthWheel") ∈ tblN := tn_of (tb_1 (List.mem_of_getElem? (i := 153) rfl)) rfl
theorem tw_155 : (Jvm.Cond.methodLink "NorthWheel$Helm" (18 : Nat) ({ cls := "java/lang/System", name := "arraycopy", desc := "(Ljava/lang/Object;ILjava/lang/Object;II)V" } : Jvm.MethodName)) ∈ tblG := tg_of (tb_1 (List.mem_of_getElem? (i := 155) rfl)) rfl
theorem tw_156 : (Jvm.Cond.static ({ cls := "java/lang/System", name := "arraycopy", desc := "(Ljava/lang/Object;ILjava/lang/Object;II)V" } : Jvm.MethodName)) ∈ tblG := tg_of (tb_1 (List.mem_of_getElem? (i := 156) rfl)) rfl
theorem tw_157 : (Jvm.Cond.native ({ cls := "java/lang/System", name := "arraycopy", desc := "(Ljava/lang/Object;ILjava/lang/Object;II)V" } : Jvm.MethodName)) ∈ tblG := tg_of (tb_1 (List.mem_of_getElem? (i := 157) rfl)) rfl
theorem tw_158 : (Jvm.Cond.fieldLink "NorthWheel$Helm" (9 : Nat) "NorthWheel$Helm" "numbers" "[I") ∈ tblG := tg_of (tb_1 (List.mem_of_getElem? (i := 158) rfl)) rfl
theorem tn_159 : (Jvm.Cond.fieldLinkNest "NorthWheel$Keeping" (28 : Nat) "NorthWheel$Helm" "numbers" "[I" "NorthWheel") ∈ tblN := tn_of (tb_1 (List.mem_of_getElem? (i := 159) rfl)) rfl
theorem tn_160 : (Jvm.Cond.fieldLinkNest "NorthWheel" (206 : Nat) "NorthWheel$Helm" "numbers" "[I" "NorthWheel") ∈ tblN := tn_of (tb_1 (List.mem_of_getElem? (i := 160) rfl)) rfl
theorem tw_161 : (Jvm.Cond.fieldLink "NorthWheel$Helm" (24 : Nat) "NorthWheel$Helm" "course" "I") ∈ tblG := tg_of (tb_1 (List.mem_of_getElem? (i := 161) rfl)) rfl
theorem tn_162 : (Jvm.Cond.fieldLinkNest "NorthWheel$Keeping" (58 : Nat) "NorthWheel$Helm" "course" "I" "NorthWheel") ∈ tblN := tn_of (tb_1 (List.mem_of_getElem? (i := 162) rfl)) rfl
theorem tn_163 : (Jvm.Cond.fieldLinkNest "NorthWheel" (207 : Nat) "NorthWheel$Helm" "course" "I" "NorthWheel") ∈ tblN := tn_of (tb_1 (List.mem_of_getElem? (i := 163) rfl)) rfl
theorem tw_164 : (Jvm.Cond.fieldLink "NorthWheel$Helm" (28 : Nat) "NorthWheel$Helm" "hasLooked" "Z") ∈ tblG := tg_of (tb_1 (List.mem_of_getElem? (i := 164) rfl)) rfl
theorem tw_165 : (Jvm.Cond.fieldLink "NorthWheel$Helm" (32 : Nat) "NorthWheel$Helm" "lastShown" "I") ∈ tblG := tg_of (tb_1 (List.mem_of_getElem? (i := 165) rfl)) rfl
theorem tw_166 : (Jvm.Cond.laysFinal "NorthWheel$Helm" "NorthWheel$Helm" "numbers" "[I") ∈ tblG := tg_of (tb_1 (List.mem_of_getElem? (i := 166) rfl)) rfl
theorem tw_167 : (Jvm.Cond.soleField "NorthWheel$Helm" "numbers") ∈ tblG := tg_of (tb_1 (List.mem_of_getElem? (i := 167) rfl)) rfl
theorem tw_168 : (Jvm.Cond.lays "NorthWheel$Helm" "NorthWheel$Helm" "course" "I") ∈ tblG := tg_of (tb_1 (List.mem_of_getElem? (i := 168) rfl)) rfl
theorem tw_169 : (Jvm.Cond.soleField "NorthWheel$Helm" "course") ∈ tblG := tg_of (tb_1 (List.mem_of_getElem? (i := 169) rfl)) rfl
theorem tw_170 : (Jvm.Cond.lays "NorthWheel$Helm" "NorthWheel$Helm" "hasLooked" "Z") ∈ tblG := tg_of (tb_1 (List.mem_of_getElem? (i := 170) rfl)) rfl
theorem tw_171 : (Jvm.Cond.soleField "NorthWheel$Helm" "hasLooked") ∈ tblG := tg_of (tb_1 (List.mem_of_getElem? (i := 171) rfl)) rfl
theorem tw_172 : (Jvm.Cond.lays "NorthWheel$Helm" "NorthWheel$Helm" "lastShown" "I") ∈ tblG := tg_of (tb_1 (List.mem_of_getElem? (i := 172) rfl)) rfl
theorem tw_173 : (Jvm.Cond.soleField "NorthWheel$Helm" "lastShown") ∈ tblG := tg_of (tb_1 (List.mem_of_getElem? (i := 173) rfl)) rfl
theorem tw_174 : (Jvm.Cond.superclass "NorthWheel$Helm" "java/lang/Object") ∈ tblG := tg_of (tb_1 (List.mem_of_getElem? (i := 174) rfl)) rfl
theorem tw_175 : (Jvm.Cond.classLink "NorthWheel" (39 : Nat) "NorthWheel$Script") ∈ tblG := tg_of (tb_1 (List.mem_of_getElem? (i := 175) rfl)) rfl
theorem tw_176 : (Jvm.Cond.instantiable "NorthWheel$Script" (4 : Nat)) ∈ tblG := tg_of (tb_1 (List.mem_of_getElem? (i := 176) rfl)) rfl
theorem tn_177 : (Jvm.Cond.methodLinkNest "NorthWheel" (41 : Nat) ({ cls := "NorthWheel$Script", name := "<init>", desc := "()V" } : Jvm.MethodName) "NorthWheel") ∈ tblN := tn_of (tb_1 (List.mem_of_getElem? (i := 177) rfl)) rfl
theorem tw_178 : (Jvm.Cond.instanceMethod ({ cls := "NorthWheel$Script", name := "<init>", desc := "()V" } : Jvm.MethodName)) ∈ tblG := tg_of (tb_1 (List.mem_of_getElem? (i := 178) rfl)) rfl
theorem tw_179 : (Jvm.Cond.code ({ cls := "NorthWheel$Script", name := "<init>", desc := "()V" } : Jvm.MethodName) prog_7_method_1_code (1 : Nat) (Option.none : Option Jvm.ClassFile.FieldType)) ∈ tblG := tg_of (tb_1 (List.mem_of_getElem? (i := 179) rfl)) rfl
theorem tw_180 : (Jvm.Cond.methodLink "NorthWheel$Script" (3 : Nat) ({ cls := "java/lang/Object", name := "<init>", desc := "()V" } : Jvm.MethodName)) ∈ tblG := tg_of (tb_1 (List.mem_of_getElem? (i := 180) rfl)) rfl
theorem tw_181 : (Jvm.Cond.fieldLink "NorthWheel$Script" (11 : Nat) "NorthWheel$Script" "bytes" "[I") ∈ tblG := tg_of (tb_1 (List.mem_of_getElem? (i := 181) rfl)) rfl
theorem tw_182 : (Jvm.Cond.fieldLink "NorthWheel$Script" (18 : Nat) "NorthWheel$Script" "length" "I") ∈ tblG := tg_of (tb_1 (List.mem_of_getElem? (i := 182) rfl)) rfl
theorem tn_183 : (Jvm.Cond.fieldLinkNest "NorthWheel" (189 : Nat) "NorthWheel$Script" "length" "I" "NorthWheel") ∈ tblN := tn_of (tb_1 (List.mem_of_getElem? (i := 183) rfl)) rfl
theorem tw_184 : (Jvm.Cond.fieldLink "NorthWheel$Script" (15 : Nat) "NorthWheel$Script" "numbers" "[I") ∈ tblG := tg_of (tb_1 (List.mem_of_getElem? (i := 184) rfl)) rfl
theorem tn_185 : (Jvm.Cond.fieldLinkNest "NorthWheel" (196 : Nat) "NorthWheel$Script" "numbers" "[I" "NorthWheel") ∈ tblN := tn_of (tb_1 (List.mem_of_getElem? (i := 185) rfl)) rfl
theorem tw_186 : (Jvm.Cond.fieldLink "NorthWheel$Script" (56 : Nat) "NorthWheel$Script" "lines" "I") ∈ tblG := tg_of (tb_1 (List.mem_of_getElem? (i := 186) rfl)) rfl
theorem tn_187 : (Jvm.Cond.fieldLinkNest "NorthWheel" (203 : Nat) "NorthWheel$Script" "lines" "I" "NorthWheel") ∈ tblN := tn_of (tb_1 (List.mem_of_getElem? (i := 187) rfl)) rfl
theorem tw_188 : (Jvm.Cond.laysFinal "NorthWheel$Script" "NorthWheel$Script" "bytes" "[I") ∈ tblG := tg_of (tb_1 (List.mem_of_getElem? (i := 188) rfl)) rfl
theorem tw_189 : (Jvm.Cond.soleField "NorthWheel$Script" "bytes") ∈ tblG := tg_of (tb_1 (List.mem_of_getElem? (i := 189) rfl)) rfl
theorem tw_190 : (Jvm.Cond.lays "NorthWheel$Script" "NorthWheel$Script" "length" "I") ∈ tblG := tg_of (tb_1 (List.mem_of_getElem? (i := 190) rfl)) rfl
theorem tw_191 : (Jvm.Cond.soleField "NorthWheel$Script" "length") ∈ tblG := tg_of (tb_1 (List.mem_of_getElem? (i := 191) rfl)) rfl
theorem tw_192 : (Jvm.Cond.laysFinal "NorthWheel$Script" "NorthWheel$Script" "numbers" "[I") ∈ tblG := tg_of (tb_1 (List.mem_of_getElem? (i := 192) rfl)) rfl
theorem tw_193 : (Jvm.Cond.soleField "NorthWheel$Script" "numbers") ∈ tblG := tg_of (tb_1 (List.mem_of_getElem? (i := 193) rfl)) rfl
theorem tw_194 : (Jvm.Cond.lays "NorthWheel$Script" "NorthWheel$Script" "lines" "I") ∈ tblG := tg_of (tb_1 (List.mem_of_getElem? (i := 194) rfl)) rfl
theorem tw_195 : (Jvm.Cond.soleField "NorthWheel$Script" "lines") ∈ tblG := tg_of (tb_1 (List.mem_of_getElem? (i := 195) rfl)) rfl
theorem tw_196 : (Jvm.Cond.superclass "NorthWheel$Script" "java/lang/Object") ∈ tblG := tg_of (tb_1 (List.mem_of_getElem? (i := 196) rfl)) rfl
theorem tw_197 : (Jvm.Cond.classLink "NorthWheel" (46 : Nat) "NorthWheel$Swings") ∈ tblG := tg_of (tb_1 (List.mem_of_getElem? (i := 197) rfl)) rfl
theorem tw_198 : (Jvm.Cond.instantiable "NorthWheel$Swings" (4 : Nat)) ∈ tblG := tg_of (tb_1 (List.mem_of_getElem? (i := 198) rfl)) rfl
theorem tn_199 : (Jvm.Cond.methodLinkNest "NorthWheel" (48 : Nat) ({ cls := "NorthWheel$Swings", name := "<init>", desc := "()V" } : Jvm.MethodName) "NorthWheel") ∈ tblN := tn_of (tb_1 (List.mem_of_getElem? (i := 199) rfl)) rfl
theorem tw_200 : (Jvm.Cond.instanceMethod ({ cls := "NorthWheel$Swings", name := "<init>", desc := "()V" } : Jvm.MethodName)) ∈ tblG := tg_of (tb_1 (List.mem_of_getElem? (i := 200) rfl)) rfl
theorem tw_201 : (Jvm.Cond.code ({ cls := "NorthWheel$Swings", name := "<init>", desc := "()V" } : Jvm.MethodName) prog_10_method_1_code (1 : Nat) (Option.none : Option Jvm.ClassFile.FieldType)) ∈ tblG := tg_of (tb_1 (List.mem_of_getElem? (i := 201) rfl)) rfl
theorem tw_202 : (Jvm.Cond.methodLink "NorthWheel$Swings" (3 : Nat) ({ cls := "java/lang/Object", name := "<init>", desc := "()V" } : Jvm.MethodName)) ∈ tblG := tg_of (tb_1 (List.mem_of_getElem? (i := 202) rfl)) rfl
theorem tw_203 : (Jvm.Cond.classLink "NorthWheel$Swings" (9 : Nat) "NorthWheel$Pointer") ∈ tblG := tg_of (tb_1 (List.mem_of_getElem? (i := 203) rfl)) rfl
theorem tn_204 : (Jvm.Cond.methodLinkNest "NorthWheel$Swings" (11 : Nat) ({ cls := "NorthWheel$Pointer", name := "<init>", desc := "()V" } : Jvm.MethodName) "NorthWheel") ∈ tblN := tn_of (tb_1 (List.mem_of_getElem? (i := 204) rfl)) rfl
theorem tw_205 : (Jvm.Cond.fieldLink "NorthWheel$Swings" (12 : Nat) "NorthWheel$Swings" "trial" "LNorthWheel$Pointer;") ∈ tblG := tg_of (tb_1 (List.mem_of_getElem? (i := 205) rfl)) rfl
theorem tw_206 : (Jvm.Cond.fieldLink "NorthWheel$Swings" (26 : Nat) "NorthWheel$Swings" "crosses" "I") ∈ tblG := tg_of (tb_1 (List.mem_of_getElem? (i := 206) rfl)) rfl
theorem tn_207 : (Jvm.Cond.fieldLinkNest "NorthWheel" (220 : Nat) "NorthWheel$Swings" "crosses" "I" "NorthWheel") ∈ tblN := tn_of (tb_1 (List.mem_of_getElem? (i := 207) rfl)) rfl
theorem tw_208 : (Jvm.Cond.fieldLink "NorthWheel$Swings" (30 : Nat) "NorthWheel$Swings" "beyond" "I") ∈ tblG := tg_of (tb_1 (List.mem_of_getElem? (i := 208) rfl)) rfl
theorem tn_209 : (Jvm.Cond.fieldLinkNest "NorthWheel" (226 : Nat) "NorthWheel$Swings" "beyond" "I" "NorthWheel") ∈ tblN := tn_of (tb_1 (List.mem_of_getElem? (i := 209) rfl)) rfl
theorem tw_210 : (Jvm.Cond.fieldLink "NorthWheel$Swings" (33 : Nat) "NorthWheel$Swings" "rests" "I") ∈ tblG := tg_of (tb_1 (List.mem_of_getElem? (i := 210) rfl)) rfl
theorem tn_211 : (Jvm.Cond.fieldLinkNest "NorthWheel" (223 : Nat) "NorthWheel$Swings" "rests" "I" "NorthWheel") ∈ tblN := tn_of (tb_1 (List.mem_of_getElem? (i := 211) rfl)) rfl
theorem tw_212 : (Jvm.Cond.laysFinal "NorthWheel$Swings" "NorthWheel$Swings" "trial" "LNorthWheel$Pointer;") ∈ tblG := tg_of (tb_1 (List.mem_of_getElem? (i := 212) rfl)) rfl
theorem tw_213 : (Jvm.Cond.soleField "NorthWheel$Swings" "trial") ∈ tblG := tg_of (tb_1 (List.mem_of_getElem? (i := 213) rfl)) rfl
theorem tw_214 : (Jvm.Cond.lays "NorthWheel$Swings" "NorthWheel$Swings" "crosses" "I") ∈ tblG := tg_of (tb_1 (List.mem_of_getElem? (i := 214) rfl)) rfl
theorem tw_215 : (Jvm.Cond.soleField "NorthWheel$Swings" "crosses") ∈ tblG := tg_of (tb_1 (List.mem_of_getElem? (i := 215) rfl)) rfl
theorem tw_216 : (Jvm.Cond.lays "NorthWheel$Swings" "NorthWheel$Swings" "beyond" "I") ∈ tblG := tg_of (tb_1 (List.mem_of_getElem? (i := 216) rfl)) rfl
theorem tw_217 : (Jvm.Cond.soleField "NorthWheel$Swings" "beyond") ∈ tblG := tg_of (tb_1 (List.mem_of_getElem? (i := 217) rfl)) rfl
theorem tw_218 : (Jvm.Cond.lays "NorthWheel$Swings" "NorthWheel$Swings" "rests" "I") ∈ tblG := tg_of (tb_1 (List.mem_of_getElem? (i := 218) rfl)) rfl
theorem tw_219 : (Jvm.Cond.soleField "NorthWheel$Swings" "rests") ∈ tblG := tg_of (tb_1 (List.mem_of_getElem? (i := 219) rfl)) rfl
theorem tw_220 : (Jvm.Cond.superclass "NorthWheel$Swings" "java/lang/Object") ∈ tblG := tg_of (tb_1 (List.mem_of_getElem? (i := 220) rfl)) rfl
theorem tw_221 : (Jvm.Cond.classLink "NorthWheel" (53 : Nat) "NorthWheel$Keeping") ∈ tblG := tg_of (tb_1 (List.mem_of_getElem? (i := 221) rfl)) rfl
theorem tw_222 : (Jvm.Cond.instantiable "NorthWheel$Keeping" (4 : Nat)) ∈ tblG := tg_of (tb_1 (List.mem_of_getElem? (i := 222) rfl)) rfl
theorem tn_223 : (Jvm.Cond.methodLinkNest "NorthWheel" (55 : Nat) ({ cls := "NorthWheel$Keeping", name := "<init>", desc := "(LNorthWheel$Ship;LNorthWheel$Helm;)V" } : Jvm.MethodName) "NorthWheel") ∈ tblN := tn_of (tb_1 (List.mem_of_getElem? (i := 223) rfl)) rfl
theorem tw_224 : (Jvm.Cond.instanceMethod ({ cls := "NorthWheel$Keeping", name := "<init>", desc := "(LNorthWheel$Ship;LNorthWheel$Helm;)V" } : Jvm.MethodName)) ∈ tblG := tg_of (tb_1 (List.mem_of_getElem? (i := 224) rfl)) rfl
theorem tw_225 : (Jvm.Cond.code ({ cls := "NorthWheel$Keeping", name := "<init>", desc := "(LNorthWheel$Ship;LNorthWheel$Helm;)V" } : Jvm.MethodName) prog_3_method_1_code (3 : Nat) (Option.none : Option Jvm.ClassFile.FieldType)) ∈ tblG := tg_of (tb_1 (List.mem_of_getElem? (i := 225) rfl)) rfl
theorem tw_226 : (Jvm.Cond.methodLink "NorthWheel$Keeping" (1 : Nat) ({ cls := "java/lang/Object", name := "<init>", desc := "()V" } : Jvm.MethodName)) ∈ tblG := tg_of (tb_1 (List.mem_of_getElem? (i := 226) rfl)) rfl
theorem tw_227 : (Jvm.Cond.fieldLink "NorthWheel$Keeping" (7 : Nat) "NorthWheel$Keeping" "ship" "LNorthWheel$Ship;") ∈ tblG := tg_of (tb_1 (List.mem_of_getElem? (i := 227) rfl)) rfl
theorem tw_228 : (Jvm.Cond.fieldLink "NorthWheel$Keeping" (13 : Nat) "NorthWheel$Keeping" "helm" "LNorthWheel$Helm;") ∈ tblG := tg_of (tb_1 (List.mem_of_getElem? (i := 228) rfl)) rfl
theorem tw_229 : (Jvm.Cond.fieldLink "NorthWheel$Keeping" (36 : Nat) "NorthWheel$Keeping" "worst" "I") ∈ tblG := tg_of (tb_1 (List.mem_of_getElem? (i := 229) rfl)) rfl
theorem tn_230 : (Jvm.Cond.fieldLinkNest "NorthWheel" (254 : Nat) "NorthWheel$Keeping" "worst" "I" "NorthWheel") ∈ tblN := tn_of (tb_1 (List.mem_of_getElem? (i := 230) rfl)) rfl
theorem tw_231 : (Jvm.Cond.fieldLink "NorthWheel$Keeping" (40 : Nat) "NorthWheel$Keeping" "dear" "I") ∈ tblG := tg_of (tb_1 (List.mem_of_getElem? (i := 231) rfl)) rfl
theorem tn_232 : (Jvm.Cond.fieldLinkNest "NorthWheel" (257 : Nat) "NorthWheel$Keeping" "dear" "I" "NorthWheel") ∈ tblN := tn_of (tb_1 (List.mem_of_getElem? (i := 232) rfl)) rfl
theorem tw_233 : (Jvm.Cond.laysFinal "NorthWheel$Keeping" "NorthWheel$Keeping" "ship" "LNorthWheel$Ship;") ∈ tblG := tg_of (tb_1 (List.mem_of_getElem? (i := 233) rfl)) rfl
theorem tw_234 : (Jvm.Cond.soleField "NorthWheel$Keeping" "ship") ∈ tblG := tg_of (tb_1 (List.mem_of_getElem? (i := 234) rfl)) rfl
theorem tw_235 : (Jvm.Cond.laysFinal "NorthWheel$Keeping" "NorthWheel$Keeping" "helm" "LNorthWheel$Helm;") ∈ tblG := tg_of (tb_1 (List.mem_of_getElem? (i := 235) rfl)) rfl
theorem tw_236 : (Jvm.Cond.soleField "NorthWheel$Keeping" "helm") ∈ tblG := tg_of (tb_1 (List.mem_of_getElem? (i := 236) rfl)) rfl
theorem tw_237 : (Jvm.Cond.lays "NorthWheel$Keeping" "NorthWheel$Keeping" "worst" "I") ∈ tblG := tg_of (tb_1 (List.mem_of_getElem? (i := 237) rfl)) rfl
theorem tw_238 : (Jvm.Cond.soleField "NorthWheel$Keeping" "worst") ∈ tblG := tg_of (tb_1 (List.mem_of_getElem? (i := 238) rfl)) rfl
theorem tw_239 : (Jvm.Cond.lays "NorthWheel$Keeping" "NorthWheel$Keeping" "dear" "I") ∈ tblG := tg_of (tb_1 (List.mem_of_getElem? (i := 239) rfl)) rfl
theorem tw_240 : (Jvm.Cond.soleField "NorthWheel$Keeping" "dear") ∈ tblG := tg_of (tb_2 (List.mem_of_getElem? (i := 0) rfl)) rfl
theorem tw_241 : (Jvm.Cond.superclass "NorthWheel$Keeping" "java/lang/Object") ∈ tblG := tg_of (tb_2 (List.mem_of_getElem? (i := 1) rfl)) rfl
theorem tw_242 : (Jvm.Cond.classLink "NorthWheel" (62 : Nat) "NorthWheel$Looks") ∈ tblG := tg_of (tb_2 (List.mem_of_getElem? (i := 2) rfl)) rfl
theorem tw_243 : (Jvm.Cond.instantiable "NorthWheel$Looks" (2 : Nat)) ∈ tblG := tg_of (tb_2 (List.mem_of_getElem? (i := 3) rfl)) rfl
theorem tn_244 : (Jvm.Cond.methodLinkNest "NorthWheel" (64 : Nat) ({ cls := "NorthWheel$Looks", name := "<init>", desc := "()V" } : Jvm.MethodName) "NorthWheel") ∈ tblN := tn_of (tb_2 (List.mem_of_getElem? (i := 4) rfl)) rfl
theorem tw_245 : (Jvm.Cond.instanceMethod ({ cls := "NorthWheel$Looks", name := "<init>", desc := "()V" } : Jvm.MethodName)) ∈ tblG := tg_of (tb_2 (List.mem_of_getElem? (i := 5) rfl)) rfl
theorem tw_246 : (Jvm.Cond.code ({ cls := "NorthWheel$Looks", name := "<init>", desc := "()V" } : Jvm.MethodName) prog_4_method_1_code (1 : Nat) (Option.none : Option Jvm.ClassFile.FieldType)) ∈ tblG := tg_of (tb_2 (List.mem_of_getElem? (i := 6) rfl)) rfl
theorem tw_247 : (Jvm.Cond.methodLink "NorthWheel$Looks" (3 : Nat) ({ cls := "java/lang/Object", name := "<init>", desc := "()V" } : Jvm.MethodName)) ∈ tblG := tg_of (tb_2 (List.mem_of_getElem? (i := 7) rfl)) rfl
theorem tw_248 : (Jvm.Cond.fieldLink "NorthWheel$Looks" (11 : Nat) "NorthWheel$Looks" "shown" "[I") ∈ tblG := tg_of (tb_2 (List.mem_of_getElem? (i := 8) rfl)) rfl
theorem tw_249 : (Jvm.Cond.fieldLink "NorthWheel$Looks" (15 : Nat) "NorthWheel$Looks" "size" "I") ∈ tblG := tg_of (tb_2 (List.mem_of_getElem? (i := 9) rfl)) rfl
theorem tn_250 : (Jvm.Cond.fieldLinkNest "NorthWheel" (292 : Nat) "NorthWheel$Looks" "size" "I" "NorthWheel") ∈ tblN := tn_of (tb_2 (List.mem_of_getElem? (i := 10) rfl)) rfl
theorem tw_251 : (Jvm.Cond.laysFinal "NorthWheel$Looks" "NorthWheel$Looks" "shown" "[I") ∈ tblG := tg_of (tb_2 (List.mem_of_getElem? (i := 11) rfl)) rfl
theorem tw_252 : (Jvm.Cond.soleField "NorthWheel$Looks" "shown") ∈ tblG := tg_of (tb_2 (List.mem_of_getElem? (i := 12) rfl)) rfl
theorem tw_253 : (Jvm.Cond.lays "NorthWheel$Looks" "NorthWheel$Looks" "size" "I") ∈ tblG := tg_of (tb_2 (List.mem_of_getElem? (i := 13) rfl)) rfl
theorem tw_254 : (Jvm.Cond.soleField "NorthWheel$Looks" "size") ∈ tblG := tg_of (tb_2 (List.mem_of_getElem? (i := 14) rfl)) rfl
theorem tw_255 : (Jvm.Cond.superclass "NorthWheel$Looks" "java/lang/Object") ∈ tblG := tg_of (tb_2 (List.mem_of_getElem? (i := 15) rfl)) rfl
theorem tw_256 : (Jvm.Cond.classLink "NorthWheel" (69 : Nat) "NorthWheel$TurnedAbout") ∈ tblG := tg_of (tb_2 (List.mem_of_getElem? (i := 16) rfl)) rfl
theorem tw_257 : (Jvm.Cond.instantiable "NorthWheel$TurnedAbout" (4 : Nat)) ∈ tblG := tg_of (tb_2 (List.mem_of_getElem? (i := 17) rfl)) rfl
theorem tn_258 : (Jvm.Cond.methodLinkNest "NorthWheel" (71 : Nat) ({ cls := "NorthWheel$TurnedAbout", name := "<init>", desc := "()V" } : Jvm.MethodName) "NorthWheel") ∈ tblN := tn_of (tb_2 (List.mem_of_getElem? (i := 18) rfl)) rfl
theorem tw_259 : (Jvm.Cond.instanceMethod ({ cls := "NorthWheel$TurnedAbout", name := "<init>", desc := "()V" } : Jvm.MethodName)) ∈ tblG := tg_of (tb_2 (List.mem_of_getElem? (i := 19) rfl)) rfl
theorem tw_260 : (Jvm.Cond.code ({ cls := "NorthWheel$TurnedAbout", name := "<init>", desc := "()V" } : Jvm.MethodName) prog_11_method_1_code (1 : Nat) (Option.none : Option Jvm.ClassFile.FieldType)) ∈ tblG := tg_of (tb_2 (List.mem_of_getElem? (i := 20) rfl)) rfl
theorem tw_261 : (Jvm.Cond.methodLink "NorthWheel$TurnedAbout" (3 : Nat) ({ cls := "java/lang/Object", name := "<init>", desc := "()V" } : Jvm.MethodName)) ∈ tblG := tg_of (tb_2 (List.mem_of_getElem? (i := 21) rfl)) rfl
theorem tw_262 : (Jvm.Cond.fieldLink "NorthWheel$TurnedAbout" (9 : Nat) "NorthWheel$TurnedAbout" "sizes" "[I") ∈ tblG := tg_of (tb_2 (List.mem_of_getElem? (i := 22) rfl)) rfl
theorem tn_263 : (Jvm.Cond.fieldLinkNest "NorthWheel" (270 : Nat) "NorthWheel$TurnedAbout" "sizes" "[I" "NorthWheel") ∈ tblN := tn_of (tb_2 (List.mem_of_getElem? (i := 23) rfl)) rfl
theorem tw_264 : (Jvm.Cond.fieldLink "NorthWheel$TurnedAbout" (15 : Nat) "NorthWheel$TurnedAbout" "least" "[I") ∈ tblG := tg_of (tb_2 (List.mem_of_getElem? (i := 24) rfl)) rfl
theorem tn_265 : (Jvm.Cond.fieldLinkNest "NorthWheel" (273 : Nat) "NorthWheel$TurnedAbout" "least" "[I" "NorthWheel") ∈ tblN := tn_of (tb_2 (List.mem_of_getElem? (i := 25) rfl)) rfl
theorem tw_266 : (Jvm.Cond.fieldLink "NorthWheel$TurnedAbout" (18 : Nat) "NorthWheel$TurnedAbout" "greatest" "[I") ∈ tblG := tg_of (tb_2 (List.mem_of_getElem? (i := 26) rfl)) rfl
theorem tn_267 : (Jvm.Cond.fieldLinkNest "NorthWheel" (276 : Nat) "NorthWheel$TurnedAbout" "greatest" "[I" "NorthWheel") ∈ tblN := tn_of (tb_2 (List.mem_of_getElem? (i := 27) rfl)) rfl
theorem tw_268 : (Jvm.Cond.fieldLink "NorthWheel$TurnedAbout" (21 : Nat) "NorthWheel$TurnedAbout" "size" "I") ∈ tblG := tg_of (tb_2 (List.mem_of_getElem? (i := 28) rfl)) rfl
theorem tn_269 : (Jvm.Cond.fieldLinkNest "NorthWheel" (293 : Nat) "NorthWheel$TurnedAbout" "size" "I" "NorthWheel") ∈ tblN := tn_of (tb_2 (List.mem_of_getElem? (i := 29) rfl)) rfl
theorem tw_270 : (Jvm.Cond.laysFinal "NorthWheel$TurnedAbout" "NorthWheel$TurnedAbout" "sizes" "[I") ∈ tblG := tg_of (tb_2 (List.mem_of_getElem? (i := 30) rfl)) rfl
theorem tw_271 : (Jvm.Cond.soleField "NorthWheel$TurnedAbout" "sizes") ∈ tblG := tg_of (tb_2 (List.mem_of_getElem? (i := 31) rfl)) rfl
theorem tw_272 : (Jvm.Cond.laysFinal "NorthWheel$TurnedAbout" "NorthWheel$TurnedAbout" "least" "[I") ∈ tblG := tg_of (tb_2 (List.mem_of_getElem? (i := 32) rfl)) rfl
theorem tw_273 : (Jvm.Cond.soleField "NorthWheel$TurnedAbout" "least") ∈ tblG := tg_of (tb_2 (List.mem_of_getElem? (i := 33) rfl)) rfl
theorem tw_274 : (Jvm.Cond.laysFinal "NorthWheel$TurnedAbout" "NorthWheel$TurnedAbout" "greatest" "[I") ∈ tblG := tg_of (tb_2 (List.mem_of_getElem? (i := 34) rfl)) rfl
theorem tw_275 : (Jvm.Cond.soleField "NorthWheel$TurnedAbout" "greatest") ∈ tblG := tg_of (tb_2 (List.mem_of_getElem? (i := 35) rfl)) rfl
theorem tw_276 : (Jvm.Cond.lays "NorthWheel$TurnedAbout" "NorthWheel$TurnedAbout" "size" "I") ∈ tblG := tg_of (tb_2 (List.mem_of_getElem? (i := 36) rfl)) rfl
theorem tw_277 : (Jvm.Cond.soleField "NorthWheel$TurnedAbout" "size") ∈ tblG := tg_of (tb_2 (List.mem_of_getElem? (i := 37) rfl)) rfl
theorem tw_278 : (Jvm.Cond.superclass "NorthWheel$TurnedAbout" "java/lang/Object") ∈ tblG := tg_of (tb_2 (List.mem_of_getElem? (i := 38) rfl)) rfl
theorem tw_279 : (Jvm.Cond.classLink "NorthWheel" (76 : Nat) "NorthWheel$Watched") ∈ tblG := tg_of (tb_2 (List.mem_of_getElem? (i := 39) rfl)) rfl
theorem tw_280 : (Jvm.Cond.instantiable "NorthWheel$Watched" (9 : Nat)) ∈ tblG := tg_of (tb_2 (List.mem_of_getElem? (i := 40) rfl)) rfl
theorem tn_281 : (Jvm.Cond.methodLinkNest "NorthWheel" (78 : Nat) ({ cls := "NorthWheel$Watched", name := "<init>", desc := "()V" } : Jvm.MethodName) "NorthWheel") ∈ tblN := tn_of (tb_2 (List.mem_of_getElem? (i := 41) rfl)) rfl
theorem tw_282 : (Jvm.Cond.instanceMethod ({ cls := "NorthWheel$Watched", name := "<init>", desc := "()V" } : Jvm.MethodName)) ∈ tblG := tg_of (tb_2 (List.mem_of_getElem? (i := 42) rfl)) rfl
theorem tw_283 : (Jvm.Cond.code ({ cls := "NorthWheel$Watched", name := "<init>", desc := "()V" } : Jvm.MethodName) prog_12_method_1_code (1 : Nat) (Option.none : Option Jvm.ClassFile.FieldType)) ∈ tblG := tg_of (tb_2 (List.mem_of_getElem? (i := 43) rfl)) rfl
theorem tw_284 : (Jvm.Cond.methodLink "NorthWheel$Watched" (3 : Nat) ({ cls := "java/lang/Object", name := "<init>", desc := "()V" } : Jvm.MethodName)) ∈ tblG := tg_of (tb_2 (List.mem_of_getElem? (i := 44) rfl)) rfl
theorem tw_285 : (Jvm.Cond.classLink "NorthWheel$Watched" (18 : Nat) "NorthWheel$Pointer") ∈ tblG := tg_of (tb_2 (List.mem_of_getElem? (i := 45) rfl)) rfl
theorem tn_286 : (Jvm.Cond.methodLinkNest "NorthWheel$Watched" (20 : Nat) ({ cls := "NorthWheel$Pointer", name := "<init>", desc := "()V" } : Jvm.MethodName) "NorthWheel") ∈ tblN := tn_of (tb_2 (List.mem_of_getElem? (i := 46) rfl)) rfl
theorem tw_287 : (Jvm.Cond.fieldLink "NorthWheel$Watched" (11 : Nat) "NorthWheel$Watched" "ticks" "[I") ∈ tblG := tg_of (tb_2 (List.mem_of_getElem? (i := 47) rfl)) rfl
theorem tw_288 : (Jvm.Cond.fieldLink "NorthWheel$Watched" (15 : Nat) "NorthWheel$Watched" "offs" "[I") ∈ tblG := tg_of (tb_2 (List.mem_of_getElem? (i := 48) rfl)) rfl
theorem tw_289 : (Jvm.Cond.fieldLink "NorthWheel$Watched" (34 : Nat) "NorthWheel$Watched" "size" "I") ∈ tblG := tg_of (tb_2 (List.mem_of_getElem? (i := 49) rfl)) rfl
theorem tn_290 : (Jvm.Cond.fieldLinkNest "NorthWheel" (294 : Nat) "NorthWheel$Watched" "size" "I" "NorthWheel") ∈ tblN := tn_of (tb_2 (List.mem_of_getElem? (i := 50) rfl)) rfl
theorem tw_291 : (Jvm.Cond.fieldLink "NorthWheel$Watched" (21 : Nat) "NorthWheel$Watched" "trial" "LNorthWheel$Pointer;") ∈ tblG := tg_of (tb_2 (List.mem_of_getElem? (i := 51) rfl)) rfl
theorem tw_292 : (Jvm.Cond.fieldLink "NorthWheel$Watched" (25 : Nat) "NorthWheel$Watched" "path" "[I") ∈ tblG := tg_of (tb_2 (List.mem_of_getElem? (i := 52) rfl)) rfl
theorem tw_293 : (Jvm.Cond.fieldLink "NorthWheel$Watched" (28 : Nat) "NorthWheel$Watched" "least" "[I") ∈ tblG := tg_of (tb_2 (List.mem_of_getElem? (i := 53) rfl)) rfl
theorem tw_294 : (Jvm.Cond.fieldLink "NorthWheel$Watched" (31 : Nat) "NorthWheel$Watched" "greatest" "[I") ∈ tblG := tg_of (tb_2 (List.mem_of_getElem? (i := 54) rfl)) rfl
theorem tw_295 : (Jvm.Cond.fieldLink "NorthWheel$Watched" (38 : Nat) "NorthWheel$Watched" "fitting" "I") ∈ tblG := tg_of (tb_2 (List.mem_of_getElem? (i := 55) rfl)) rfl
theorem tn_296 : (Jvm.Cond.fieldLinkNest "NorthWheel" (283 : Nat) "NorthWheel$Watched" "fitting" "I" "NorthWheel") ∈ tblN := tn_of (tb_2 (List.mem_of_getElem? (i := 56) rfl)) rfl
theorem tw_297 : (Jvm.Cond.fieldLink "NorthWheel$Watched" (41 : Nat) "NorthWheel$Watched" "first" "I") ∈ tblG := tg_of (tb_2 (List.mem_of_getElem? (i := 57) rfl)) rfl
theorem tn_298 : (Jvm.Cond.fieldLinkNest "NorthWheel" (286 : Nat) "NorthWheel$Watched" "first" "I" "NorthWheel") ∈ tblN := tn_of (tb_2 (List.mem_of_getElem? (i := 58) rfl)) rfl
theorem tw_299 : (Jvm.Cond.laysFinal "NorthWheel$Watched" "NorthWheel$Watched" "ticks" "[I") ∈ tblG := tg_of (tb_2 (List.mem_of_getElem? (i := 59) rfl)) rfl
theorem tw_300 : (Jvm.Cond.soleField "NorthWheel$Watched" "ticks") ∈ tblG := tg_of (tb_2 (List.mem_of_getElem? (i := 60) rfl)) rfl
theorem tw_301 : (Jvm.Cond.laysFinal "NorthWheel$Watched" "NorthWheel$Watched" "offs" "[I") ∈ tblG := tg_of (tb_2 (List.mem_of_getElem? (i := 61) rfl)) rfl
theorem tw_302 : (Jvm.Cond.soleField "NorthWheel$Watched" "offs") ∈ tblG := tg_of (tb_2 (List.mem_of_getElem? (i := 62) rfl)) rfl
theorem tw_303 : (Jvm.Cond.lays "NorthWheel$Watched" "NorthWheel$Watched" "size" "I") ∈ tblG := tg_of (tb_2 (List.mem_of_getElem? (i := 63) rfl)) rfl
theorem tw_304 : (Jvm.Cond.soleField "NorthWheel$Watched" "size") ∈ tblG := tg_of (tb_2 (List.mem_of_getElem? (i := 64) rfl)) rfl
theorem tw_305 : (Jvm.Cond.laysFinal "NorthWheel$Watched" "NorthWheel$Watched" "trial" "LNorthWheel$Pointer;") ∈ tblG := tg_of (tb_2 (List.mem_of_getElem? (i := 65) rfl)) rfl
theorem tw_306 : (Jvm.Cond.soleField "NorthWheel$Watched" "trial") ∈ tblG := tg_of (tb_2 (List.mem_of_getElem? (i := 66) rfl)) rfl
theorem tw_307 : (Jvm.Cond.laysFinal "NorthWheel$Watched" "NorthWheel$Watched" "path" "[I") ∈ tblG := tg_of (tb_2 (List.mem_of_getElem? (i := 67) rfl)) rfl
theorem tw_308 : (Jvm.Cond.soleField "NorthWheel$Watched" "path") ∈ tblG := tg_of (tb_2 (List.mem_of_getElem? (i := 68) rfl)) rfl
theorem tw_309 : (Jvm.Cond.laysFinal "NorthWheel$Watched" "NorthWheel$Watched" "least" "[I") ∈ tblG := tg_of (tb_2 (List.mem_of_getElem? (i := 69) rfl)) rfl
theorem tw_310 : (Jvm.Cond.soleField "NorthWheel$Watched" "least") ∈ tblG := tg_of (tb_2 (List.mem_of_getElem? (i := 70) rfl)) rfl
theorem tw_311 : (Jvm.Cond.laysFinal "NorthWheel$Watched" "NorthWheel$Watched" "greatest" "[I") ∈ tblG := tg_of (tb_2 (List.mem_of_getElem? (i := 71) rfl)) rfl
theorem tw_312 : (Jvm.Cond.soleField "NorthWheel$Watched" "greatest") ∈ tblG := tg_of (tb_2 (List.mem_of_getElem? (i := 72) rfl)) rfl
theorem tw_313 : (Jvm.Cond.lays "NorthWheel$Watched" "NorthWheel$Watched" "fitting" "I") ∈ tblG := tg_of (tb_2 (List.mem_of_getElem? (i := 73) rfl)) rfl
theorem tw_314 : (Jvm.Cond.soleField "NorthWheel$Watched" "fitting") ∈ tblG := tg_of (tb_2 (List.mem_of_getElem? (i := 74) rfl)) rfl
theorem tw_315 : (Jvm.Cond.lays "NorthWheel$Watched" "NorthWheel$Watched" "first" "I") ∈ tblG := tg_of (tb_2 (List.mem_of_getElem? (i := 75) rfl)) rfl
theorem tw_316 : (Jvm.Cond.soleField "NorthWheel$Watched" "first") ∈ tblG := tg_of (tb_2 (List.mem_of_getElem? (i := 76) rfl)) rfl
theorem tw_317 : (Jvm.Cond.superclass "NorthWheel$Watched" "java/lang/Object") ∈ tblG := tg_of (tb_2 (List.mem_of_getElem? (i := 77) rfl)) rfl
theorem tw_318 : (Jvm.Cond.fieldLink "NorthWheel" (10 : Nat) "NorthWheel" "seas" "LNorthWheel$Seas;") ∈ tblG := tg_of (tb_2 (List.mem_of_getElem? (i := 78) rfl)) rfl
theorem tw_319 : (Jvm.Cond.fieldLink "NorthWheel" (19 : Nat) "NorthWheel" "needles" "LNorthWheel$Needles;") ∈ tblG := tg_of (tb_2 (List.mem_of_getElem? (i := 79) rfl)) rfl
theorem tw_320 : (Jvm.Cond.fieldLink "NorthWheel" (28 : Nat) "NorthWheel" "ship" "LNorthWheel$Ship;") ∈ tblG := tg_of (tb_2 (List.mem_of_getElem? (i := 80) rfl)) rfl
theorem tw_321 : (Jvm.Cond.fieldLink "NorthWheel" (35 : Nat) "NorthWheel" "helm" "LNorthWheel$Helm;") ∈ tblG := tg_of (tb_2 (List.mem_of_getElem? (i := 81) rfl)) rfl
theorem tw_322 : (Jvm.Cond.fieldLink "NorthWheel" (42 : Nat) "NorthWheel" "script" "LNorthWheel$Script;") ∈ tblG := tg_of (tb_2 (List.mem_of_getElem? (i := 82) rfl)) rfl
theorem tw_323 : (Jvm.Cond.fieldLink "NorthWheel" (49 : Nat) "NorthWheel" "swings" "LNorthWheel$Swings;") ∈ tblG := tg_of (tb_2 (List.mem_of_getElem? (i := 83) rfl)) rfl
theorem tw_324 : (Jvm.Cond.fieldLink "NorthWheel" (58 : Nat) "NorthWheel" "keeping" "LNorthWheel$Keeping;") ∈ tblG := tg_of (tb_2 (List.mem_of_getElem? (i := 84) rfl)) rfl
theorem tw_325 : (Jvm.Cond.fieldLink "NorthWheel" (65 : Nat) "NorthWheel" "looks" "LNorthWheel$Looks;") ∈ tblG := tg_of (tb_2 (List.mem_of_getElem? (i := 85) rfl)) rfl
theorem tw_326 : (Jvm.Cond.fieldLink "NorthWheel" (72 : Nat) "NorthWheel" "turnedAbout" "LNorthWheel$TurnedAbout;") ∈ tblG := tg_of (tb_2 (List.mem_of_getElem? (i := 86) rfl)) rfl
theorem tw_327 : (Jvm.Cond.fieldLink "NorthWheel" (79 : Nat) "NorthWheel" "watched" "LNorthWheel$Watched;") ∈ tblG := tg_of (tb_2 (List.mem_of_getElem? (i := 87) rfl)) rfl
theorem tw_328 : (Jvm.Cond.laysFinal "NorthWheel" "NorthWheel" "seas" "LNorthWheel$Seas;") ∈ tblG := tg_of (tb_2 (List.mem_of_getElem? (i := 88) rfl)) rfl
theorem tw_329 : (Jvm.Cond.soleField "NorthWheel" "seas") ∈ tblG := tg_of (tb_2 (List.mem_of_getElem? (i := 89) rfl)) rfl
theorem tw_330 : (Jvm.Cond.laysFinal "NorthWheel" "NorthWheel" "needles" "LNorthWheel$Needles;") ∈ tblG := tg_of (tb_2 (List.mem_of_getElem? (i := 90) rfl)) rfl
theorem tw_331 : (Jvm.Cond.soleField "NorthWheel" "needles") ∈ tblG := tg_of (tb_2 (List.mem_of_getElem? (i := 91) rfl)) rfl
theorem tw_332 : (Jvm.Cond.laysFinal "NorthWheel" "NorthWheel" "ship" "LNorthWheel$Ship;") ∈ tblG := tg_of (tb_2 (List.mem_of_getElem? (i := 92) rfl)) rfl
theorem tw_333 : (Jvm.Cond.soleField "NorthWheel" "ship") ∈ tblG := tg_of (tb_2 (List.mem_of_getElem? (i := 93) rfl)) rfl
theorem tw_334 : (Jvm.Cond.laysFinal "NorthWheel" "NorthWheel" "helm" "LNorthWheel$Helm;") ∈ tblG := tg_of (tb_2 (List.mem_of_getElem? (i := 94) rfl)) rfl
theorem tw_335 : (Jvm.Cond.soleField "NorthWheel" "helm") ∈ tblG := tg_of (tb_2 (List.mem_of_getElem? (i := 95) rfl)) rfl
theorem tw_336 : (Jvm.Cond.laysFinal "NorthWheel" "NorthWheel" "script" "LNorthWheel$Script;") ∈ tblG := tg_of (tb_2 (List.mem_of_getElem? (i := 96) rfl)) rfl
theorem tw_337 : (Jvm.Cond.soleField "NorthWheel" "script") ∈ tblG := tg_of (tb_2 (List.mem_of_getElem? (i := 97) rfl)) rfl
theorem tw_338 : (Jvm.Cond.laysFinal "NorthWheel" "NorthWheel" "swings" "LNorthWheel$Swings;") ∈ tblG := tg_of (tb_2 (List.mem_of_getElem? (i := 98) rfl)) rfl
theorem tw_339 : (Jvm.Cond.soleField "NorthWheel" "swings") ∈ tblG := tg_of (tb_2 (List.mem_of_getElem? (i := 99) rfl)) rfl
theorem tw_340 : (Jvm.Cond.laysFinal "NorthWheel" "NorthWheel" "keeping" "LNorthWheel$Keeping;") ∈ tblG := tg_of (tb_2 (List.mem_of_getElem? (i := 100) rfl)) rfl
theorem tw_341 : (Jvm.Cond.soleField "NorthWheel" "keeping") ∈ tblG := tg_of (tb_2 (List.mem_of_getElem? (i := 101) rfl)) rfl
theorem tw_342 : (Jvm.Cond.laysFinal "NorthWheel" "NorthWheel" "looks" "LNorthWheel$Looks;") ∈ tblG := tg_of (tb_2 (List.mem_of_getElem? (i := 102) rfl)) rfl
theorem tw_343 : (Jvm.Cond.soleField "NorthWheel" "looks") ∈ tblG := tg_of (tb_2 (List.mem_of_getElem? (i := 103) rfl)) rfl
theorem tw_344 : (Jvm.Cond.laysFinal "NorthWheel" "NorthWheel" "turnedAbout" "LNorthWheel$TurnedAbout;") ∈ tblG := tg_of (tb_2 (List.mem_of_getElem? (i := 104) rfl)) rfl
theorem tw_345 : (Jvm.Cond.soleField "NorthWheel" "turnedAbout") ∈ tblG := tg_of (tb_2 (List.mem_of_getElem? (i := 105) rfl)) rfl
theorem tw_346 : (Jvm.Cond.laysFinal "NorthWheel" "NorthWheel" "watched" "LNorthWheel$Watched;") ∈ tblG := tg_of (tb_2 (List.mem_of_getElem? (i := 106) rfl)) rfl
theorem tw_347 : (Jvm.Cond.soleField "NorthWheel" "watched") ∈ tblG := tg_of (tb_2 (List.mem_of_getElem? (i := 107) rfl)) rfl
theorem tw_348 : (Jvm.Cond.superclass "NorthWheel" "java/lang/Object") ∈ tblG := tg_of (tb_2 (List.mem_of_getElem? (i := 108) rfl)) rfl
theorem tw_349 : (Jvm.Cond.methodLink "NorthWheelLaw" (13 : Nat) ({ cls := "NorthWheel", name := "set", desc := "(II)I" } : Jvm.MethodName)) ∈ tblG := tg_of (tb_2 (List.mem_of_getElem? (i := 109) rfl)) rfl
theorem tw_350 : (Jvm.Cond.instanceMethod ({ cls := "NorthWheel", name := "set", desc := "(II)I" } : Jvm.MethodName)) ∈ tblG := tg_of (tb_2 (List.mem_of_getElem? (i := 110) rfl)) rfl
theorem tw_351 : (Jvm.Cond.selects "NorthWheel" ({ cls := "NorthWheel", name := "set", desc := "(II)I" } : Jvm.MethodName) ({ cls := "NorthWheel", name := "set", desc := "(II)I" } : Jvm.MethodName)) ∈ tblG := tg_of (tb_2 (List.mem_of_getElem? (i := 111) rfl)) rfl
theorem tw_352 : (Jvm.Cond.code ({ cls := "NorthWheel", name := "set", desc := "(II)I" } : Jvm.MethodName) prog_1_method_2_code (4 : Nat) (Option.some Jvm.ClassFile.FieldType.int)) ∈ tblG := tg_of (tb_2 (List.mem_of_getElem? (i := 112) rfl)) rfl
theorem tw_353 : (Jvm.Cond.methodLink "NorthWheel" (83 : Nat) ({ cls := "NorthWheel", name := "isPlace", desc := "(I)Z" } : Jvm.MethodName)) ∈ tblG := tg_of (tb_2 (List.mem_of_getElem? (i := 113) rfl)) rfl
theorem tw_354 : (Jvm.Cond.static ({ cls := "NorthWheel", name := "isPlace", desc := "(I)Z" } : Jvm.MethodName)) ∈ tblG := tg_of (tb_2 (List.mem_of_getElem? (i := 114) rfl)) rfl
theorem tw_355 : (Jvm.Cond.code ({ cls := "NorthWheel", name := "isPlace", desc := "(I)Z" } : Jvm.MethodName) prog_1_method_38_code (1 : Nat) (Option.some Jvm.ClassFile.FieldType.boolean)) ∈ tblG := tg_of (tb_2 (List.mem_of_getElem? (i := 115) rfl)) rfl
theorem tw_356 : (Jvm.Cond.methodLink "NorthWheel" (97 : Nat) ({ cls := "NorthWheel", name := "isWithin", desc := "(III)Z" } : Jvm.MethodName)) ∈ tblG := tg_of (tb_2 (List.mem_of_getElem? (i := 116) rfl)) rfl
theorem tw_357 : (Jvm.Cond.static ({ cls := "NorthWheel", name := "isWithin", desc := "(III)Z" } : Jvm.MethodName)) ∈ tblG := tg_of (tb_2 (List.mem_of_getElem? (i := 117) rfl)) rfl
theorem tw_358 : (Jvm.Cond.code ({ cls := "NorthWheel", name := "isWithin", desc := "(III)Z" } : Jvm.MethodName) prog_1_method_35_code (3 : Nat) (Option.some Jvm.ClassFile.FieldType.boolean)) ∈ tblG := tg_of (tb_2 (List.mem_of_getElem? (i := 118) rfl)) rfl
theorem tw_359 : (Jvm.Cond.methodLink "NorthWheel" (91 : Nat) ({ cls := "NorthWheel", name := "isSpeed", desc := "(I)Z" } : Jvm.MethodName)) ∈ tblG := tg_of (tb_2 (List.mem_of_getElem? (i := 119) rfl)) rfl
theorem tw_360 : (Jvm.Cond.static ({ cls := "NorthWheel", name := "isSpeed", desc := "(I)Z" } : Jvm.MethodName)) ∈ tblG := tg_of (tb_2 (List.mem_of_getElem? (i := 120) rfl)) rfl
theorem tw_361 : (Jvm.Cond.code ({ cls := "NorthWheel", name := "isSpeed", desc := "(I)Z" } : Jvm.MethodName) prog_1_method_39_code (1 : Nat) (Option.some Jvm.ClassFile.FieldType.boolean)) ∈ tblG := tg_of (tb_2 (List.mem_of_getElem? (i := 121) rfl)) rfl
theorem tw_362 : (Jvm.Cond.methodLink "NorthWheelLaw" (18 : Nat) ({ cls := "NorthWheel", name := "head", desc := "(I)I" } : Jvm.MethodName)) ∈ tblG := tg_of (tb_2 (List.mem_of_getElem? (i := 122) rfl)) rfl
theorem tw_363 : (Jvm.Cond.instanceMethod ({ cls := "NorthWheel", name := "head", desc := "(I)I" } : Jvm.MethodName)) ∈ tblG := tg_of (tb_2 (List.mem_of_getElem? (i := 123) rfl)) rfl
theorem tw_364 : (Jvm.Cond.selects "NorthWheel" ({ cls := "NorthWheel", name := "head", desc := "(I)I" } : Jvm.MethodName) ({ cls := "NorthWheel", name := "head", desc := "(I)I" } : Jvm.MethodName)) ∈ tblG := tg_of (tb_2 (List.mem_of_getElem? (i := 124) rfl)) rfl
theorem tw_365 : (Jvm.Cond.code ({ cls := "NorthWheel", name := "head", desc := "(I)I" } : Jvm.MethodName) prog_1_method_3_code (3 : Nat) (Option.some Jvm.ClassFile.FieldType.int)) ∈ tblG := tg_of (tb_2 (List.mem_of_getElem? (i := 125) rfl)) rfl
theorem tw_366 : (Jvm.Cond.methodLink "NorthWheel" (107 : Nat) ({ cls := "NorthWheel", name := "isHeading", desc := "(I)Z" } : Jvm.MethodName)) ∈ tblG := tg_of (tb_2 (List.mem_of_getElem? (i := 126) rfl)) rfl
theorem tw_367 : (Jvm.Cond.static ({ cls := "NorthWheel", name := "isHeading", desc := "(I)Z" } : Jvm.MethodName)) ∈ tblG := tg_of (tb_2 (List.mem_of_getElem? (i := 127) rfl)) rfl
theorem tw_368 : (Jvm.Cond.code ({ cls := "NorthWheel", name := "isHeading", desc := "(I)Z" } : Jvm.MethodName) prog_1_method_36_code (1 : Nat) (Option.some Jvm.ClassFile.FieldType.boolean)) ∈ tblG := tg_of (tb_2 (List.mem_of_getElem? (i := 128) rfl)) rfl
theorem tw_369 : (Jvm.Cond.constant "NorthWheel" (295 : Nat) (35999 : Int32)) ∈ tblG := tg_of (tb_2 (List.mem_of_getElem? (i := 129) rfl)) rfl
theorem tw_370 : (Jvm.Cond.methodLink "NorthWheelLaw" (23 : Nat) ({ cls := "NorthWheel", name := "sea", desc := "(I)I" } : Jvm.MethodName)) ∈ tblG := tg_of (tb_2 (List.mem_of_getElem? (i := 130) rfl)) rfl
theorem tw_371 : (Jvm.Cond.instanceMethod ({ cls := "NorthWheel", name := "sea", desc := "(I)I" } : Jvm.MethodName)) ∈ tblG := tg_of (tb_2 (List.mem_of_getElem? (i := 131) rfl)) rfl
theorem tw_372 : (Jvm.Cond.selects "NorthWheel" ({ cls := "NorthWheel", name := "sea", desc := "(I)I" } : Jvm.MethodName) ({ cls := "NorthWheel", name := "sea", desc := "(I)I" } : Jvm.MethodName)) ∈ tblG := tg_of (tb_2 (List.mem_of_getElem? (i := 132) rfl)) rfl
theorem tw_373 : (Jvm.Cond.code ({ cls := "NorthWheel", name := "sea", desc := "(I)I" } : Jvm.MethodName) prog_1_method_4_code (2 : Nat) (Option.some Jvm.ClassFile.FieldType.int)) ∈ tblG := tg_of (tb_2 (List.mem_of_getElem? (i := 133) rfl)) rfl
theorem tw_374 : (Jvm.Cond.methodLink "NorthWheel" (113 : Nat) ({ cls := "NorthWheel", name := "isTurn", desc := "(I)Z" } : Jvm.MethodName)) ∈ tblG := tg_of (tb_2 (List.mem_of_getElem? (i := 134) rfl)) rfl
theorem tw_375 : (Jvm.Cond.static ({ cls := "NorthWheel", name := "isTurn", desc := "(I)Z" } : Jvm.MethodName)) ∈ tblG := tg_of (tb_2 (List.mem_of_getElem? (i := 135) rfl)) rfl
theorem tw_376 : (Jvm.Cond.code ({ cls := "NorthWheel", name := "isTurn", desc := "(I)Z" } : Jvm.MethodName) prog_1_method_40_code (1 : Nat) (Option.some Jvm.ClassFile.FieldType.boolean)) ∈ tblG := tg_of (tb_2 (List.mem_of_getElem? (i := 136) rfl)) rfl
theorem tn_377 : (Jvm.Cond.methodLinkNest "NorthWheel" (116 : Nat) ({ cls := "NorthWheel$Seas", name := "add", desc := "(I)I" } : Jvm.MethodName) "NorthWheel") ∈ tblN := tn_of (tb_2 (List.mem_of_getElem? (i := 137) rfl)) rfl
theorem tw_379 : (Jvm.Cond.instanceMethod ({ cls := "NorthWheel$Seas", name := "add", desc := "(I)I" } : Jvm.MethodName)) ∈ tblG := tg_of (tb_2 (List.mem_of_getElem? (i := 139) rfl)) rfl
theorem tw_380 : (Jvm.Cond.code ({ cls := "NorthWheel$Seas", name := "add", desc := "(I)I" } : Jvm.MethodName) prog_8_method_2_code (2 : Nat) (Option.some Jvm.ClassFile.FieldType.int)) ∈ tblG := tg_of (tb_2 (List.mem_of_getElem? (i := 140) rfl)) rfl
theorem tw_381 : (Jvm.Cond.methodLink "NorthWheelLaw" (27 : Nat) ({ cls := "NorthWheel", name := "calm", desc := "()I" } : Jvm.MethodName)) ∈ tblG := tg_of (tb_2 (List.mem_of_getElem? (i := 141) rfl)) rfl
theorem tw_382 : (Jvm.Cond.instanceMethod ({ cls := "NorthWheel", name := "calm", desc := "()I" } : Jvm.MethodName)) ∈ tblG := tg_of (tb_2 (List.mem_of_getElem? (i := 142) rfl)) rfl
theorem tw_383 : (Jvm.Cond.selects "NorthWheel" ({ cls := "NorthWheel", name := "calm", desc := "()I" } : Jvm.MethodName) ({ cls := "NorthWheel", name := "calm", desc := "()I" } : Jvm.MethodName)) ∈ tblG := tg_of (tb_2 (List.mem_of_getElem? (i := 143) rfl)) rfl
theorem tw_384 : (Jvm.Cond.code ({ cls := "NorthWheel", name := "calm", desc := "()I" } : Jvm.MethodName) prog_1_method_5_code (2 : Nat) (Option.some Jvm.ClassFile.FieldType.int)) ∈ tblG := tg_of (tb_2 (List.mem_of_getElem? (i := 144) rfl)) rfl
theorem tw_385 : (Jvm.Cond.methodLink "NorthWheelLaw" (32 : Nat) ({ cls := "NorthWheel", name := "kind", desc := "(II)I" } : Jvm.MethodName)) ∈ tblG := tg_of (tb_2 (List.mem_of_getElem? (i := 145) rfl)) rfl
theorem tw_386 : (Jvm.Cond.instanceMethod ({ cls := "NorthWheel", name := "kind", desc := "(II)I" } : Jvm.MethodName)) ∈ tblG := tg_of (tb_2 (List.mem_of_getElem? (i := 146) rfl)) rfl
theorem tw_387 : (Jvm.Cond.selects "NorthWheel" ({ cls := "NorthWheel", name := "kind", desc := "(II)I" } : Jvm.MethodName) ({ cls := "NorthWheel", name := "kind", desc := "(II)I" } : Jvm.MethodName)) ∈ tblG := tg_of (tb_2 (List.mem_of_getElem? (i := 147) rfl)) rfl
theorem tw_388 : (Jvm.Cond.code ({ cls := "NorthWheel", name := "kind", desc := "(II)I" } : Jvm.MethodName) prog_1_method_6_code (5 : Nat) (Option.some Jvm.ClassFile.FieldType.int)) ∈ tblG := tg_of (tb_2 (List.mem_of_getElem? (i := 148) rfl)) rfl
theorem tn_389 : (Jvm.Cond.methodLinkNest "NorthWheel" (123 : Nat) ({ cls := "NorthWheel$Ship", name := "pointerAt", desc := "(I)LNorthWheel$Pointer;" } : Jvm.MethodName) "NorthWheel") ∈ tblN := tn_of (tb_2 (List.mem_of_getElem? (i := 149) rfl)) rfl
theorem tw_391 : (Jvm.Cond.instanceMethod ({ cls := "NorthWheel$Ship", name := "pointerAt", desc := "(I)LNorthWheel$Pointer;" } : Jvm.MethodName)) ∈ tblG := tg_of (tb_2 (List.mem_of_getElem? (i := 151) rfl)) rfl
theorem tw_392 : (Jvm.Cond.code ({ cls := "NorthWheel$Ship", name := "pointerAt", desc := "(I)LNorthWheel$Pointer;" } : Jvm.MethodName) prog_9_method_4_code (2 : Nat) (Option.some (Jvm.ClassFile.FieldType.object "NorthWheel$Pointer"))) ∈ tblG := tg_of (tb_2 (List.mem_of_getElem? (i := 152) rfl)) rfl
theorem tn_393 : (Jvm.Cond.methodLinkNest "NorthWheel$Ship" (52 : Nat) ({ cls := "NorthWheel", name := "isWithin", desc := "(III)Z" } : Jvm.MethodName) "NorthWheel") ∈ tblN := tn_of (tb_2 (List.mem_of_getElem? (i := 153) rfl)) rfl
theorem tn_394 : (Jvm.Cond.methodLinkNest "NorthWheel" (132 : Nat) ({ cls := "NorthWheel$Pointer", name := "layAt", desc := "(I)V" } : Jvm.MethodName) "NorthWheel") ∈ tblN := tn_of (tb_2 (List.mem_of_getElem? (i := 154) rfl)) rfl
theorem tw_396 : (Jvm.Cond.instanceMethod ({ cls := "NorthWheel$Pointer", name := "layAt", desc := "(I)V" } : Jvm.MethodName)) ∈ tblG := tg_of (tb_2 (List.mem_of_getElem? (i := 156) rfl)) rfl
theorem tw_397 : (Jvm.Cond.code ({ cls := "NorthWheel$Pointer", name := "layAt", desc := "(I)V" } : Jvm.MethodName) prog_6_method_4_code (2 : Nat) (Option.none : Option Jvm.ClassFile.FieldType)) ∈ tblG := tg_of (tb_2 (List.mem_of_getElem? (i := 157) rfl)) rfl
theorem tw_398 : (Jvm.Cond.methodLink "NorthWheelLaw" (36 : Nat) ({ cls := "NorthWheel", name := "tune", desc := "(III)I" } : Jvm.MethodName)) ∈ tblG := tg_of (tb_2 (List.mem_of_getElem? (i := 158) rfl)) rfl
theorem tw_399 : (Jvm.Cond.instanceMethod ({ cls := "NorthWheel", name := "tune", desc := "(III)I" } : Jvm.MethodName)) ∈ tblG := tg_of (tb_2 (List.mem_of_getElem? (i := 159) rfl)) rfl
theorem tw_400 : (Jvm.Cond.selects "NorthWheel" ({ cls := "NorthWheel", name := "tune", desc := "(III)I" } : Jvm.MethodName) ({ cls := "NorthWheel", name := "tune", desc := "(III)I" } : Jvm.MethodName)) ∈ tblG := tg_of (tb_2 (List.mem_of_getElem? (i := 160) rfl)) rfl
theorem tw_401 : (Jvm.Cond.code ({ cls := "NorthWheel", name := "tune", desc := "(III)I" } : Jvm.MethodName) prog_1_method_7_code (5 : Nat) (Option.some Jvm.ClassFile.FieldType.int)) ∈ tblG := tg_of (tb_2 (List.mem_of_getElem? (i := 161) rfl)) rfl
theorem tn_402 : (Jvm.Cond.methodLinkNest "NorthWheel" (136 : Nat) ({ cls := "NorthWheel$Pointer", name := "retune", desc := "(II)I" } : Jvm.MethodName) "NorthWheel") ∈ tblN := tn_of (tb_2 (List.mem_of_getElem? (i := 162) rfl)) rfl
theorem tw_404 : (Jvm.Cond.instanceMethod ({ cls := "NorthWheel$Pointer", name := "retune", desc := "(II)I" } : Jvm.MethodName)) ∈ tblG := tg_of (tb_2 (List.mem_of_getElem? (i := 164) rfl)) rfl
theorem tw_405 : (Jvm.Cond.code ({ cls := "NorthWheel$Pointer", name := "retune", desc := "(II)I" } : Jvm.MethodName) prog_6_method_3_code (4 : Nat) (Option.some Jvm.ClassFile.FieldType.int)) ∈ tblG := tg_of (tb_2 (List.mem_of_getElem? (i := 165) rfl)) rfl
theorem tw_406 : (Jvm.Cond.methodLink "NorthWheelLaw" (41 : Nat) ({ cls := "NorthWheel", name := "off", desc := "(II)I" } : Jvm.MethodName)) ∈ tblG := tg_of (tb_2 (List.mem_of_getElem? (i := 166) rfl)) rfl
theorem tw_407 : (Jvm.Cond.instanceMethod ({ cls := "NorthWheel", name := "off", desc := "(II)I" } : Jvm.MethodName)) ∈ tblG := tg_of (tb_2 (List.mem_of_getElem? (i := 167) rfl)) rfl
theorem tw_408 : (Jvm.Cond.selects "NorthWheel" ({ cls := "NorthWheel", name := "off", desc := "(II)I" } : Jvm.MethodName) ({ cls := "NorthWheel", name := "off", desc := "(II)I" } : Jvm.MethodName)) ∈ tblG := tg_of (tb_2 (List.mem_of_getElem? (i := 168) rfl)) rfl
theorem tw_409 : (Jvm.Cond.code ({ cls := "NorthWheel", name := "off", desc := "(II)I" } : Jvm.MethodName) prog_1_method_8_code (4 : Nat) (Option.some Jvm.ClassFile.FieldType.int)) ∈ tblG := tg_of (tb_2 (List.mem_of_getElem? (i := 169) rfl)) rfl
theorem tw_410 : (Jvm.Cond.methodLink "NorthWheel" (140 : Nat) ({ cls := "NorthWheel", name := "isOff", desc := "(I)Z" } : Jvm.MethodName)) ∈ tblG := tg_of (tb_2 (List.mem_of_getElem? (i := 170) rfl)) rfl
theorem tw_411 : (Jvm.Cond.static ({ cls := "NorthWheel", name := "isOff", desc := "(I)Z" } : Jvm.MethodName)) ∈ tblG := tg_of (tb_2 (List.mem_of_getElem? (i := 171) rfl)) rfl
theorem tw_412 : (Jvm.Cond.code ({ cls := "NorthWheel", name := "isOff", desc := "(I)Z" } : Jvm.MethodName) prog_1_method_37_code (1 : Nat) (Option.some Jvm.ClassFile.FieldType.boolean)) ∈ tblG := tg_of (tb_2 (List.mem_of_getElem? (i := 172) rfl)) rfl
theorem tw_413 : (Jvm.Cond.methodLink "NorthWheelLaw" (45 : Nat) ({ cls := "NorthWheel", name := "told", desc := "(III)I" } : Jvm.MethodName)) ∈ tblG := tg_of (tb_2 (List.mem_of_getElem? (i := 173) rfl)) rfl
theorem tw_414 : (Jvm.Cond.instanceMethod ({ cls := "NorthWheel", name := "told", desc := "(III)I" } : Jvm.MethodName)) ∈ tblG := tg_of (tb_2 (List.mem_of_getElem? (i := 174) rfl)) rfl
theorem tw_415 : (Jvm.Cond.selects "NorthWheel" ({ cls := "NorthWheel", name := "told", desc := "(III)I" } : Jvm.MethodName) ({ cls := "NorthWheel", name := "told", desc := "(III)I" } : Jvm.MethodName)) ∈ tblG := tg_of (tb_2 (List.mem_of_getElem? (i := 175) rfl)) rfl
theorem tw_416 : (Jvm.Cond.code ({ cls := "NorthWheel", name := "told", desc := "(III)I" } : Jvm.MethodName) prog_1_method_9_code (5 : Nat) (Option.some Jvm.ClassFile.FieldType.int)) ∈ tblG := tg_of (tb_2 (List.mem_of_getElem? (i := 176) rfl)) rfl
theorem tw_417 : (Jvm.Cond.methodLink "NorthWheelLaw" (49 : Nat) ({ cls := "NorthWheel", name := "iron", desc := "(II)I" } : Jvm.MethodName)) ∈ tblG := tg_of (tb_2 (List.mem_of_getElem? (i := 177) rfl)) rfl
theorem tw_418 : (Jvm.Cond.instanceMethod ({ cls := "NorthWheel", name := "iron", desc := "(II)I" } : Jvm.MethodName)) ∈ tblG := tg_of (tb_2 (List.mem_of_getElem? (i := 178) rfl)) rfl
theorem tw_419 : (Jvm.Cond.selects "NorthWheel" ({ cls := "NorthWheel", name := "iron", desc := "(II)I" } : Jvm.MethodName) ({ cls := "NorthWheel", name := "iron", desc := "(II)I" } : Jvm.MethodName)) ∈ tblG := tg_of (tb_2 (List.mem_of_getElem? (i := 179) rfl)) rfl
theorem tw_420 : (Jvm.Cond.code ({ cls := "NorthWheel", name := "iron", desc := "(II)I" } : Jvm.MethodName) prog_1_method_10_code (3 : Nat) (Option.some Jvm.ClassFile.FieldType.int)) ∈ tblG := tg_of (tb_2 (List.mem_of_getElem? (i := 180) rfl)) rfl
theorem tw_421 : (Jvm.Cond.methodLink "NorthWheel" (149 : Nat) ({ cls := "NorthWheel", name := "isEighth", desc := "(I)Z" } : Jvm.MethodName)) ∈ tblG := tg_of (tb_2 (List.mem_of_getElem? (i := 181) rfl)) rfl
theorem tw_422 : (Jvm.Cond.static ({ cls := "NorthWheel", name := "isEighth", desc := "(I)Z" } : Jvm.MethodName)) ∈ tblG := tg_of (tb_2 (List.mem_of_getElem? (i := 182) rfl)) rfl
theorem tw_423 : (Jvm.Cond.code ({ cls := "NorthWheel", name := "isEighth", desc := "(I)Z" } : Jvm.MethodName) prog_1_method_41_code (1 : Nat) (Option.some Jvm.ClassFile.FieldType.boolean)) ∈ tblG := tg_of (tb_2 (List.mem_of_getElem? (i := 183) rfl)) rfl
theorem tw_424 : (Jvm.Cond.methodLink "NorthWheelLaw" (53 : Nat) ({ cls := "NorthWheel", name := "shows", desc := "(I)I" } : Jvm.MethodName)) ∈ tblG := tg_of (tb_2 (List.mem_of_getElem? (i := 184) rfl)) rfl
theorem tw_425 : (Jvm.Cond.instanceMethod ({ cls := "NorthWheel", name := "shows", desc := "(I)I" } : Jvm.MethodName)) ∈ tblG := tg_of (tb_2 (List.mem_of_getElem? (i := 185) rfl)) rfl
theorem tw_426 : (Jvm.Cond.selects "NorthWheel" ({ cls := "NorthWheel", name := "shows", desc := "(I)I" } : Jvm.MethodName) ({ cls := "NorthWheel", name := "shows", desc := "(I)I" } : Jvm.MethodName)) ∈ tblG := tg_of (tb_2 (List.mem_of_getElem? (i := 186) rfl)) rfl
theorem tw_427 : (Jvm.Cond.code ({ cls := "NorthWheel", name := "shows", desc := "(I)I" } : Jvm.MethodName) prog_1_method_11_code (3 : Nat) (Option.some Jvm.ClassFile.FieldType.int)) ∈ tblG := tg_of (tb_2 (List.mem_of_getElem? (i := 187) rfl)) rfl
theorem tn_428 : (Jvm.Cond.methodLinkNest "NorthWheel" (156 : Nat) ({ cls := "NorthWheel$Pointer", name := "shownAt", desc := "(ILNorthWheel$Needles;)I" } : Jvm.MethodName) "NorthWheel") ∈ tblN := tn_of (tb_2 (List.mem_of_getElem? (i := 188) rfl)) rfl
theorem tw_430 : (Jvm.Cond.instanceMethod ({ cls := "NorthWheel$Pointer", name := "shownAt", desc := "(ILNorthWheel$Needles;)I" } : Jvm.MethodName)) ∈ tblG := tg_of (tb_2 (List.mem_of_getElem? (i := 190) rfl)) rfl
theorem tw_431 : (Jvm.Cond.code ({ cls := "NorthWheel$Pointer", name := "shownAt", desc := "(ILNorthWheel$Needles;)I" } : Jvm.MethodName) prog_6_method_5_code (4 : Nat) (Option.some Jvm.ClassFile.FieldType.int)) ∈ tblG := tg_of (tb_2 (List.mem_of_getElem? (i := 191) rfl)) rfl
theorem tn_432 : (Jvm.Cond.methodLinkNest "NorthWheel$Pointer" (36 : Nat) ({ cls := "NorthWheel$Needles", name := "deviationAt", desc := "(I)I" } : Jvm.MethodName) "NorthWheel") ∈ tblN := tn_of (tb_2 (List.mem_of_getElem? (i := 192) rfl)) rfl
theorem tw_434 : (Jvm.Cond.instanceMethod ({ cls := "NorthWheel$Needles", name := "deviationAt", desc := "(I)I" } : Jvm.MethodName)) ∈ tblG := tg_of (tb_2 (List.mem_of_getElem? (i := 194) rfl)) rfl
theorem tw_435 : (Jvm.Cond.code ({ cls := "NorthWheel$Needles", name := "deviationAt", desc := "(I)I" } : Jvm.MethodName) prog_5_method_2_code (5 : Nat) (Option.some Jvm.ClassFile.FieldType.int)) ∈ tblG := tg_of (tb_2 (List.mem_of_getElem? (i := 195) rfl)) rfl
theorem tw_436 : (Jvm.Cond.methodLink "NorthWheel$Needles" (15 : Nat) ({ cls := "java/lang/Math", name := "floorMod", desc := "(II)I" } : Jvm.MethodName)) ∈ tblG := tg_of (tb_2 (List.mem_of_getElem? (i := 196) rfl)) rfl
theorem tw_437 : (Jvm.Cond.static ({ cls := "java/lang/Math", name := "floorMod", desc := "(II)I" } : Jvm.MethodName)) ∈ tblG := tg_of (tb_2 (List.mem_of_getElem? (i := 197) rfl)) rfl
theorem tw_438 : (Jvm.Cond.code ({ cls := "java/lang/Math", name := "floorMod", desc := "(II)I" } : Jvm.MethodName) prog_15_method_50_code (3 : Nat) (Option.some Jvm.ClassFile.FieldType.int)) ∈ tblG := tg_of (tb_2 (List.mem_of_getElem? (i := 198) rfl)) rfl
theorem tn_439 : (Jvm.Cond.methodLinkNest "NorthWheel$Pointer" (42 : Nat) ({ cls := "NorthWheel", name := "asHeading", desc := "(I)I" } : Jvm.MethodName) "NorthWheel") ∈ tblN := tn_of (tb_2 (List.mem_of_getElem? (i := 199) rfl)) rfl
theorem tw_440 : (Jvm.Cond.static ({ cls := "NorthWheel", name := "asHeading", desc := "(I)I" } : Jvm.MethodName)) ∈ tblG := tg_of (tb_2 (List.mem_of_getElem? (i := 200) rfl)) rfl
theorem tw_441 : (Jvm.Cond.code ({ cls := "NorthWheel", name := "asHeading", desc := "(I)I" } : Jvm.MethodName) prog_1_method_44_code (1 : Nat) (Option.some Jvm.ClassFile.FieldType.int)) ∈ tblG := tg_of (tb_2 (List.mem_of_getElem? (i := 201) rfl)) rfl
theorem tw_442 : (Jvm.Cond.constant "NorthWheel" (296 : Nat) (36000 : Int32)) ∈ tblG := tg_of (tb_2 (List.mem_of_getElem? (i := 202) rfl)) rfl
theorem tw_443 : (Jvm.Cond.methodLink "NorthWheel" (297 : Nat) ({ cls := "java/lang/Math", name := "floorMod", desc := "(II)I" } : Jvm.MethodName)) ∈ tblG := tg_of (tb_2 (List.mem_of_getElem? (i := 203) rfl)) rfl
theorem tn_444 : (Jvm.Cond.methodLinkNest "NorthWheel$Pointer" (45 : Nat) ({ cls := "NorthWheel", name := "leanOf", desc := "(III)I" } : Jvm.MethodName) "NorthWheel") ∈ tblN := tn_of (tb_2 (List.mem_of_getElem? (i := 204) rfl)) rfl
theorem tw_445 : (Jvm.Cond.static ({ cls := "NorthWheel", name := "leanOf", desc := "(III)I" } : Jvm.MethodName)) ∈ tblG := tg_of (tb_2 (List.mem_of_getElem? (i := 205) rfl)) rfl
theorem tw_446 : (Jvm.Cond.code ({ cls := "NorthWheel", name := "leanOf", desc := "(III)I" } : Jvm.MethodName) prog_1_method_49_code (5 : Nat) (Option.some Jvm.ClassFile.FieldType.int)) ∈ tblG := tg_of (tb_2 (List.mem_of_getElem? (i := 206) rfl)) rfl
theorem tw_447 : (Jvm.Cond.methodLink "NorthWheel" (213 : Nat) ({ cls := "NorthWheel", name := "holdOf", desc := "(I)I" } : Jvm.MethodName)) ∈ tblG := tg_of (tb_2 (List.mem_of_getElem? (i := 207) rfl)) rfl
theorem tw_448 : (Jvm.Cond.static ({ cls := "NorthWheel", name := "holdOf", desc := "(I)I" } : Jvm.MethodName)) ∈ tblG := tg_of (tb_2 (List.mem_of_getElem? (i := 208) rfl)) rfl
theorem tw_449 : (Jvm.Cond.code ({ cls := "NorthWheel", name := "holdOf", desc := "(I)I" } : Jvm.MethodName) prog_1_method_48_code (1 : Nat) (Option.some Jvm.ClassFile.FieldType.int)) ∈ tblG := tg_of (tb_2 (List.mem_of_getElem? (i := 209) rfl)) rfl
theorem tw_450 : (Jvm.Cond.methodLink "NorthWheel" (305 : Nat) ({ cls := "java/lang/Math", name := "abs", desc := "(I)I" } : Jvm.MethodName)) ∈ tblG := tg_of (tb_2 (List.mem_of_getElem? (i := 210) rfl)) rfl
theorem tw_451 : (Jvm.Cond.static ({ cls := "java/lang/Math", name := "abs", desc := "(I)I" } : Jvm.MethodName)) ∈ tblG := tg_of (tb_2 (List.mem_of_getElem? (i := 211) rfl)) rfl
theorem tw_452 : (Jvm.Cond.code ({ cls := "java/lang/Math", name := "abs", desc := "(I)I" } : Jvm.MethodName) prog_15_method_59_code (1 : Nat) (Option.some Jvm.ClassFile.FieldType.int)) ∈ tblG := tg_of (tb_2 (List.mem_of_getElem? (i := 212) rfl)) rfl
theorem tw_453 : (Jvm.Cond.methodLink "NorthWheel" (308 : Nat) ({ cls := "java/lang/Math", name := "min", desc := "(II)I" } : Jvm.MethodName)) ∈ tblG := tg_of (tb_2 (List.mem_of_getElem? (i := 213) rfl)) rfl
theorem tw_454 : (Jvm.Cond.static ({ cls := "java/lang/Math", name := "min", desc := "(II)I" } : Jvm.MethodName)) ∈ tblG := tg_of (tb_2 (List.mem_of_getElem? (i := 214) rfl)) rfl
theorem tw_455 : (Jvm.Cond.code ({ cls := "java/lang/Math", name := "min", desc := "(II)I" } : Jvm.MethodName) prog_15_method_69_code (2 : Nat) (Option.some Jvm.ClassFile.FieldType.int)) ∈ tblG := tg_of (tb_2 (List.mem_of_getElem? (i := 215) rfl)) rfl
theorem tw_456 : (Jvm.Cond.methodLink "NorthWheelLaw" (57 : Nat) ({ cls := "NorthWheel", name := "now", desc := "(II)I" } : Jvm.MethodName)) ∈ tblG := tg_of (tb_2 (List.mem_of_getElem? (i := 216) rfl)) rfl
theorem tw_457 : (Jvm.Cond.instanceMethod ({ cls := "NorthWheel", name := "now", desc := "(II)I" } : Jvm.MethodName)) ∈ tblG := tg_of (tb_2 (List.mem_of_getElem? (i := 217) rfl)) rfl
theorem tw_458 : (Jvm.Cond.selects "NorthWheel" ({ cls := "NorthWheel", name := "now", desc := "(II)I" } : Jvm.MethodName) ({ cls := "NorthWheel", name := "now", desc := "(II)I" } : Jvm.MethodName)) ∈ tblG := tg_of (tb_2 (List.mem_of_getElem? (i := 218) rfl)) rfl
theorem tw_459 : (Jvm.Cond.code ({ cls := "NorthWheel", name := "now", desc := "(II)I" } : Jvm.MethodName) prog_1_method_12_code (4 : Nat) (Option.some Jvm.ClassFile.FieldType.int)) ∈ tblG := tg_of (tb_2 (List.mem_of_getElem? (i := 219) rfl)) rfl
theorem tw_460 : (Jvm.Cond.constant "NorthWheel" (166 : Nat) (50000 : Int32)) ∈ tblG := tg_of (tb_2 (List.mem_of_getElem? (i := 220) rfl)) rfl
theorem tw_461 : (Jvm.Cond.methodLink "NorthWheelLaw" (61 : Nat) ({ cls := "NorthWheel", name := "lean", desc := "(III)I" } : Jvm.MethodName)) ∈ tblG := tg_of (tb_2 (List.mem_of_getElem? (i := 221) rfl)) rfl
theorem tw_462 : (Jvm.Cond.instanceMethod ({ cls := "NorthWheel", name := "lean", desc := "(III)I" } : Jvm.MethodName)) ∈ tblG := tg_of (tb_2 (List.mem_of_getElem? (i := 222) rfl)) rfl
theorem tw_463 : (Jvm.Cond.selects "NorthWheel" ({ cls := "NorthWheel", name := "lean", desc := "(III)I" } : Jvm.MethodName) ({ cls := "NorthWheel", name := "lean", desc := "(III)I" } : Jvm.MethodName)) ∈ tblG := tg_of (tb_2 (List.mem_of_getElem? (i := 223) rfl)) rfl
theorem tw_464 : (Jvm.Cond.code ({ cls := "NorthWheel", name := "lean", desc := "(III)I" } : Jvm.MethodName) prog_1_method_13_code (4 : Nat) (Option.some Jvm.ClassFile.FieldType.int)) ∈ tblG := tg_of (tb_2 (List.mem_of_getElem? (i := 224) rfl)) rfl
theorem tw_465 : (Jvm.Cond.methodLink "NorthWheel" (167 : Nat) ({ cls := "NorthWheel", name := "leanOf", desc := "(III)I" } : Jvm.MethodName)) ∈ tblG := tg_of (tb_2 (List.mem_of_getElem? (i := 225) rfl)) rfl
theorem tw_466 : (Jvm.Cond.constant "NorthWheel" (171 : Nat) (100000 : Int32)) ∈ tblG := tg_of (tb_2 (List.mem_of_getElem? (i := 226) rfl)) rfl
theorem tw_467 : (Jvm.Cond.methodLink "NorthWheelLaw" (65 : Nat) ({ cls := "NorthWheel", name := "deviation", desc := "(I)I" } : Jvm.MethodName)) ∈ tblG := tg_of (tb_2 (List.mem_of_getElem? (i := 227) rfl)) rfl
theorem tw_468 : (Jvm.Cond.instanceMethod ({ cls := "NorthWheel", name := "deviation", desc := "(I)I" } : Jvm.MethodName)) ∈ tblG := tg_of (tb_2 (List.mem_of_getElem? (i := 228) rfl)) rfl
theorem tw_469 : (Jvm.Cond.selects "NorthWheel" ({ cls := "NorthWheel", name := "deviation", desc := "(I)I" } : Jvm.MethodName) ({ cls := "NorthWheel", name := "deviation", desc := "(I)I" } : Jvm.MethodName)) ∈ tblG := tg_of (tb_2 (List.mem_of_getElem? (i := 229) rfl)) rfl
theorem tw_470 : (Jvm.Cond.code ({ cls := "NorthWheel", name := "deviation", desc := "(I)I" } : Jvm.MethodName) prog_1_method_14_code (2 : Nat) (Option.some Jvm.ClassFile.FieldType.int)) ∈ tblG := tg_of (tb_2 (List.mem_of_getElem? (i := 230) rfl)) rfl
theorem tn_471 : (Jvm.Cond.methodLinkNest "NorthWheel" (172 : Nat) ({ cls := "NorthWheel$Needles", name := "deviationAt", desc := "(I)I" } : Jvm.MethodName) "NorthWheel") ∈ tblN := tn_of (tb_2 (List.mem_of_getElem? (i := 231) rfl)) rfl
theorem tw_472 : (Jvm.Cond.methodLink "NorthWheelLaw" (69 : Nat) ({ cls := "NorthWheel", name := "run", desc := "(IZ)I" } : Jvm.MethodName)) ∈ tblG := tg_of (tb_2 (List.mem_of_getElem? (i := 232) rfl)) rfl
theorem tw_473 : (Jvm.Cond.instanceMethod ({ cls := "NorthWheel", name := "run", desc := "(IZ)I" } : Jvm.MethodName)) ∈ tblG := tg_of (tb_2 (List.mem_of_getElem? (i := 233) rfl)) rfl
theorem tw_474 : (Jvm.Cond.selects "NorthWheel" ({ cls := "NorthWheel", name := "run", desc := "(IZ)I" } : Jvm.MethodName) ({ cls := "NorthWheel", name := "run", desc := "(IZ)I" } : Jvm.MethodName)) ∈ tblG := tg_of (tb_2 (List.mem_of_getElem? (i := 234) rfl)) rfl
theorem tw_475 : (Jvm.Cond.code ({ cls := "NorthWheel", name := "run", desc := "(IZ)I" } : Jvm.MethodName) prog_1_method_15_code (4 : Nat) (Option.some Jvm.ClassFile.FieldType.int)) ∈ tblG := tg_of (tb_2 (List.mem_of_getElem? (i := 235) rfl)) rfl
theorem tn_476 : (Jvm.Cond.methodLinkNest "NorthWheel" (178 : Nat) ({ cls := "NorthWheel$Helm", name := "steerShip", desc := "(LNorthWheel$Ship;)V" } : Jvm.MethodName) "NorthWheel") ∈ tblN := tn_of (tb_2 (List.mem_of_getElem? (i := 236) rfl)) rfl
theorem tw_478 : (Jvm.Cond.instanceMethod ({ cls := "NorthWheel$Helm", name := "steerShip", desc := "(LNorthWheel$Ship;)V" } : Jvm.MethodName)) ∈ tblG := tg_of (tb_2 (List.mem_of_getElem? (i := 238) rfl)) rfl
theorem tw_479 : (Jvm.Cond.code ({ cls := "NorthWheel$Helm", name := "steerShip", desc := "(LNorthWheel$Ship;)V" } : Jvm.MethodName) prog_2_method_5_code (7 : Nat) (Option.none : Option Jvm.ClassFile.FieldType)) ∈ tblG := tg_of (tb_2 (List.mem_of_getElem? (i := 239) rfl)) rfl
theorem tn_480 : (Jvm.Cond.methodLinkNest "NorthWheel$Helm" (35 : Nat) ({ cls := "NorthWheel$Ship", name := "pointerAt", desc := "(I)LNorthWheel$Pointer;" } : Jvm.MethodName) "NorthWheel") ∈ tblN := tn_of (tb_3 (List.mem_of_getElem? (i := 0) rfl)) rfl
theorem tn_481 : (Jvm.Cond.methodLinkNest "NorthWheel$Helm" (51 : Nat) ({ cls := "NorthWheel$Pointer", name := "shownAt", desc := "(ILNorthWheel$Needles;)I" } : Jvm.MethodName) "NorthWheel") ∈ tblN := tn_of (tb_3 (List.mem_of_getElem? (i := 1) rfl)) rfl
theorem tn_482 : (Jvm.Cond.methodLinkNest "NorthWheel$Helm" (57 : Nat) ({ cls := "NorthWheel", name := "asOff", desc := "(I)I" } : Jvm.MethodName) "NorthWheel") ∈ tblN := tn_of (tb_3 (List.mem_of_getElem? (i := 2) rfl)) rfl
theorem tw_483 : (Jvm.Cond.static ({ cls := "NorthWheel", name := "asOff", desc := "(I)I" } : Jvm.MethodName)) ∈ tblG := tg_of (tb_3 (List.mem_of_getElem? (i := 3) rfl)) rfl
theorem tw_484 : (Jvm.Cond.code ({ cls := "NorthWheel", name := "asOff", desc := "(I)I" } : Jvm.MethodName) prog_1_method_45_code (1 : Nat) (Option.some Jvm.ClassFile.FieldType.int)) ∈ tblG := tg_of (tb_3 (List.mem_of_getElem? (i := 4) rfl)) rfl
theorem tw_485 : (Jvm.Cond.methodLink "NorthWheel$Helm" (63 : Nat) ({ cls := "java/lang/Math", name := "abs", desc := "(I)I" } : Jvm.MethodName)) ∈ tblG := tg_of (tb_3 (List.mem_of_getElem? (i := 5) rfl)) rfl
theorem tw_486 : (Jvm.Cond.methodLink "NorthWheel$Helm" (68 : Nat) ({ cls := "NorthWheel$Helm", name := "answerTo", desc := "(II)I" } : Jvm.MethodName)) ∈ tblG := tg_of (tb_3 (List.mem_of_getElem? (i := 6) rfl)) rfl
theorem tw_488 : (Jvm.Cond.instanceMethod ({ cls := "NorthWheel$Helm", name := "answerTo", desc := "(II)I" } : Jvm.MethodName)) ∈ tblG := tg_of (tb_3 (List.mem_of_getElem? (i := 8) rfl)) rfl
theorem tw_489 : (Jvm.Cond.code ({ cls := "NorthWheel$Helm", name := "answerTo", desc := "(II)I" } : Jvm.MethodName) prog_2_method_6_code (3 : Nat) (Option.some Jvm.ClassFile.FieldType.int)) ∈ tblG := tg_of (tb_3 (List.mem_of_getElem? (i := 9) rfl)) rfl
theorem tn_490 : (Jvm.Cond.methodLinkNest "NorthWheel$Helm" (75 : Nat) ({ cls := "NorthWheel", name := "bounded", desc := "(II)I" } : Jvm.MethodName) "NorthWheel") ∈ tblN := tn_of (tb_3 (List.mem_of_getElem? (i := 10) rfl)) rfl
theorem tw_491 : (Jvm.Cond.static ({ cls := "NorthWheel", name := "bounded", desc := "(II)I" } : Jvm.MethodName)) ∈ tblG := tg_of (tb_3 (List.mem_of_getElem? (i := 11) rfl)) rfl
theorem tw_492 : (Jvm.Cond.code ({ cls := "NorthWheel", name := "bounded", desc := "(II)I" } : Jvm.MethodName) prog_1_method_47_code (2 : Nat) (Option.some Jvm.ClassFile.FieldType.int)) ∈ tblG := tg_of (tb_3 (List.mem_of_getElem? (i := 12) rfl)) rfl
theorem tw_493 : (Jvm.Cond.methodLink "NorthWheel" (311 : Nat) ({ cls := "java/lang/Math", name := "max", desc := "(II)I" } : Jvm.MethodName)) ∈ tblG := tg_of (tb_3 (List.mem_of_getElem? (i := 13) rfl)) rfl
theorem tw_494 : (Jvm.Cond.static ({ cls := "java/lang/Math", name := "max", desc := "(II)I" } : Jvm.MethodName)) ∈ tblG := tg_of (tb_3 (List.mem_of_getElem? (i := 14) rfl)) rfl
theorem tw_495 : (Jvm.Cond.code ({ cls := "java/lang/Math", name := "max", desc := "(II)I" } : Jvm.MethodName) prog_15_method_65_code (2 : Nat) (Option.some Jvm.ClassFile.FieldType.int)) ∈ tblG := tg_of (tb_3 (List.mem_of_getElem? (i := 15) rfl)) rfl
theorem tn_496 : (Jvm.Cond.methodLinkNest "NorthWheel" (182 : Nat) ({ cls := "NorthWheel$Ship", name := "tick", desc := "()V" } : Jvm.MethodName) "NorthWheel") ∈ tblN := tn_of (tb_3 (List.mem_of_getElem? (i := 16) rfl)) rfl
theorem tw_498 : (Jvm.Cond.instanceMethod ({ cls := "NorthWheel$Ship", name := "tick", desc := "()V" } : Jvm.MethodName)) ∈ tblG := tg_of (tb_3 (List.mem_of_getElem? (i := 18) rfl)) rfl
theorem tw_499 : (Jvm.Cond.code ({ cls := "NorthWheel$Ship", name := "tick", desc := "()V" } : Jvm.MethodName) prog_9_method_5_code (3 : Nat) (Option.none : Option Jvm.ClassFile.FieldType)) ∈ tblG := tg_of (tb_3 (List.mem_of_getElem? (i := 19) rfl)) rfl
theorem tn_500 : (Jvm.Cond.methodLinkNest "NorthWheel$Ship" (56 : Nat) ({ cls := "NorthWheel$Seas", name := "yawOf", desc := "(I)I" } : Jvm.MethodName) "NorthWheel") ∈ tblN := tn_of (tb_3 (List.mem_of_getElem? (i := 20) rfl)) rfl
theorem tw_502 : (Jvm.Cond.instanceMethod ({ cls := "NorthWheel$Seas", name := "yawOf", desc := "(I)I" } : Jvm.MethodName)) ∈ tblG := tg_of (tb_3 (List.mem_of_getElem? (i := 22) rfl)) rfl
theorem tw_503 : (Jvm.Cond.code ({ cls := "NorthWheel$Seas", name := "yawOf", desc := "(I)I" } : Jvm.MethodName) prog_8_method_3_code (2 : Nat) (Option.some Jvm.ClassFile.FieldType.int)) ∈ tblG := tg_of (tb_3 (List.mem_of_getElem? (i := 23) rfl)) rfl
theorem tw_504 : (Jvm.Cond.methodLink "NorthWheel$Seas" (19 : Nat) ({ cls := "java/lang/Math", name := "floorMod", desc := "(II)I" } : Jvm.MethodName)) ∈ tblG := tg_of (tb_3 (List.mem_of_getElem? (i := 24) rfl)) rfl
theorem tn_505 : (Jvm.Cond.methodLinkNest "NorthWheel$Ship" (62 : Nat) ({ cls := "NorthWheel", name := "asHeading", desc := "(I)I" } : Jvm.MethodName) "NorthWheel") ∈ tblN := tn_of (tb_3 (List.mem_of_getElem? (i := 25) rfl)) rfl
theorem tn_506 : (Jvm.Cond.methodLinkNest "NorthWheel$Ship" (65 : Nat) ({ cls := "NorthWheel$Pointer", name := "tickIn", desc := "(LNorthWheel$Ship;I)V" } : Jvm.MethodName) "NorthWheel") ∈ tblN := tn_of (tb_3 (List.mem_of_getElem? (i := 26) rfl)) rfl
theorem tw_508 : (Jvm.Cond.instanceMethod ({ cls := "NorthWheel$Pointer", name := "tickIn", desc := "(LNorthWheel$Ship;I)V" } : Jvm.MethodName)) ∈ tblG := tg_of (tb_3 (List.mem_of_getElem? (i := 28) rfl)) rfl
theorem tw_509 : (Jvm.Cond.code ({ cls := "NorthWheel$Pointer", name := "tickIn", desc := "(LNorthWheel$Ship;I)V" } : Jvm.MethodName) prog_6_method_6_code (4 : Nat) (Option.none : Option Jvm.ClassFile.FieldType)) ∈ tblG := tg_of (tb_3 (List.mem_of_getElem? (i := 29) rfl)) rfl
theorem tn_510 : (Jvm.Cond.methodLinkNest "NorthWheel$Pointer" (54 : Nat) ({ cls := "NorthWheel", name := "asOff", desc := "(I)I" } : Jvm.MethodName) "NorthWheel") ∈ tblN := tn_of (tb_3 (List.mem_of_getElem? (i := 30) rfl)) rfl
theorem tn_511 : (Jvm.Cond.methodLinkNest "NorthWheel$Pointer" (57 : Nat) ({ cls := "NorthWheel", name := "holdOf", desc := "(I)I" } : Jvm.MethodName) "NorthWheel") ∈ tblN := tn_of (tb_3 (List.mem_of_getElem? (i := 31) rfl)) rfl
theorem tw_512 : (Jvm.Cond.methodLink "NorthWheel$Pointer" (60 : Nat) ({ cls := "NorthWheel$Pointer", name := "sway", desc := "(IIIZ)V" } : Jvm.MethodName)) ∈ tblG := tg_of (tb_3 (List.mem_of_getElem? (i := 32) rfl)) rfl
theorem tw_514 : (Jvm.Cond.instanceMethod ({ cls := "NorthWheel$Pointer", name := "sway", desc := "(IIIZ)V" } : Jvm.MethodName)) ∈ tblG := tg_of (tb_3 (List.mem_of_getElem? (i := 34) rfl)) rfl
theorem tw_515 : (Jvm.Cond.code ({ cls := "NorthWheel$Pointer", name := "sway", desc := "(IIIZ)V" } : Jvm.MethodName) prog_6_method_7_code (5 : Nat) (Option.none : Option Jvm.ClassFile.FieldType)) ∈ tblG := tg_of (tb_3 (List.mem_of_getElem? (i := 35) rfl)) rfl
theorem tn_516 : (Jvm.Cond.methodLinkNest "NorthWheel$Pointer" (70 : Nat) ({ cls := "NorthWheel", name := "bounded", desc := "(II)I" } : Jvm.MethodName) "NorthWheel") ∈ tblN := tn_of (tb_3 (List.mem_of_getElem? (i := 36) rfl)) rfl
theorem tw_517 : (Jvm.Cond.methodLink "NorthWheelLaw" (76 : Nat) ({ cls := "NorthWheel", name := "write", desc := "(JI)I" } : Jvm.MethodName)) ∈ tblG := tg_of (tb_3 (List.mem_of_getElem? (i := 37) rfl)) rfl
theorem tw_518 : (Jvm.Cond.instanceMethod ({ cls := "NorthWheel", name := "write", desc := "(JI)I" } : Jvm.MethodName)) ∈ tblG := tg_of (tb_3 (List.mem_of_getElem? (i := 38) rfl)) rfl
theorem tw_519 : (Jvm.Cond.selects "NorthWheel" ({ cls := "NorthWheel", name := "write", desc := "(JI)I" } : Jvm.MethodName) ({ cls := "NorthWheel", name := "write", desc := "(JI)I" } : Jvm.MethodName)) ∈ tblG := tg_of (tb_3 (List.mem_of_getElem? (i := 39) rfl)) rfl
theorem tw_520 : (Jvm.Cond.code ({ cls := "NorthWheel", name := "write", desc := "(JI)I" } : Jvm.MethodName) prog_1_method_16_code (4 : Nat) (Option.some Jvm.ClassFile.FieldType.int)) ∈ tblG := tg_of (tb_3 (List.mem_of_getElem? (i := 40) rfl)) rfl
theorem tn_521 : (Jvm.Cond.methodLinkNest "NorthWheel" (185 : Nat) ({ cls := "NorthWheel$Script", name := "append", desc := "(JI)I" } : Jvm.MethodName) "NorthWheel") ∈ tblN := tn_of (tb_3 (List.mem_of_getElem? (i := 41) rfl)) rfl
theorem tw_523 : (Jvm.Cond.instanceMethod ({ cls := "NorthWheel$Script", name := "append", desc := "(JI)I" } : Jvm.MethodName)) ∈ tblG := tg_of (tb_3 (List.mem_of_getElem? (i := 43) rfl)) rfl
theorem tw_524 : (Jvm.Cond.code ({ cls := "NorthWheel$Script", name := "append", desc := "(JI)I" } : Jvm.MethodName) prog_7_method_2_code (5 : Nat) (Option.some Jvm.ClassFile.FieldType.int)) ∈ tblG := tg_of (tb_3 (List.mem_of_getElem? (i := 44) rfl)) rfl
theorem tw_525 : (Jvm.Cond.constantLong "NorthWheel$Script" (22 : Nat) (255 : Int64)) ∈ tblG := tg_of (tb_3 (List.mem_of_getElem? (i := 45) rfl)) rfl
theorem tw_526 : (Jvm.Cond.methodLink "NorthWheelLaw" (81 : Nat) ({ cls := "NorthWheel", name := "erase", desc := "()I" } : Jvm.MethodName)) ∈ tblG := tg_of (tb_3 (List.mem_of_getElem? (i := 46) rfl)) rfl
theorem tw_527 : (Jvm.Cond.instanceMethod ({ cls := "NorthWheel", name := "erase", desc := "()I" } : Jvm.MethodName)) ∈ tblG := tg_of (tb_3 (List.mem_of_getElem? (i := 47) rfl)) rfl
theorem tw_528 : (Jvm.Cond.selects "NorthWheel" ({ cls := "NorthWheel", name := "erase", desc := "()I" } : Jvm.MethodName) ({ cls := "NorthWheel", name := "erase", desc := "()I" } : Jvm.MethodName)) ∈ tblG := tg_of (tb_3 (List.mem_of_getElem? (i := 48) rfl)) rfl
theorem tw_529 : (Jvm.Cond.code ({ cls := "NorthWheel", name := "erase", desc := "()I" } : Jvm.MethodName) prog_1_method_17_code (2 : Nat) (Option.some Jvm.ClassFile.FieldType.int)) ∈ tblG := tg_of (tb_3 (List.mem_of_getElem? (i := 49) rfl)) rfl
theorem tw_530 : (Jvm.Cond.methodLink "NorthWheelLaw" (85 : Nat) ({ cls := "NorthWheel", name := "fault", desc := "()I" } : Jvm.MethodName)) ∈ tblG := tg_of (tb_3 (List.mem_of_getElem? (i := 50) rfl)) rfl
theorem tw_531 : (Jvm.Cond.instanceMethod ({ cls := "NorthWheel", name := "fault", desc := "()I" } : Jvm.MethodName)) ∈ tblG := tg_of (tb_3 (List.mem_of_getElem? (i := 51) rfl)) rfl
theorem tw_532 : (Jvm.Cond.selects "NorthWheel" ({ cls := "NorthWheel", name := "fault", desc := "()I" } : Jvm.MethodName) ({ cls := "NorthWheel", name := "fault", desc := "()I" } : Jvm.MethodName)) ∈ tblG := tg_of (tb_3 (List.mem_of_getElem? (i := 52) rfl)) rfl
theorem tw_533 : (Jvm.Cond.code ({ cls := "NorthWheel", name := "fault", desc := "()I" } : Jvm.MethodName) prog_1_method_18_code (1 : Nat) (Option.some Jvm.ClassFile.FieldType.int)) ∈ tblG := tg_of (tb_3 (List.mem_of_getElem? (i := 53) rfl)) rfl
theorem tn_534 : (Jvm.Cond.methodLinkNest "NorthWheel" (192 : Nat) ({ cls := "NorthWheel$Script", name := "read", desc := "()I" } : Jvm.MethodName) "NorthWheel") ∈ tblN := tn_of (tb_3 (List.mem_of_getElem? (i := 54) rfl)) rfl
theorem tw_536 : (Jvm.Cond.instanceMethod ({ cls := "NorthWheel$Script", name := "read", desc := "()I" } : Jvm.MethodName)) ∈ tblG := tg_of (tb_3 (List.mem_of_getElem? (i := 56) rfl)) rfl
theorem tw_537 : (Jvm.Cond.code ({ cls := "NorthWheel$Script", name := "read", desc := "()I" } : Jvm.MethodName) prog_7_method_3_code (7 : Nat) (Option.some Jvm.ClassFile.FieldType.int)) ∈ tblG := tg_of (tb_3 (List.mem_of_getElem? (i := 57) rfl)) rfl
theorem tw_538 : (Jvm.Cond.fieldLink "NorthWheel$Script" (24 : Nat) "NorthWheel$Script" "AT_FIRST" "[I") ∈ tblG := tg_of (tb_3 (List.mem_of_getElem? (i := 58) rfl)) rfl
theorem tw_539 : (Jvm.Cond.methodLink "NorthWheel$Script" (27 : Nat) ({ cls := "java/lang/System", name := "arraycopy", desc := "(Ljava/lang/Object;ILjava/lang/Object;II)V" } : Jvm.MethodName)) ∈ tblG := tg_of (tb_3 (List.mem_of_getElem? (i := 59) rfl)) rfl
theorem tw_540 : (Jvm.Cond.methodLink "NorthWheel$Script" (33 : Nat) ({ cls := "NorthWheel$Script", name := "behindBlanks", desc := "(I)I" } : Jvm.MethodName)) ∈ tblG := tg_of (tb_3 (List.mem_of_getElem? (i := 60) rfl)) rfl
theorem tw_542 : (Jvm.Cond.instanceMethod ({ cls := "NorthWheel$Script", name := "behindBlanks", desc := "(I)I" } : Jvm.MethodName)) ∈ tblG := tg_of (tb_3 (List.mem_of_getElem? (i := 62) rfl)) rfl
theorem tw_543 : (Jvm.Cond.code ({ cls := "NorthWheel$Script", name := "behindBlanks", desc := "(I)I" } : Jvm.MethodName) prog_7_method_4_code (3 : Nat) (Option.some Jvm.ClassFile.FieldType.int)) ∈ tblG := tg_of (tb_3 (List.mem_of_getElem? (i := 63) rfl)) rfl
theorem tw_544 : (Jvm.Cond.methodLink "NorthWheel$Script" (37 : Nat) ({ cls := "NorthWheel$Script", name := "wordAt", desc := "(I)I" } : Jvm.MethodName)) ∈ tblG := tg_of (tb_3 (List.mem_of_getElem? (i := 64) rfl)) rfl
theorem tw_546 : (Jvm.Cond.instanceMethod ({ cls := "NorthWheel$Script", name := "wordAt", desc := "(I)I" } : Jvm.MethodName)) ∈ tblG := tg_of (tb_3 (List.mem_of_getElem? (i := 66) rfl)) rfl
theorem tw_547 : (Jvm.Cond.code ({ cls := "NorthWheel$Script", name := "wordAt", desc := "(I)I" } : Jvm.MethodName) prog_7_method_6_code (4 : Nat) (Option.some Jvm.ClassFile.FieldType.int)) ∈ tblG := tg_of (tb_3 (List.mem_of_getElem? (i := 67) rfl)) rfl
theorem tw_548 : (Jvm.Cond.methodLink "NorthWheel$Script" (40 : Nat) ({ cls := "NorthWheel$Script", name := "tokenEnd", desc := "(I)I" } : Jvm.MethodName)) ∈ tblG := tg_of (tb_3 (List.mem_of_getElem? (i := 68) rfl)) rfl
theorem tw_550 : (Jvm.Cond.instanceMethod ({ cls := "NorthWheel$Script", name := "tokenEnd", desc := "(I)I" } : Jvm.MethodName)) ∈ tblG := tg_of (tb_3 (List.mem_of_getElem? (i := 70) rfl)) rfl
theorem tw_551 : (Jvm.Cond.code ({ cls := "NorthWheel$Script", name := "tokenEnd", desc := "(I)I" } : Jvm.MethodName) prog_7_method_5_code (5 : Nat) (Option.some Jvm.ClassFile.FieldType.int)) ∈ tblG := tg_of (tb_3 (List.mem_of_getElem? (i := 71) rfl)) rfl
theorem tw_552 : (Jvm.Cond.methodLink "NorthWheel$Script" (59 : Nat) ({ cls := "NorthWheel$Script", name := "isLetter", desc := "(I)Z" } : Jvm.MethodName)) ∈ tblG := tg_of (tb_3 (List.mem_of_getElem? (i := 72) rfl)) rfl
theorem tw_553 : (Jvm.Cond.static ({ cls := "NorthWheel$Script", name := "isLetter", desc := "(I)Z" } : Jvm.MethodName)) ∈ tblG := tg_of (tb_3 (List.mem_of_getElem? (i := 73) rfl)) rfl
theorem tw_554 : (Jvm.Cond.code ({ cls := "NorthWheel$Script", name := "isLetter", desc := "(I)Z" } : Jvm.MethodName) prog_7_method_10_code (1 : Nat) (Option.some Jvm.ClassFile.FieldType.boolean)) ∈ tblG := tg_of (tb_3 (List.mem_of_getElem? (i := 74) rfl)) rfl
theorem tw_555 : (Jvm.Cond.methodLink "NorthWheel$Script" (63 : Nat) ({ cls := "NorthWheel$Script", name := "isDigit", desc := "(I)Z" } : Jvm.MethodName)) ∈ tblG := tg_of (tb_3 (List.mem_of_getElem? (i := 75) rfl)) rfl
theorem tw_556 : (Jvm.Cond.static ({ cls := "NorthWheel$Script", name := "isDigit", desc := "(I)Z" } : Jvm.MethodName)) ∈ tblG := tg_of (tb_3 (List.mem_of_getElem? (i := 76) rfl)) rfl
theorem tw_557 : (Jvm.Cond.code ({ cls := "NorthWheel$Script", name := "isDigit", desc := "(I)Z" } : Jvm.MethodName) prog_7_method_11_code (1 : Nat) (Option.some Jvm.ClassFile.FieldType.boolean)) ∈ tblG := tg_of (tb_3 (List.mem_of_getElem? (i := 77) rfl)) rfl
theorem tw_558 : (Jvm.Cond.methodLink "NorthWheel$Script" (66 : Nat) ({ cls := "NorthWheel$Script", name := "nameOf", desc := "(I)Ljava/lang/String;" } : Jvm.MethodName)) ∈ tblG := tg_of (tb_3 (List.mem_of_getElem? (i := 78) rfl)) rfl
theorem tw_559 : (Jvm.Cond.static ({ cls := "NorthWheel$Script", name := "nameOf", desc := "(I)Ljava/lang/String;" } : Jvm.MethodName)) ∈ tblG := tg_of (tb_3 (List.mem_of_getElem? (i := 79) rfl)) rfl
theorem tw_560 : (Jvm.Cond.code ({ cls := "NorthWheel$Script", name := "nameOf", desc := "(I)Ljava/lang/String;" } : Jvm.MethodName) prog_7_method_9_code (1 : Nat) (Option.some (Jvm.ClassFile.FieldType.object "java/lang/String"))) ∈ tblG := tg_of (tb_3 (List.mem_of_getElem? (i := 80) rfl)) rfl
theorem tw_567 : (Jvm.Cond.methodLink "NorthWheel$Script" (70 : Nat) ({ cls := "NorthWheel$Script", name := "isSpelt", desc := "(IILjava/lang/String;)Z" } : Jvm.MethodName)) ∈ tblG := tg_of (tb_3 (List.mem_of_getElem? (i := 87) rfl)) rfl
theorem tw_569 : (Jvm.Cond.instanceMethod ({ cls := "NorthWheel$Script", name := "isSpelt", desc := "(IILjava/lang/String;)Z" } : Jvm.MethodName)) ∈ tblG := tg_of (tb_3 (List.mem_of_getElem? (i := 89) rfl)) rfl
theorem tw_570 : (Jvm.Cond.code ({ cls := "NorthWheel$Script", name := "isSpelt", desc := "(IILjava/lang/String;)Z" } : Jvm.MethodName) prog_7_method_7_code (5 : Nat) (Option.some Jvm.ClassFile.FieldType.boolean)) ∈ tblG := tg_of (tb_3 (List.mem_of_getElem? (i := 90) rfl)) rfl
theorem tw_571 : (Jvm.Cond.methodLink "NorthWheel$Script" (74 : Nat) ({ cls := "java/lang/String", name := "length", desc := "()I" } : Jvm.MethodName)) ∈ tblG := tg_of (tb_3 (List.mem_of_getElem? (i := 91) rfl)) rfl
theorem tw_572 : (Jvm.Cond.instanceMethod ({ cls := "java/lang/String", name := "length", desc := "()I" } : Jvm.MethodName)) ∈ tblG := tg_of (tb_3 (List.mem_of_getElem? (i := 92) rfl)) rfl
theorem tw_573 : (Jvm.Cond.selects "java/lang/String" ({ cls := "java/lang/String", name := "length", desc := "()I" } : Jvm.MethodName) ({ cls := "java/lang/String", name := "length", desc := "()I" } : Jvm.MethodName)) ∈ tblG := tg_of (tb_3 (List.mem_of_getElem? (i := 93) rfl)) rfl
theorem tw_574 : (Jvm.Cond.code ({ cls := "java/lang/String", name := "length", desc := "()I" } : Jvm.MethodName) prog_16_method_54_code (1 : Nat) (Option.some Jvm.ClassFile.FieldType.int)) ∈ tblG := tg_of (tb_3 (List.mem_of_getElem? (i := 94) rfl)) rfl
theorem tw_575 : (Jvm.Cond.methodLink "java/lang/String" (335 : Nat) ({ cls := "java/lang/String", name := "coder", desc := "()B" } : Jvm.MethodName)) ∈ tblG := tg_of (tb_3 (List.mem_of_getElem? (i := 95) rfl)) rfl
theorem tw_576 : (Jvm.Cond.instanceMethod ({ cls := "java/lang/String", name := "coder", desc := "()B" } : Jvm.MethodName)) ∈ tblG := tg_of (tb_3 (List.mem_of_getElem? (i := 96) rfl)) rfl
theorem tw_577 : (Jvm.Cond.selects "java/lang/String" ({ cls := "java/lang/String", name := "coder", desc := "()B" } : Jvm.MethodName) ({ cls := "java/lang/String", name := "coder", desc := "()B" } : Jvm.MethodName)) ∈ tblG := tg_of (tb_3 (List.mem_of_getElem? (i := 97) rfl)) rfl
theorem tw_578 : (Jvm.Cond.code ({ cls := "java/lang/String", name := "coder", desc := "()B" } : Jvm.MethodName) prog_16_method_152_code (1 : Nat) (Option.some Jvm.ClassFile.FieldType.byte)) ∈ tblG := tg_of (tb_3 (List.mem_of_getElem? (i := 98) rfl)) rfl
theorem tw_579 : (Jvm.Cond.fieldLink "java/lang/String" (38 : Nat) "java/lang/String" "COMPACT_STRINGS" "Z") ∈ tblG := tg_of (tb_3 (List.mem_of_getElem? (i := 99) rfl)) rfl
theorem tw_581 : (Jvm.Cond.methodLink "NorthWheel$Script" (79 : Nat) ({ cls := "java/lang/String", name := "charAt", desc := "(I)C" } : Jvm.MethodName)) ∈ tblG := tg_of (tb_3 (List.mem_of_getElem? (i := 101) rfl)) rfl
theorem tw_582 : (Jvm.Cond.instanceMethod ({ cls := "java/lang/String", name := "charAt", desc := "(I)C" } : Jvm.MethodName)) ∈ tblG := tg_of (tb_3 (List.mem_of_getElem? (i := 102) rfl)) rfl
theorem tw_583 : (Jvm.Cond.selects "java/lang/String" ({ cls := "java/lang/String", name := "charAt", desc := "(I)C" } : Jvm.MethodName) ({ cls := "java/lang/String", name := "charAt", desc := "(I)C" } : Jvm.MethodName)) ∈ tblG := tg_of (tb_3 (List.mem_of_getElem? (i := 103) rfl)) rfl
theorem tw_584 : (Jvm.Cond.code ({ cls := "java/lang/String", name := "charAt", desc := "(I)C" } : Jvm.MethodName) prog_16_method_56_code (2 : Nat) (Option.some Jvm.ClassFile.FieldType.char)) ∈ tblG := tg_of (tb_3 (List.mem_of_getElem? (i := 104) rfl)) rfl
theorem tw_585 : (Jvm.Cond.methodLink "java/lang/String" (492 : Nat) ({ cls := "java/lang/String", name := "isLatin1", desc := "()Z" } : Jvm.MethodName)) ∈ tblG := tg_of (tb_3 (List.mem_of_getElem? (i := 105) rfl)) rfl
theorem tw_586 : (Jvm.Cond.instanceMethod ({ cls := "java/lang/String", name := "isLatin1", desc := "()Z" } : Jvm.MethodName)) ∈ tblG := tg_of (tb_3 (List.mem_of_getElem? (i := 106) rfl)) rfl
theorem tw_587 : (Jvm.Cond.selects "java/lang/String" ({ cls := "java/lang/String", name := "isLatin1", desc := "()Z" } : Jvm.MethodName) ({ cls := "java/lang/String", name := "isLatin1", desc := "()Z" } : Jvm.MethodName)) ∈ tblG := tg_of (tb_3 (List.mem_of_getElem? (i := 107) rfl)) rfl
theorem tw_588 : (Jvm.Cond.code ({ cls := "java/lang/String", name := "isLatin1", desc := "()Z" } : Jvm.MethodName) prog_16_method_154_code (1 : Nat) (Option.some Jvm.ClassFile.FieldType.boolean)) ∈ tblG := tg_of (tb_3 (List.mem_of_getElem? (i := 108) rfl)) rfl
theorem tw_589 : (Jvm.Cond.methodLink "java/lang/String" (495 : Nat) ({ cls := "java/lang/StringLatin1", name := "charAt", desc := "([BI)C" } : Jvm.MethodName)) ∈ tblG := tg_of (tb_3 (List.mem_of_getElem? (i := 109) rfl)) rfl
theorem tw_590 : (Jvm.Cond.static ({ cls := "java/lang/StringLatin1", name := "charAt", desc := "([BI)C" } : Jvm.MethodName)) ∈ tblG := tg_of (tb_3 (List.mem_of_getElem? (i := 110) rfl)) rfl
theorem tw_591 : (Jvm.Cond.code ({ cls := "java/lang/StringLatin1", name := "charAt", desc := "([BI)C" } : Jvm.MethodName) prog_17_method_2_code (2 : Nat) (Option.some Jvm.ClassFile.FieldType.char)) ∈ tblG := tg_of (tb_3 (List.mem_of_getElem? (i := 111) rfl)) rfl
theorem tw_592 : (Jvm.Cond.methodLink "java/lang/StringLatin1" (9 : Nat) ({ cls := "java/lang/String", name := "checkIndex", desc := "(II)V" } : Jvm.MethodName)) ∈ tblG := tg_of (tb_3 (List.mem_of_getElem? (i := 112) rfl)) rfl
theorem tw_593 : (Jvm.Cond.static ({ cls := "java/lang/String", name := "checkIndex", desc := "(II)V" } : Jvm.MethodName)) ∈ tblG := tg_of (tb_3 (List.mem_of_getElem? (i := 113) rfl)) rfl
theorem tw_594 : (Jvm.Cond.code ({ cls := "java/lang/String", name := "checkIndex", desc := "(II)V" } : Jvm.MethodName) prog_16_method_155_code (2 : Nat) (Option.none : Option Jvm.ClassFile.FieldType)) ∈ tblG := tg_of (tb_3 (List.mem_of_getElem? (i := 114) rfl)) rfl
theorem tw_595 : (Jvm.Cond.fieldLink "java/lang/String" (1053 : Nat) "jdk/internal/util/Preconditions" "SIOOBE_FORMATTER" "Ljava/util/function/BiFunction;") ∈ tblG := tg_of (tb_3 (List.mem_of_getElem? (i := 115) rfl)) rfl
theorem tw_597 : (Jvm.Cond.methodLink "java/lang/String" (1059 : Nat) ({ cls := "jdk/internal/util/Preconditions", name := "checkIndex", desc := "(IILjava/util/function/BiFunction;)I" } : Jvm.MethodName)) ∈ tblG := tg_of (tb_3 (List.mem_of_getElem? (i := 117) rfl)) rfl
theorem tw_598 : (Jvm.Cond.static ({ cls := "jdk/internal/util/Preconditions", name := "checkIndex", desc := "(IILjava/util/function/BiFunction;)I" } : Jvm.MethodName)) ∈ tblG := tg_of (tb_3 (List.mem_of_getElem? (i := 118) rfl)) rfl
theorem tw_599 : (Jvm.Cond.code ({ cls := "jdk/internal/util/Preconditions", name := "checkIndex", desc := "(IILjava/util/function/BiFunction;)I" } : Jvm.MethodName) prog_20_method_11_code (3 : Nat) (Option.some Jvm.ClassFile.FieldType.int)) ∈ tblG := tg_of (tb_3 (List.mem_of_getElem? (i := 119) rfl)) rfl
theorem tw_600 : (Jvm.Cond.methodLink "java/lang/String" (498 : Nat) ({ cls := "java/lang/StringUTF16", name := "charAt", desc := "([BI)C" } : Jvm.MethodName)) ∈ tblG := tg_of (tb_3 (List.mem_of_getElem? (i := 120) rfl)) rfl
theorem tw_601 : (Jvm.Cond.static ({ cls := "java/lang/StringUTF16", name := "charAt", desc := "([BI)C" } : Jvm.MethodName)) ∈ tblG := tg_of (tb_3 (List.mem_of_getElem? (i := 121) rfl)) rfl
theorem tw_602 : (Jvm.Cond.code ({ cls := "java/lang/StringUTF16", name := "charAt", desc := "([BI)C" } : Jvm.MethodName) prog_18_method_83_code (2 : Nat) (Option.some Jvm.ClassFile.FieldType.char)) ∈ tblG := tg_of (tb_3 (List.mem_of_getElem? (i := 122) rfl)) rfl
theorem tw_603 : (Jvm.Cond.methodLink "java/lang/StringUTF16" (67 : Nat) ({ cls := "java/lang/StringUTF16", name := "checkIndex", desc := "(I[B)V" } : Jvm.MethodName)) ∈ tblG := tg_of (tb_3 (List.mem_of_getElem? (i := 123) rfl)) rfl
theorem tw_604 : (Jvm.Cond.static ({ cls := "java/lang/StringUTF16", name := "checkIndex", desc := "(I[B)V" } : Jvm.MethodName)) ∈ tblG := tg_of (tb_3 (List.mem_of_getElem? (i := 124) rfl)) rfl
theorem tw_605 : (Jvm.Cond.code ({ cls := "java/lang/StringUTF16", name := "checkIndex", desc := "(I[B)V" } : Jvm.MethodName) prog_18_method_91_code (2 : Nat) (Option.none : Option Jvm.ClassFile.FieldType)) ∈ tblG := tg_of (tb_3 (List.mem_of_getElem? (i := 125) rfl)) rfl
theorem tw_606 : (Jvm.Cond.methodLink "java/lang/StringUTF16" (48 : Nat) ({ cls := "java/lang/StringUTF16", name := "length", desc := "([B)I" } : Jvm.MethodName)) ∈ tblG := tg_of (tb_3 (List.mem_of_getElem? (i := 126) rfl)) rfl
theorem tw_607 : (Jvm.Cond.static ({ cls := "java/lang/StringUTF16", name := "length", desc := "([B)I" } : Jvm.MethodName)) ∈ tblG := tg_of (tb_3 (List.mem_of_getElem? (i := 127) rfl)) rfl
theorem tw_608 : (Jvm.Cond.code ({ cls := "java/lang/StringUTF16", name := "length", desc := "([B)I" } : Jvm.MethodName) prog_18_method_6_code (1 : Nat) (Option.some Jvm.ClassFile.FieldType.int)) ∈ tblG := tg_of (tb_3 (List.mem_of_getElem? (i := 128) rfl)) rfl
theorem tw_609 : (Jvm.Cond.methodLink "java/lang/StringUTF16" (414 : Nat) ({ cls := "java/lang/String", name := "checkIndex", desc := "(II)V" } : Jvm.MethodName)) ∈ tblG := tg_of (tb_3 (List.mem_of_getElem? (i := 129) rfl)) rfl
theorem tw_610 : (Jvm.Cond.methodLink "java/lang/StringUTF16" (71 : Nat) ({ cls := "java/lang/StringUTF16", name := "getChar", desc := "([BI)C" } : Jvm.MethodName)) ∈ tblG := tg_of (tb_3 (List.mem_of_getElem? (i := 130) rfl)) rfl
theorem tw_611 : (Jvm.Cond.static ({ cls := "java/lang/StringUTF16", name := "getChar", desc := "([BI)C" } : Jvm.MethodName)) ∈ tblG := tg_of (tb_3 (List.mem_of_getElem? (i := 131) rfl)) rfl
theorem tw_612 : (Jvm.Cond.code ({ cls := "java/lang/StringUTF16", name := "getChar", desc := "([BI)C" } : Jvm.MethodName) prog_18_method_5_code (2 : Nat) (Option.some Jvm.ClassFile.FieldType.char)) ∈ tblG := tg_of (tb_3 (List.mem_of_getElem? (i := 132) rfl)) rfl
theorem tw_613 : (Jvm.Cond.fieldLink "java/lang/StringUTF16" (44 : Nat) "java/lang/StringUTF16" "$assertionsDisabled" "Z") ∈ tblG := tg_of (tb_3 (List.mem_of_getElem? (i := 133) rfl)) rfl
theorem tw_615 : (Jvm.Cond.fieldLink "java/lang/StringUTF16" (59 : Nat) "java/lang/StringUTF16" "HI_BYTE_SHIFT" "I") ∈ tblG := tg_of (tb_3 (List.mem_of_getElem? (i := 135) rfl)) rfl
theorem tw_617 : (Jvm.Cond.fieldLink "java/lang/StringUTF16" (63 : Nat) "java/lang/StringUTF16" "LO_BYTE_SHIFT" "I") ∈ tblG := tg_of (tb_3 (List.mem_of_getElem? (i := 137) rfl)) rfl
theorem tw_619 : (Jvm.Cond.methodLink "NorthWheel$Script" (43 : Nat) ({ cls := "NorthWheel$Script", name := "numberAt", desc := "(I)I" } : Jvm.MethodName)) ∈ tblG := tg_of (tb_3 (List.mem_of_getElem? (i := 139) rfl)) rfl
theorem tw_621 : (Jvm.Cond.instanceMethod ({ cls := "NorthWheel$Script", name := "numberAt", desc := "(I)I" } : Jvm.MethodName)) ∈ tblG := tg_of (tb_3 (List.mem_of_getElem? (i := 141) rfl)) rfl
theorem tw_622 : (Jvm.Cond.code ({ cls := "NorthWheel$Script", name := "numberAt", desc := "(I)I" } : Jvm.MethodName) prog_7_method_8_code (5 : Nat) (Option.some Jvm.ClassFile.FieldType.int)) ∈ tblG := tg_of (tb_3 (List.mem_of_getElem? (i := 142) rfl)) rfl
theorem tw_623 : (Jvm.Cond.fieldLink "NorthWheel$Script" (46 : Nat) "NorthWheel$Script" "LEAST" "[I") ∈ tblG := tg_of (tb_3 (List.mem_of_getElem? (i := 143) rfl)) rfl
theorem tw_625 : (Jvm.Cond.fieldLink "NorthWheel$Script" (49 : Nat) "NorthWheel$Script" "GREATEST" "[I") ∈ tblG := tg_of (tb_3 (List.mem_of_getElem? (i := 145) rfl)) rfl
theorem tn_627 : (Jvm.Cond.methodLinkNest "NorthWheel$Script" (52 : Nat) ({ cls := "NorthWheel", name := "isWithin", desc := "(III)Z" } : Jvm.MethodName) "NorthWheel") ∈ tblN := tn_of (tb_3 (List.mem_of_getElem? (i := 147) rfl)) rfl
theorem tw_628 : (Jvm.Cond.arrayClass Jvm.ClassFile.FieldType.byte) ∈ tblG := tg_of (tb_3 (List.mem_of_getElem? (i := 148) rfl)) rfl
theorem tw_629 : (Jvm.Cond.methodLink "NorthWheelLaw" (89 : Nat) ({ cls := "NorthWheel", name := "steerer", desc := "()I" } : Jvm.MethodName)) ∈ tblG := tg_of (tb_3 (List.mem_of_getElem? (i := 149) rfl)) rfl
theorem tw_630 : (Jvm.Cond.instanceMethod ({ cls := "NorthWheel", name := "steerer", desc := "()I" } : Jvm.MethodName)) ∈ tblG := tg_of (tb_3 (List.mem_of_getElem? (i := 150) rfl)) rfl
theorem tw_631 : (Jvm.Cond.selects "NorthWheel" ({ cls := "NorthWheel", name := "steerer", desc := "()I" } : Jvm.MethodName) ({ cls := "NorthWheel", name := "steerer", desc := "()I" } : Jvm.MethodName)) ∈ tblG := tg_of (tb_3 (List.mem_of_getElem? (i := 151) rfl)) rfl
theorem tw_632 : (Jvm.Cond.code ({ cls := "NorthWheel", name := "steerer", desc := "()I" } : Jvm.MethodName) prog_1_method_19_code (1 : Nat) (Option.some Jvm.ClassFile.FieldType.int)) ∈ tblG := tg_of (tb_3 (List.mem_of_getElem? (i := 152) rfl)) rfl
theorem tn_633 : (Jvm.Cond.methodLinkNest "NorthWheel" (199 : Nat) ({ cls := "NorthWheel$Helm", name := "become", desc := "([I)V" } : Jvm.MethodName) "NorthWheel") ∈ tblN := tn_of (tb_3 (List.mem_of_getElem? (i := 153) rfl)) rfl
theorem tw_635 : (Jvm.Cond.instanceMethod ({ cls := "NorthWheel$Helm", name := "become", desc := "([I)V" } : Jvm.MethodName)) ∈ tblG := tg_of (tb_3 (List.mem_of_getElem? (i := 155) rfl)) rfl
theorem tw_636 : (Jvm.Cond.code ({ cls := "NorthWheel$Helm", name := "become", desc := "([I)V" } : Jvm.MethodName) prog_2_method_3_code (2 : Nat) (Option.none : Option Jvm.ClassFile.FieldType)) ∈ tblG := tg_of (tb_3 (List.mem_of_getElem? (i := 156) rfl)) rfl
theorem tw_637 : (Jvm.Cond.methodLink "NorthWheelLaw" (93 : Nat) ({ cls := "NorthWheel", name := "steers", desc := "(I)I" } : Jvm.MethodName)) ∈ tblG := tg_of (tb_3 (List.mem_of_getElem? (i := 157) rfl)) rfl
theorem tw_638 : (Jvm.Cond.instanceMethod ({ cls := "NorthWheel", name := "steers", desc := "(I)I" } : Jvm.MethodName)) ∈ tblG := tg_of (tb_3 (List.mem_of_getElem? (i := 158) rfl)) rfl
theorem tw_639 : (Jvm.Cond.selects "NorthWheel" ({ cls := "NorthWheel", name := "steers", desc := "(I)I" } : Jvm.MethodName) ({ cls := "NorthWheel", name := "steers", desc := "(I)I" } : Jvm.MethodName)) ∈ tblG := tg_of (tb_3 (List.mem_of_getElem? (i := 159) rfl)) rfl
theorem tw_640 : (Jvm.Cond.code ({ cls := "NorthWheel", name := "steers", desc := "(I)I" } : Jvm.MethodName) prog_1_method_20_code (2 : Nat) (Option.some Jvm.ClassFile.FieldType.int)) ∈ tblG := tg_of (tb_3 (List.mem_of_getElem? (i := 160) rfl)) rfl
theorem tw_641 : (Jvm.Cond.methodLink "NorthWheelLaw" (97 : Nat) ({ cls := "NorthWheel", name := "course", desc := "(I)I" } : Jvm.MethodName)) ∈ tblG := tg_of (tb_3 (List.mem_of_getElem? (i := 161) rfl)) rfl
theorem tw_642 : (Jvm.Cond.instanceMethod ({ cls := "NorthWheel", name := "course", desc := "(I)I" } : Jvm.MethodName)) ∈ tblG := tg_of (tb_3 (List.mem_of_getElem? (i := 162) rfl)) rfl
theorem tw_643 : (Jvm.Cond.selects "NorthWheel" ({ cls := "NorthWheel", name := "course", desc := "(I)I" } : Jvm.MethodName) ({ cls := "NorthWheel", name := "course", desc := "(I)I" } : Jvm.MethodName)) ∈ tblG := tg_of (tb_3 (List.mem_of_getElem? (i := 163) rfl)) rfl
theorem tw_644 : (Jvm.Cond.code ({ cls := "NorthWheel", name := "course", desc := "(I)I" } : Jvm.MethodName) prog_1_method_21_code (3 : Nat) (Option.some Jvm.ClassFile.FieldType.int)) ∈ tblG := tg_of (tb_3 (List.mem_of_getElem? (i := 164) rfl)) rfl
theorem tn_645 : (Jvm.Cond.methodLinkNest "NorthWheel" (210 : Nat) ({ cls := "NorthWheel$Helm", name := "steerFor", desc := "(I)V" } : Jvm.MethodName) "NorthWheel") ∈ tblN := tn_of (tb_3 (List.mem_of_getElem? (i := 165) rfl)) rfl
theorem tw_647 : (Jvm.Cond.instanceMethod ({ cls := "NorthWheel$Helm", name := "steerFor", desc := "(I)V" } : Jvm.MethodName)) ∈ tblG := tg_of (tb_3 (List.mem_of_getElem? (i := 167) rfl)) rfl
theorem tw_648 : (Jvm.Cond.code ({ cls := "NorthWheel$Helm", name := "steerFor", desc := "(I)V" } : Jvm.MethodName) prog_2_method_4_code (2 : Nat) (Option.none : Option Jvm.ClassFile.FieldType)) ∈ tblG := tg_of (tb_3 (List.mem_of_getElem? (i := 168) rfl)) rfl
theorem tw_649 : (Jvm.Cond.methodLink "NorthWheelLaw" (101 : Nat) ({ cls := "NorthWheel", name := "swing", desc := "(IIZI)I" } : Jvm.MethodName)) ∈ tblG := tg_of (tb_3 (List.mem_of_getElem? (i := 169) rfl)) rfl
theorem tw_650 : (Jvm.Cond.instanceMethod ({ cls := "NorthWheel", name := "swing", desc := "(IIZI)I" } : Jvm.MethodName)) ∈ tblG := tg_of (tb_3 (List.mem_of_getElem? (i := 170) rfl)) rfl
theorem tw_651 : (Jvm.Cond.selects "NorthWheel" ({ cls := "NorthWheel", name := "swing", desc := "(IIZI)I" } : Jvm.MethodName) ({ cls := "NorthWheel", name := "swing", desc := "(IIZI)I" } : Jvm.MethodName)) ∈ tblG := tg_of (tb_3 (List.mem_of_getElem? (i := 171) rfl)) rfl
theorem tw_652 : (Jvm.Cond.code ({ cls := "NorthWheel", name := "swing", desc := "(IIZI)I" } : Jvm.MethodName) prog_1_method_22_code (6 : Nat) (Option.some Jvm.ClassFile.FieldType.int)) ∈ tblG := tg_of (tb_3 (List.mem_of_getElem? (i := 172) rfl)) rfl
theorem tn_653 : (Jvm.Cond.methodLinkNest "NorthWheel" (216 : Nat) ({ cls := "NorthWheel$Swings", name := "letSwing", desc := "(LNorthWheel$Pointer;IIZ)V" } : Jvm.MethodName) "NorthWheel") ∈ tblN := tn_of (tb_3 (List.mem_of_getElem? (i := 173) rfl)) rfl
theorem tw_655 : (Jvm.Cond.instanceMethod ({ cls := "NorthWheel$Swings", name := "letSwing", desc := "(LNorthWheel$Pointer;IIZ)V" } : Jvm.MethodName)) ∈ tblG := tg_of (tb_3 (List.mem_of_getElem? (i := 175) rfl)) rfl
theorem tw_656 : (Jvm.Cond.code ({ cls := "NorthWheel$Swings", name := "letSwing", desc := "(LNorthWheel$Pointer;IIZ)V" } : Jvm.MethodName) prog_10_method_2_code (6 : Nat) (Option.none : Option Jvm.ClassFile.FieldType)) ∈ tblG := tg_of (tb_3 (List.mem_of_getElem? (i := 176) rfl)) rfl
theorem tn_657 : (Jvm.Cond.methodLinkNest "NorthWheel$Swings" (18 : Nat) ({ cls := "NorthWheel$Pointer", name := "copyFrom", desc := "(LNorthWheel$Pointer;)V" } : Jvm.MethodName) "NorthWheel") ∈ tblN := tn_of (tb_3 (List.mem_of_getElem? (i := 177) rfl)) rfl
theorem tw_659 : (Jvm.Cond.instanceMethod ({ cls := "NorthWheel$Pointer", name := "copyFrom", desc := "(LNorthWheel$Pointer;)V" } : Jvm.MethodName)) ∈ tblG := tg_of (tb_3 (List.mem_of_getElem? (i := 179) rfl)) rfl
theorem tw_660 : (Jvm.Cond.code ({ cls := "NorthWheel$Pointer", name := "copyFrom", desc := "(LNorthWheel$Pointer;)V" } : Jvm.MethodName) prog_6_method_2_code (2 : Nat) (Option.none : Option Jvm.ClassFile.FieldType)) ∈ tblG := tg_of (tb_3 (List.mem_of_getElem? (i := 180) rfl)) rfl
theorem tn_661 : (Jvm.Cond.methodLinkNest "NorthWheel$Swings" (22 : Nat) ({ cls := "NorthWheel$Pointer", name := "layAt", desc := "(I)V" } : Jvm.MethodName) "NorthWheel") ∈ tblN := tn_of (tb_3 (List.mem_of_getElem? (i := 181) rfl)) rfl
theorem tw_662 : (Jvm.Cond.methodLink "NorthWheel$Swings" (36 : Nat) ({ cls := "NorthWheel$Swings", name := "noteRest", desc := "(I)V" } : Jvm.MethodName)) ∈ tblG := tg_of (tb_3 (List.mem_of_getElem? (i := 182) rfl)) rfl
theorem tw_664 : (Jvm.Cond.instanceMethod ({ cls := "NorthWheel$Swings", name := "noteRest", desc := "(I)V" } : Jvm.MethodName)) ∈ tblG := tg_of (tb_3 (List.mem_of_getElem? (i := 184) rfl)) rfl
theorem tw_665 : (Jvm.Cond.code ({ cls := "NorthWheel$Swings", name := "noteRest", desc := "(I)V" } : Jvm.MethodName) prog_10_method_3_code (2 : Nat) (Option.none : Option Jvm.ClassFile.FieldType)) ∈ tblG := tg_of (tb_3 (List.mem_of_getElem? (i := 185) rfl)) rfl
theorem tw_666 : (Jvm.Cond.methodLink "NorthWheel$Swings" (50 : Nat) ({ cls := "java/lang/Math", name := "abs", desc := "(I)I" } : Jvm.MethodName)) ∈ tblG := tg_of (tb_3 (List.mem_of_getElem? (i := 186) rfl)) rfl
theorem tn_667 : (Jvm.Cond.methodLinkNest "NorthWheel$Swings" (42 : Nat) ({ cls := "NorthWheel$Pointer", name := "sway", desc := "(IIIZ)V" } : Jvm.MethodName) "NorthWheel") ∈ tblN := tn_of (tb_3 (List.mem_of_getElem? (i := 187) rfl)) rfl
theorem tw_668 : (Jvm.Cond.methodLink "NorthWheel$Swings" (46 : Nat) ({ cls := "NorthWheel$Swings", name := "noteCrossing", desc := "(II)V" } : Jvm.MethodName)) ∈ tblG := tg_of (tb_3 (List.mem_of_getElem? (i := 188) rfl)) rfl
theorem tw_670 : (Jvm.Cond.instanceMethod ({ cls := "NorthWheel$Swings", name := "noteCrossing", desc := "(II)V" } : Jvm.MethodName)) ∈ tblG := tg_of (tb_3 (List.mem_of_getElem? (i := 190) rfl)) rfl
theorem tw_671 : (Jvm.Cond.code ({ cls := "NorthWheel$Swings", name := "noteCrossing", desc := "(II)V" } : Jvm.MethodName) prog_10_method_4_code (3 : Nat) (Option.none : Option Jvm.ClassFile.FieldType)) ∈ tblG := tg_of (tb_3 (List.mem_of_getElem? (i := 191) rfl)) rfl
theorem tw_672 : (Jvm.Cond.methodLink "NorthWheelLaw" (106 : Nat) ({ cls := "NorthWheel", name := "noUse", desc := "(I)I" } : Jvm.MethodName)) ∈ tblG := tg_of (tb_3 (List.mem_of_getElem? (i := 192) rfl)) rfl
theorem tw_673 : (Jvm.Cond.instanceMethod ({ cls := "NorthWheel", name := "noUse", desc := "(I)I" } : Jvm.MethodName)) ∈ tblG := tg_of (tb_3 (List.mem_of_getElem? (i := 193) rfl)) rfl
theorem tw_674 : (Jvm.Cond.selects "NorthWheel" ({ cls := "NorthWheel", name := "noUse", desc := "(I)I" } : Jvm.MethodName) ({ cls := "NorthWheel", name := "noUse", desc := "(I)I" } : Jvm.MethodName)) ∈ tblG := tg_of (tb_3 (List.mem_of_getElem? (i := 194) rfl)) rfl
theorem tw_675 : (Jvm.Cond.code ({ cls := "NorthWheel", name := "noUse", desc := "(I)I" } : Jvm.MethodName) prog_1_method_23_code (3 : Nat) (Option.some Jvm.ClassFile.FieldType.int)) ∈ tblG := tg_of (tb_3 (List.mem_of_getElem? (i := 195) rfl)) rfl
theorem tn_676 : (Jvm.Cond.methodLinkNest "NorthWheel" (229 : Nat) ({ cls := "NorthWheel$Swings", name := "firstPlaceWithoutRest", desc := "(LNorthWheel$Pointer;)I" } : Jvm.MethodName) "NorthWheel") ∈ tblN := tn_of (tb_3 (List.mem_of_getElem? (i := 196) rfl)) rfl
theorem tw_678 : (Jvm.Cond.instanceMethod ({ cls := "NorthWheel$Swings", name := "firstPlaceWithoutRest", desc := "(LNorthWheel$Pointer;)I" } : Jvm.MethodName)) ∈ tblG := tg_of (tb_3 (List.mem_of_getElem? (i := 198) rfl)) rfl
theorem tw_679 : (Jvm.Cond.code ({ cls := "NorthWheel$Swings", name := "firstPlaceWithoutRest", desc := "(LNorthWheel$Pointer;)I" } : Jvm.MethodName) prog_10_method_5_code (3 : Nat) (Option.some Jvm.ClassFile.FieldType.int)) ∈ tblG := tg_of (tb_3 (List.mem_of_getElem? (i := 199) rfl)) rfl
theorem tn_680 : (Jvm.Cond.methodLinkNest "NorthWheel$Swings" (56 : Nat) ({ cls := "NorthWheel", name := "holdOf", desc := "(I)I" } : Jvm.MethodName) "NorthWheel") ∈ tblN := tn_of (tb_3 (List.mem_of_getElem? (i := 200) rfl)) rfl
theorem tw_681 : (Jvm.Cond.methodLink "NorthWheel$Swings" (59 : Nat) ({ cls := "NorthWheel$Swings", name := "letSwing", desc := "(LNorthWheel$Pointer;IIZ)V" } : Jvm.MethodName)) ∈ tblG := tg_of (tb_3 (List.mem_of_getElem? (i := 201) rfl)) rfl
theorem tw_682 : (Jvm.Cond.methodLink "NorthWheelLaw" (110 : Nat) ({ cls := "NorthWheel", name := "turned", desc := "(IIII)I" } : Jvm.MethodName)) ∈ tblG := tg_of (tb_3 (List.mem_of_getElem? (i := 202) rfl)) rfl
theorem tw_683 : (Jvm.Cond.instanceMethod ({ cls := "NorthWheel", name := "turned", desc := "(IIII)I" } : Jvm.MethodName)) ∈ tblG := tg_of (tb_3 (List.mem_of_getElem? (i := 203) rfl)) rfl
theorem tw_684 : (Jvm.Cond.selects "NorthWheel" ({ cls := "NorthWheel", name := "turned", desc := "(IIII)I" } : Jvm.MethodName) ({ cls := "NorthWheel", name := "turned", desc := "(IIII)I" } : Jvm.MethodName)) ∈ tblG := tg_of (tb_3 (List.mem_of_getElem? (i := 204) rfl)) rfl
theorem tw_685 : (Jvm.Cond.code ({ cls := "NorthWheel", name := "turned", desc := "(IIII)I" } : Jvm.MethodName) prog_1_method_24_code (6 : Nat) (Option.some Jvm.ClassFile.FieldType.int)) ∈ tblG := tg_of (tb_3 (List.mem_of_getElem? (i := 205) rfl)) rfl
theorem tw_686 : (Jvm.Cond.methodLink "NorthWheel" (233 : Nat) ({ cls := "NorthWheel", name := "isQuickTurn", desc := "(III)Z" } : Jvm.MethodName)) ∈ tblG := tg_of (tb_3 (List.mem_of_getElem? (i := 206) rfl)) rfl
theorem tw_687 : (Jvm.Cond.static ({ cls := "NorthWheel", name := "isQuickTurn", desc := "(III)Z" } : Jvm.MethodName)) ∈ tblG := tg_of (tb_3 (List.mem_of_getElem? (i := 207) rfl)) rfl
theorem tw_688 : (Jvm.Cond.code ({ cls := "NorthWheel", name := "isQuickTurn", desc := "(III)Z" } : Jvm.MethodName) prog_1_method_43_code (3 : Nat) (Option.some Jvm.ClassFile.FieldType.boolean)) ∈ tblG := tg_of (tb_3 (List.mem_of_getElem? (i := 208) rfl)) rfl
theorem tw_689 : (Jvm.Cond.methodLink "NorthWheel" (247 : Nat) ({ cls := "NorthWheel", name := "isTrial", desc := "(I)Z" } : Jvm.MethodName)) ∈ tblG := tg_of (tb_3 (List.mem_of_getElem? (i := 209) rfl)) rfl
theorem tw_690 : (Jvm.Cond.static ({ cls := "NorthWheel", name := "isTrial", desc := "(I)Z" } : Jvm.MethodName)) ∈ tblG := tg_of (tb_3 (List.mem_of_getElem? (i := 210) rfl)) rfl
theorem tw_691 : (Jvm.Cond.code ({ cls := "NorthWheel", name := "isTrial", desc := "(I)Z" } : Jvm.MethodName) prog_1_method_42_code (1 : Nat) (Option.some Jvm.ClassFile.FieldType.boolean)) ∈ tblG := tg_of (tb_3 (List.mem_of_getElem? (i := 211) rfl)) rfl
theorem tn_692 : (Jvm.Cond.methodLinkNest "NorthWheel" (239 : Nat) ({ cls := "NorthWheel$Swings", name := "disturbed", desc := "(LNorthWheel$Pointer;IIIII)I" } : Jvm.MethodName) "NorthWheel") ∈ tblN := tn_of (tb_3 (List.mem_of_getElem? (i := 212) rfl)) rfl
theorem tw_694 : (Jvm.Cond.instanceMethod ({ cls := "NorthWheel$Swings", name := "disturbed", desc := "(LNorthWheel$Pointer;IIIII)I" } : Jvm.MethodName)) ∈ tblG := tg_of (tb_3 (List.mem_of_getElem? (i := 214) rfl)) rfl
theorem tw_695 : (Jvm.Cond.code ({ cls := "NorthWheel$Swings", name := "disturbed", desc := "(LNorthWheel$Pointer;IIIII)I" } : Jvm.MethodName) prog_10_method_6_code (9 : Nat) (Option.some Jvm.ClassFile.FieldType.int)) ∈ tblG := tg_of (tb_3 (List.mem_of_getElem? (i := 215) rfl)) rfl
theorem tw_696 : (Jvm.Cond.methodLink "NorthWheel$Swings" (66 : Nat) ({ cls := "java/lang/Math", name := "max", desc := "(II)I" } : Jvm.MethodName)) ∈ tblG := tg_of (tb_3 (List.mem_of_getElem? (i := 216) rfl)) rfl
theorem tw_697 : (Jvm.Cond.methodLink "NorthWheelLaw" (115 : Nat) ({ cls := "NorthWheel", name := "bestPull", desc := "(IIII)I" } : Jvm.MethodName)) ∈ tblG := tg_of (tb_3 (List.mem_of_getElem? (i := 217) rfl)) rfl
theorem tw_698 : (Jvm.Cond.instanceMethod ({ cls := "NorthWheel", name := "bestPull", desc := "(IIII)I" } : Jvm.MethodName)) ∈ tblG := tg_of (tb_3 (List.mem_of_getElem? (i := 218) rfl)) rfl
theorem tw_699 : (Jvm.Cond.selects "NorthWheel" ({ cls := "NorthWheel", name := "bestPull", desc := "(IIII)I" } : Jvm.MethodName) ({ cls := "NorthWheel", name := "bestPull", desc := "(IIII)I" } : Jvm.MethodName)) ∈ tblG := tg_of (tb_3 (List.mem_of_getElem? (i := 219) rfl)) rfl
theorem tw_700 : (Jvm.Cond.code ({ cls := "NorthWheel", name := "bestPull", desc := "(IIII)I" } : Jvm.MethodName) prog_1_method_25_code (6 : Nat) (Option.some Jvm.ClassFile.FieldType.int)) ∈ tblG := tg_of (tb_3 (List.mem_of_getElem? (i := 220) rfl)) rfl
theorem tn_701 : (Jvm.Cond.methodLinkNest "NorthWheel" (243 : Nat) ({ cls := "NorthWheel$Swings", name := "calmestPull", desc := "(LNorthWheel$Pointer;IIII)I" } : Jvm.MethodName) "NorthWheel") ∈ tblN := tn_of (tb_3 (List.mem_of_getElem? (i := 221) rfl)) rfl
theorem tw_703 : (Jvm.Cond.instanceMethod ({ cls := "NorthWheel$Swings", name := "calmestPull", desc := "(LNorthWheel$Pointer;IIII)I" } : Jvm.MethodName)) ∈ tblG := tg_of (tb_3 (List.mem_of_getElem? (i := 223) rfl)) rfl
theorem tw_704 : (Jvm.Cond.code ({ cls := "NorthWheel$Swings", name := "calmestPull", desc := "(LNorthWheel$Pointer;IIII)I" } : Jvm.MethodName) prog_10_method_7_code (10 : Nat) (Option.some Jvm.ClassFile.FieldType.int)) ∈ tblG := tg_of (tb_3 (List.mem_of_getElem? (i := 224) rfl)) rfl
theorem tw_705 : (Jvm.Cond.methodLink "NorthWheel$Swings" (70 : Nat) ({ cls := "NorthWheel$Swings", name := "disturbed", desc := "(LNorthWheel$Pointer;IIIII)I" } : Jvm.MethodName)) ∈ tblG := tg_of (tb_3 (List.mem_of_getElem? (i := 225) rfl)) rfl
theorem tw_706 : (Jvm.Cond.methodLink "NorthWheelLaw" (119 : Nat) ({ cls := "NorthWheel", name := "kept", desc := "(III)I" } : Jvm.MethodName)) ∈ tblG := tg_of (tb_3 (List.mem_of_getElem? (i := 226) rfl)) rfl
theorem tw_707 : (Jvm.Cond.instanceMethod ({ cls := "NorthWheel", name := "kept", desc := "(III)I" } : Jvm.MethodName)) ∈ tblG := tg_of (tb_3 (List.mem_of_getElem? (i := 227) rfl)) rfl
theorem tw_708 : (Jvm.Cond.selects "NorthWheel" ({ cls := "NorthWheel", name := "kept", desc := "(III)I" } : Jvm.MethodName) ({ cls := "NorthWheel", name := "kept", desc := "(III)I" } : Jvm.MethodName)) ∈ tblG := tg_of (tb_3 (List.mem_of_getElem? (i := 228) rfl)) rfl
theorem tw_709 : (Jvm.Cond.code ({ cls := "NorthWheel", name := "kept", desc := "(III)I" } : Jvm.MethodName) prog_1_method_26_code (4 : Nat) (Option.some Jvm.ClassFile.FieldType.int)) ∈ tblG := tg_of (tb_3 (List.mem_of_getElem? (i := 229) rfl)) rfl
theorem tn_710 : (Jvm.Cond.methodLinkNest "NorthWheel" (250 : Nat) ({ cls := "NorthWheel$Keeping", name := "keep", desc := "(LNorthWheel$Ship;LNorthWheel$Helm;II)V" } : Jvm.MethodName) "NorthWheel") ∈ tblN := tn_of (tb_3 (List.mem_of_getElem? (i := 230) rfl)) rfl
theorem tw_712 : (Jvm.Cond.instanceMethod ({ cls := "NorthWheel$Keeping", name := "keep", desc := "(LNorthWheel$Ship;LNorthWheel$Helm;II)V" } : Jvm.MethodName)) ∈ tblG := tg_of (tb_3 (List.mem_of_getElem? (i := 232) rfl)) rfl
theorem tw_713 : (Jvm.Cond.code ({ cls := "NorthWheel$Keeping", name := "keep", desc := "(LNorthWheel$Ship;LNorthWheel$Helm;II)V" } : Jvm.MethodName) prog_3_method_2_code (6 : Nat) (Option.none : Option Jvm.ClassFile.FieldType)) ∈ tblG := tg_of (tb_3 (List.mem_of_getElem? (i := 233) rfl)) rfl
theorem tn_714 : (Jvm.Cond.methodLinkNest "NorthWheel$Keeping" (17 : Nat) ({ cls := "NorthWheel$Ship", name := "copyFrom", desc := "(LNorthWheel$Ship;)V" } : Jvm.MethodName) "NorthWheel") ∈ tblN := tn_of (tb_3 (List.mem_of_getElem? (i := 234) rfl)) rfl
theorem tw_716 : (Jvm.Cond.instanceMethod ({ cls := "NorthWheel$Ship", name := "copyFrom", desc := "(LNorthWheel$Ship;)V" } : Jvm.MethodName)) ∈ tblG := tg_of (tb_3 (List.mem_of_getElem? (i := 236) rfl)) rfl
theorem tw_717 : (Jvm.Cond.code ({ cls := "NorthWheel$Ship", name := "copyFrom", desc := "(LNorthWheel$Ship;)V" } : Jvm.MethodName) prog_9_method_2_code (3 : Nat) (Option.none : Option Jvm.ClassFile.FieldType)) ∈ tblG := tg_of (tb_3 (List.mem_of_getElem? (i := 237) rfl)) rfl
theorem tn_718 : (Jvm.Cond.methodLinkNest "NorthWheel$Ship" (45 : Nat) ({ cls := "NorthWheel$Pointer", name := "copyFrom", desc := "(LNorthWheel$Pointer;)V" } : Jvm.MethodName) "NorthWheel") ∈ tblN := tn_of (tb_3 (List.mem_of_getElem? (i := 238) rfl)) rfl
theorem tn_719 : (Jvm.Cond.methodLinkNest "NorthWheel$Keeping" (23 : Nat) ({ cls := "NorthWheel$Helm", name := "copyFrom", desc := "(LNorthWheel$Helm;)V" } : Jvm.MethodName) "NorthWheel") ∈ tblN := tn_of (tb_3 (List.mem_of_getElem? (i := 239) rfl)) rfl
theorem tw_721 : (Jvm.Cond.instanceMethod ({ cls := "NorthWheel$Helm", name := "copyFrom", desc := "(LNorthWheel$Helm;)V" } : Jvm.MethodName)) ∈ tblG := tg_of (tb_4 (List.mem_of_getElem? (i := 1) rfl)) rfl
theorem tw_722 : (Jvm.Cond.code ({ cls := "NorthWheel$Helm", name := "copyFrom", desc := "(LNorthWheel$Helm;)V" } : Jvm.MethodName) prog_2_method_2_code (2 : Nat) (Option.none : Option Jvm.ClassFile.FieldType)) ∈ tblG := tg_of (tb_4 (List.mem_of_getElem? (i := 2) rfl)) rfl
theorem tn_723 : (Jvm.Cond.methodLinkNest "NorthWheel$Keeping" (32 : Nat) ({ cls := "NorthWheel$Ship", name := "stopAllBut", desc := "(I)V" } : Jvm.MethodName) "NorthWheel") ∈ tblN := tn_of (tb_4 (List.mem_of_getElem? (i := 3) rfl)) rfl
theorem tw_725 : (Jvm.Cond.instanceMethod ({ cls := "NorthWheel$Ship", name := "stopAllBut", desc := "(I)V" } : Jvm.MethodName)) ∈ tblG := tg_of (tb_4 (List.mem_of_getElem? (i := 5) rfl)) rfl
theorem tw_726 : (Jvm.Cond.code ({ cls := "NorthWheel$Ship", name := "stopAllBut", desc := "(I)V" } : Jvm.MethodName) prog_9_method_3_code (3 : Nat) (Option.none : Option Jvm.ClassFile.FieldType)) ∈ tblG := tg_of (tb_4 (List.mem_of_getElem? (i := 6) rfl)) rfl
theorem tn_727 : (Jvm.Cond.methodLinkNest "NorthWheel$Keeping" (43 : Nat) ({ cls := "NorthWheel$Helm", name := "steerShip", desc := "(LNorthWheel$Ship;)V" } : Jvm.MethodName) "NorthWheel") ∈ tblN := tn_of (tb_4 (List.mem_of_getElem? (i := 7) rfl)) rfl
theorem tn_728 : (Jvm.Cond.methodLinkNest "NorthWheel$Keeping" (46 : Nat) ({ cls := "NorthWheel$Ship", name := "tick", desc := "()V" } : Jvm.MethodName) "NorthWheel") ∈ tblN := tn_of (tb_4 (List.mem_of_getElem? (i := 8) rfl)) rfl
theorem tw_729 : (Jvm.Cond.methodLink "NorthWheel$Keeping" (52 : Nat) ({ cls := "java/lang/Math", name := "abs", desc := "(I)I" } : Jvm.MethodName)) ∈ tblG := tg_of (tb_4 (List.mem_of_getElem? (i := 9) rfl)) rfl
theorem tn_730 : (Jvm.Cond.methodLinkNest "NorthWheel$Keeping" (64 : Nat) ({ cls := "NorthWheel", name := "apart", desc := "(II)I" } : Jvm.MethodName) "NorthWheel") ∈ tblN := tn_of (tb_4 (List.mem_of_getElem? (i := 10) rfl)) rfl
theorem tw_731 : (Jvm.Cond.static ({ cls := "NorthWheel", name := "apart", desc := "(II)I" } : Jvm.MethodName)) ∈ tblG := tg_of (tb_4 (List.mem_of_getElem? (i := 11) rfl)) rfl
theorem tw_732 : (Jvm.Cond.code ({ cls := "NorthWheel", name := "apart", desc := "(II)I" } : Jvm.MethodName) prog_1_method_46_code (2 : Nat) (Option.some Jvm.ClassFile.FieldType.int)) ∈ tblG := tg_of (tb_4 (List.mem_of_getElem? (i := 12) rfl)) rfl
theorem tw_733 : (Jvm.Cond.methodLink "NorthWheel" (302 : Nat) ({ cls := "NorthWheel", name := "asOff", desc := "(I)I" } : Jvm.MethodName)) ∈ tblG := tg_of (tb_4 (List.mem_of_getElem? (i := 13) rfl)) rfl
theorem tw_734 : (Jvm.Cond.methodLink "NorthWheel$Keeping" (70 : Nat) ({ cls := "java/lang/Math", name := "max", desc := "(II)I" } : Jvm.MethodName)) ∈ tblG := tg_of (tb_4 (List.mem_of_getElem? (i := 14) rfl)) rfl
theorem tw_735 : (Jvm.Cond.methodLink "NorthWheelLaw" (123 : Nat) ({ cls := "NorthWheel", name := "bestDead", desc := "(II)I" } : Jvm.MethodName)) ∈ tblG := tg_of (tb_4 (List.mem_of_getElem? (i := 15) rfl)) rfl
theorem tw_736 : (Jvm.Cond.instanceMethod ({ cls := "NorthWheel", name := "bestDead", desc := "(II)I" } : Jvm.MethodName)) ∈ tblG := tg_of (tb_4 (List.mem_of_getElem? (i := 16) rfl)) rfl
theorem tw_737 : (Jvm.Cond.selects "NorthWheel" ({ cls := "NorthWheel", name := "bestDead", desc := "(II)I" } : Jvm.MethodName) ({ cls := "NorthWheel", name := "bestDead", desc := "(II)I" } : Jvm.MethodName)) ∈ tblG := tg_of (tb_4 (List.mem_of_getElem? (i := 17) rfl)) rfl
theorem tw_738 : (Jvm.Cond.code ({ cls := "NorthWheel", name := "bestDead", desc := "(II)I" } : Jvm.MethodName) prog_1_method_27_code (6 : Nat) (Option.some Jvm.ClassFile.FieldType.int)) ∈ tblG := tg_of (tb_4 (List.mem_of_getElem? (i := 18) rfl)) rfl
theorem tw_739 : (Jvm.Cond.methodLink "NorthWheelLaw" (127 : Nat) ({ cls := "NorthWheel", name := "look", desc := "(III)I" } : Jvm.MethodName)) ∈ tblG := tg_of (tb_4 (List.mem_of_getElem? (i := 19) rfl)) rfl
theorem tw_740 : (Jvm.Cond.instanceMethod ({ cls := "NorthWheel", name := "look", desc := "(III)I" } : Jvm.MethodName)) ∈ tblG := tg_of (tb_4 (List.mem_of_getElem? (i := 20) rfl)) rfl
theorem tw_741 : (Jvm.Cond.selects "NorthWheel" ({ cls := "NorthWheel", name := "look", desc := "(III)I" } : Jvm.MethodName) ({ cls := "NorthWheel", name := "look", desc := "(III)I" } : Jvm.MethodName)) ∈ tblG := tg_of (tb_4 (List.mem_of_getElem? (i := 21) rfl)) rfl
theorem tw_742 : (Jvm.Cond.code ({ cls := "NorthWheel", name := "look", desc := "(III)I" } : Jvm.MethodName) prog_1_method_28_code (4 : Nat) (Option.some Jvm.ClassFile.FieldType.int)) ∈ tblG := tg_of (tb_4 (List.mem_of_getElem? (i := 22) rfl)) rfl
theorem tn_743 : (Jvm.Cond.methodLinkNest "NorthWheel" (260 : Nat) ({ cls := "NorthWheel$Looks", name := "add", desc := "(III)I" } : Jvm.MethodName) "NorthWheel") ∈ tblN := tn_of (tb_4 (List.mem_of_getElem? (i := 23) rfl)) rfl
theorem tw_745 : (Jvm.Cond.instanceMethod ({ cls := "NorthWheel$Looks", name := "add", desc := "(III)I" } : Jvm.MethodName)) ∈ tblG := tg_of (tb_4 (List.mem_of_getElem? (i := 25) rfl)) rfl
theorem tw_746 : (Jvm.Cond.code ({ cls := "NorthWheel$Looks", name := "add", desc := "(III)I" } : Jvm.MethodName) prog_4_method_2_code (5 : Nat) (Option.some Jvm.ClassFile.FieldType.int)) ∈ tblG := tg_of (tb_4 (List.mem_of_getElem? (i := 26) rfl)) rfl
theorem tw_747 : (Jvm.Cond.methodLink "NorthWheelLaw" (131 : Nat) ({ cls := "NorthWheel", name := "wrong", desc := "(II)I" } : Jvm.MethodName)) ∈ tblG := tg_of (tb_4 (List.mem_of_getElem? (i := 27) rfl)) rfl
theorem tw_748 : (Jvm.Cond.instanceMethod ({ cls := "NorthWheel", name := "wrong", desc := "(II)I" } : Jvm.MethodName)) ∈ tblG := tg_of (tb_4 (List.mem_of_getElem? (i := 28) rfl)) rfl
theorem tw_749 : (Jvm.Cond.selects "NorthWheel" ({ cls := "NorthWheel", name := "wrong", desc := "(II)I" } : Jvm.MethodName) ({ cls := "NorthWheel", name := "wrong", desc := "(II)I" } : Jvm.MethodName)) ∈ tblG := tg_of (tb_4 (List.mem_of_getElem? (i := 29) rfl)) rfl
theorem tw_750 : (Jvm.Cond.code ({ cls := "NorthWheel", name := "wrong", desc := "(II)I" } : Jvm.MethodName) prog_1_method_29_code (3 : Nat) (Option.some Jvm.ClassFile.FieldType.int)) ∈ tblG := tg_of (tb_4 (List.mem_of_getElem? (i := 30) rfl)) rfl
theorem tn_751 : (Jvm.Cond.methodLinkNest "NorthWheel" (262 : Nat) ({ cls := "NorthWheel$Looks", name := "wrongInEach", desc := "(I)I" } : Jvm.MethodName) "NorthWheel") ∈ tblN := tn_of (tb_4 (List.mem_of_getElem? (i := 31) rfl)) rfl
theorem tw_753 : (Jvm.Cond.instanceMethod ({ cls := "NorthWheel$Looks", name := "wrongInEach", desc := "(I)I" } : Jvm.MethodName)) ∈ tblG := tg_of (tb_4 (List.mem_of_getElem? (i := 33) rfl)) rfl
theorem tw_754 : (Jvm.Cond.code ({ cls := "NorthWheel$Looks", name := "wrongInEach", desc := "(I)I" } : Jvm.MethodName) prog_4_method_3_code (4 : Nat) (Option.some Jvm.ClassFile.FieldType.int)) ∈ tblG := tg_of (tb_4 (List.mem_of_getElem? (i := 34) rfl)) rfl
theorem tw_755 : (Jvm.Cond.methodLink "NorthWheel$Looks" (19 : Nat) ({ cls := "NorthWheel$Looks", name := "wrongIn", desc := "(II)I" } : Jvm.MethodName)) ∈ tblG := tg_of (tb_4 (List.mem_of_getElem? (i := 35) rfl)) rfl
theorem tw_757 : (Jvm.Cond.instanceMethod ({ cls := "NorthWheel$Looks", name := "wrongIn", desc := "(II)I" } : Jvm.MethodName)) ∈ tblG := tg_of (tb_4 (List.mem_of_getElem? (i := 37) rfl)) rfl
theorem tw_758 : (Jvm.Cond.code ({ cls := "NorthWheel$Looks", name := "wrongIn", desc := "(II)I" } : Jvm.MethodName) prog_4_method_5_code (7 : Nat) (Option.some Jvm.ClassFile.FieldType.int)) ∈ tblG := tg_of (tb_4 (List.mem_of_getElem? (i := 38) rfl)) rfl
theorem tn_759 : (Jvm.Cond.methodLinkNest "NorthWheel$Looks" (23 : Nat) ({ cls := "NorthWheel", name := "apart", desc := "(II)I" } : Jvm.MethodName) "NorthWheel") ∈ tblN := tn_of (tb_4 (List.mem_of_getElem? (i := 39) rfl)) rfl
theorem tn_760 : (Jvm.Cond.methodLinkNest "NorthWheel" (265 : Nat) ({ cls := "NorthWheel$Looks", name := "wrongInSome", desc := "(I)I" } : Jvm.MethodName) "NorthWheel") ∈ tblN := tn_of (tb_4 (List.mem_of_getElem? (i := 40) rfl)) rfl
theorem tw_762 : (Jvm.Cond.instanceMethod ({ cls := "NorthWheel$Looks", name := "wrongInSome", desc := "(I)I" } : Jvm.MethodName)) ∈ tblG := tg_of (tb_4 (List.mem_of_getElem? (i := 42) rfl)) rfl
theorem tw_763 : (Jvm.Cond.code ({ cls := "NorthWheel$Looks", name := "wrongInSome", desc := "(I)I" } : Jvm.MethodName) prog_4_method_4_code (4 : Nat) (Option.some Jvm.ClassFile.FieldType.int)) ∈ tblG := tg_of (tb_4 (List.mem_of_getElem? (i := 43) rfl)) rfl
theorem tw_764 : (Jvm.Cond.methodLink "NorthWheelLaw" (135 : Nat) ({ cls := "NorthWheel", name := "about", desc := "(II)I" } : Jvm.MethodName)) ∈ tblG := tg_of (tb_4 (List.mem_of_getElem? (i := 44) rfl)) rfl
theorem tw_765 : (Jvm.Cond.instanceMethod ({ cls := "NorthWheel", name := "about", desc := "(II)I" } : Jvm.MethodName)) ∈ tblG := tg_of (tb_4 (List.mem_of_getElem? (i := 45) rfl)) rfl
theorem tw_766 : (Jvm.Cond.selects "NorthWheel" ({ cls := "NorthWheel", name := "about", desc := "(II)I" } : Jvm.MethodName) ({ cls := "NorthWheel", name := "about", desc := "(II)I" } : Jvm.MethodName)) ∈ tblG := tg_of (tb_4 (List.mem_of_getElem? (i := 46) rfl)) rfl
theorem tw_767 : (Jvm.Cond.code ({ cls := "NorthWheel", name := "about", desc := "(II)I" } : Jvm.MethodName) prog_1_method_30_code (3 : Nat) (Option.some Jvm.ClassFile.FieldType.int)) ∈ tblG := tg_of (tb_4 (List.mem_of_getElem? (i := 47) rfl)) rfl
theorem tn_768 : (Jvm.Cond.methodLinkNest "NorthWheel" (268 : Nat) ({ cls := "NorthWheel$TurnedAbout", name := "add", desc := "(II)I" } : Jvm.MethodName) "NorthWheel") ∈ tblN := tn_of (tb_4 (List.mem_of_getElem? (i := 48) rfl)) rfl
theorem tw_770 : (Jvm.Cond.instanceMethod ({ cls := "NorthWheel$TurnedAbout", name := "add", desc := "(II)I" } : Jvm.MethodName)) ∈ tblG := tg_of (tb_4 (List.mem_of_getElem? (i := 50) rfl)) rfl
theorem tw_771 : (Jvm.Cond.code ({ cls := "NorthWheel$TurnedAbout", name := "add", desc := "(II)I" } : Jvm.MethodName) prog_11_method_2_code (5 : Nat) (Option.some Jvm.ClassFile.FieldType.int)) ∈ tblG := tg_of (tb_4 (List.mem_of_getElem? (i := 51) rfl)) rfl
theorem tn_772 : (Jvm.Cond.methodLinkNest "NorthWheel$TurnedAbout" (25 : Nat) ({ cls := "NorthWheel", name := "asHeading", desc := "(I)I" } : Jvm.MethodName) "NorthWheel") ∈ tblN := tn_of (tb_4 (List.mem_of_getElem? (i := 52) rfl)) rfl
theorem tn_773 : (Jvm.Cond.methodLinkNest "NorthWheel$TurnedAbout" (29 : Nat) ({ cls := "NorthWheel", name := "asOff", desc := "(I)I" } : Jvm.MethodName) "NorthWheel") ∈ tblN := tn_of (tb_4 (List.mem_of_getElem? (i := 53) rfl)) rfl
theorem tw_774 : (Jvm.Cond.methodLink "NorthWheel$TurnedAbout" (32 : Nat) ({ cls := "java/lang/Math", name := "min", desc := "(II)I" } : Jvm.MethodName)) ∈ tblG := tg_of (tb_4 (List.mem_of_getElem? (i := 54) rfl)) rfl
theorem tw_775 : (Jvm.Cond.methodLink "NorthWheel$TurnedAbout" (38 : Nat) ({ cls := "java/lang/Math", name := "max", desc := "(II)I" } : Jvm.MethodName)) ∈ tblG := tg_of (tb_4 (List.mem_of_getElem? (i := 55) rfl)) rfl
theorem tw_776 : (Jvm.Cond.methodLink "NorthWheelLaw" (139 : Nat) ({ cls := "NorthWheel", name := "needle", desc := "(II)I" } : Jvm.MethodName)) ∈ tblG := tg_of (tb_4 (List.mem_of_getElem? (i := 56) rfl)) rfl
theorem tw_777 : (Jvm.Cond.instanceMethod ({ cls := "NorthWheel", name := "needle", desc := "(II)I" } : Jvm.MethodName)) ∈ tblG := tg_of (tb_4 (List.mem_of_getElem? (i := 57) rfl)) rfl
theorem tw_778 : (Jvm.Cond.selects "NorthWheel" ({ cls := "NorthWheel", name := "needle", desc := "(II)I" } : Jvm.MethodName) ({ cls := "NorthWheel", name := "needle", desc := "(II)I" } : Jvm.MethodName)) ∈ tblG := tg_of (tb_4 (List.mem_of_getElem? (i := 58) rfl)) rfl
theorem tw_779 : (Jvm.Cond.code ({ cls := "NorthWheel", name := "needle", desc := "(II)I" } : Jvm.MethodName) prog_1_method_31_code (3 : Nat) (Option.some Jvm.ClassFile.FieldType.int)) ∈ tblG := tg_of (tb_4 (List.mem_of_getElem? (i := 59) rfl)) rfl
theorem tw_780 : (Jvm.Cond.methodLink "NorthWheelLaw" (143 : Nat) ({ cls := "NorthWheel", name := "watch", desc := "(II)I" } : Jvm.MethodName)) ∈ tblG := tg_of (tb_4 (List.mem_of_getElem? (i := 60) rfl)) rfl
theorem tw_781 : (Jvm.Cond.instanceMethod ({ cls := "NorthWheel", name := "watch", desc := "(II)I" } : Jvm.MethodName)) ∈ tblG := tg_of (tb_4 (List.mem_of_getElem? (i := 61) rfl)) rfl
theorem tw_782 : (Jvm.Cond.selects "NorthWheel" ({ cls := "NorthWheel", name := "watch", desc := "(II)I" } : Jvm.MethodName) ({ cls := "NorthWheel", name := "watch", desc := "(II)I" } : Jvm.MethodName)) ∈ tblG := tg_of (tb_4 (List.mem_of_getElem? (i := 62) rfl)) rfl
theorem tw_783 : (Jvm.Cond.code ({ cls := "NorthWheel", name := "watch", desc := "(II)I" } : Jvm.MethodName) prog_1_method_32_code (3 : Nat) (Option.some Jvm.ClassFile.FieldType.int)) ∈ tblG := tg_of (tb_4 (List.mem_of_getElem? (i := 63) rfl)) rfl
theorem tn_784 : (Jvm.Cond.methodLinkNest "NorthWheel" (279 : Nat) ({ cls := "NorthWheel$Watched", name := "add", desc := "(II)I" } : Jvm.MethodName) "NorthWheel") ∈ tblN := tn_of (tb_4 (List.mem_of_getElem? (i := 64) rfl)) rfl
theorem tw_786 : (Jvm.Cond.instanceMethod ({ cls := "NorthWheel$Watched", name := "add", desc := "(II)I" } : Jvm.MethodName)) ∈ tblG := tg_of (tb_4 (List.mem_of_getElem? (i := 66) rfl)) rfl
theorem tw_787 : (Jvm.Cond.code ({ cls := "NorthWheel$Watched", name := "add", desc := "(II)I" } : Jvm.MethodName) prog_12_method_2_code (3 : Nat) (Option.some Jvm.ClassFile.FieldType.int)) ∈ tblG := tg_of (tb_4 (List.mem_of_getElem? (i := 67) rfl)) rfl
theorem tw_788 : (Jvm.Cond.methodLink "NorthWheelLaw" (147 : Nat) ({ cls := "NorthWheel", name := "may", desc := "(II)I" } : Jvm.MethodName)) ∈ tblG := tg_of (tb_4 (List.mem_of_getElem? (i := 68) rfl)) rfl
theorem tw_789 : (Jvm.Cond.instanceMethod ({ cls := "NorthWheel", name := "may", desc := "(II)I" } : Jvm.MethodName)) ∈ tblG := tg_of (tb_4 (List.mem_of_getElem? (i := 69) rfl)) rfl
theorem tw_790 : (Jvm.Cond.selects "NorthWheel" ({ cls := "NorthWheel", name := "may", desc := "(II)I" } : Jvm.MethodName) ({ cls := "NorthWheel", name := "may", desc := "(II)I" } : Jvm.MethodName)) ∈ tblG := tg_of (tb_4 (List.mem_of_getElem? (i := 70) rfl)) rfl
theorem tw_791 : (Jvm.Cond.code ({ cls := "NorthWheel", name := "may", desc := "(II)I" } : Jvm.MethodName) prog_1_method_33_code (3 : Nat) (Option.some Jvm.ClassFile.FieldType.int)) ∈ tblG := tg_of (tb_4 (List.mem_of_getElem? (i := 71) rfl)) rfl
theorem tn_792 : (Jvm.Cond.methodLinkNest "NorthWheel" (280 : Nat) ({ cls := "NorthWheel$Watched", name := "findThoseThatFit", desc := "(I)V" } : Jvm.MethodName) "NorthWheel") ∈ tblN := tn_of (tb_4 (List.mem_of_getElem? (i := 72) rfl)) rfl
theorem tw_794 : (Jvm.Cond.instanceMethod ({ cls := "NorthWheel$Watched", name := "findThoseThatFit", desc := "(I)V" } : Jvm.MethodName)) ∈ tblG := tg_of (tb_4 (List.mem_of_getElem? (i := 74) rfl)) rfl
theorem tw_795 : (Jvm.Cond.code ({ cls := "NorthWheel$Watched", name := "findThoseThatFit", desc := "(I)V" } : Jvm.MethodName) prog_12_method_3_code (4 : Nat) (Option.none : Option Jvm.ClassFile.FieldType)) ∈ tblG := tg_of (tb_4 (List.mem_of_getElem? (i := 75) rfl)) rfl
theorem tw_796 : (Jvm.Cond.methodLink "NorthWheel$Watched" (44 : Nat) ({ cls := "NorthWheel$Watched", name := "follow", desc := "(II)V" } : Jvm.MethodName)) ∈ tblG := tg_of (tb_4 (List.mem_of_getElem? (i := 76) rfl)) rfl
theorem tw_798 : (Jvm.Cond.instanceMethod ({ cls := "NorthWheel$Watched", name := "follow", desc := "(II)V" } : Jvm.MethodName)) ∈ tblG := tg_of (tb_4 (List.mem_of_getElem? (i := 78) rfl)) rfl
theorem tw_799 : (Jvm.Cond.code ({ cls := "NorthWheel$Watched", name := "follow", desc := "(II)V" } : Jvm.MethodName) prog_12_method_4_code (4 : Nat) (Option.none : Option Jvm.ClassFile.FieldType)) ∈ tblG := tg_of (tb_4 (List.mem_of_getElem? (i := 79) rfl)) rfl
theorem tn_800 : (Jvm.Cond.methodLinkNest "NorthWheel$Watched" (61 : Nat) ({ cls := "NorthWheel$Pointer", name := "layAt", desc := "(I)V" } : Jvm.MethodName) "NorthWheel") ∈ tblN := tn_of (tb_4 (List.mem_of_getElem? (i := 80) rfl)) rfl
theorem tn_801 : (Jvm.Cond.methodLinkNest "NorthWheel$Watched" (65 : Nat) ({ cls := "NorthWheel", name := "holdOf", desc := "(I)I" } : Jvm.MethodName) "NorthWheel") ∈ tblN := tn_of (tb_4 (List.mem_of_getElem? (i := 81) rfl)) rfl
theorem tn_802 : (Jvm.Cond.methodLinkNest "NorthWheel$Watched" (72 : Nat) ({ cls := "NorthWheel$Pointer", name := "sway", desc := "(IIIZ)V" } : Jvm.MethodName) "NorthWheel") ∈ tblN := tn_of (tb_4 (List.mem_of_getElem? (i := 82) rfl)) rfl
theorem tw_803 : (Jvm.Cond.methodLink "NorthWheel$Watched" (48 : Nat) ({ cls := "NorthWheel$Watched", name := "fits", desc := "(I)Z" } : Jvm.MethodName)) ∈ tblG := tg_of (tb_4 (List.mem_of_getElem? (i := 83) rfl)) rfl
theorem tw_805 : (Jvm.Cond.instanceMethod ({ cls := "NorthWheel$Watched", name := "fits", desc := "(I)Z" } : Jvm.MethodName)) ∈ tblG := tg_of (tb_4 (List.mem_of_getElem? (i := 85) rfl)) rfl
theorem tw_806 : (Jvm.Cond.code ({ cls := "NorthWheel$Watched", name := "fits", desc := "(I)Z" } : Jvm.MethodName) prog_12_method_5_code (3 : Nat) (Option.some Jvm.ClassFile.FieldType.boolean)) ∈ tblG := tg_of (tb_4 (List.mem_of_getElem? (i := 86) rfl)) rfl
theorem tn_807 : (Jvm.Cond.methodLinkNest "NorthWheel$Watched" (76 : Nat) ({ cls := "NorthWheel", name := "apart", desc := "(II)I" } : Jvm.MethodName) "NorthWheel") ∈ tblN := tn_of (tb_4 (List.mem_of_getElem? (i := 87) rfl)) rfl
theorem tw_808 : (Jvm.Cond.methodLink "NorthWheel$Watched" (52 : Nat) ({ cls := "NorthWheel$Watched", name := "widen", desc := "()V" } : Jvm.MethodName)) ∈ tblG := tg_of (tb_4 (List.mem_of_getElem? (i := 88) rfl)) rfl
theorem tw_810 : (Jvm.Cond.instanceMethod ({ cls := "NorthWheel$Watched", name := "widen", desc := "()V" } : Jvm.MethodName)) ∈ tblG := tg_of (tb_4 (List.mem_of_getElem? (i := 90) rfl)) rfl
theorem tw_811 : (Jvm.Cond.code ({ cls := "NorthWheel$Watched", name := "widen", desc := "()V" } : Jvm.MethodName) prog_12_method_6_code (2 : Nat) (Option.none : Option Jvm.ClassFile.FieldType)) ∈ tblG := tg_of (tb_4 (List.mem_of_getElem? (i := 91) rfl)) rfl
theorem tw_812 : (Jvm.Cond.methodLink "NorthWheel$Watched" (80 : Nat) ({ cls := "java/lang/Math", name := "min", desc := "(II)I" } : Jvm.MethodName)) ∈ tblG := tg_of (tb_4 (List.mem_of_getElem? (i := 92) rfl)) rfl
theorem tw_813 : (Jvm.Cond.methodLink "NorthWheel$Watched" (85 : Nat) ({ cls := "java/lang/Math", name := "max", desc := "(II)I" } : Jvm.MethodName)) ∈ tblG := tg_of (tb_4 (List.mem_of_getElem? (i := 93) rfl)) rfl
theorem tn_814 : (Jvm.Cond.methodLinkNest "NorthWheel" (289 : Nat) ({ cls := "NorthWheel$Watched", name := "widestTick", desc := "()I" } : Jvm.MethodName) "NorthWheel") ∈ tblN := tn_of (tb_4 (List.mem_of_getElem? (i := 94) rfl)) rfl
theorem tw_816 : (Jvm.Cond.instanceMethod ({ cls := "NorthWheel$Watched", name := "widestTick", desc := "()I" } : Jvm.MethodName)) ∈ tblG := tg_of (tb_4 (List.mem_of_getElem? (i := 96) rfl)) rfl
theorem tw_817 : (Jvm.Cond.code ({ cls := "NorthWheel$Watched", name := "widestTick", desc := "()I" } : Jvm.MethodName) prog_12_method_7_code (3 : Nat) (Option.some Jvm.ClassFile.FieldType.int)) ∈ tblG := tg_of (tb_4 (List.mem_of_getElem? (i := 97) rfl)) rfl
theorem tw_818 : (Jvm.Cond.methodLink "NorthWheelLaw" (151 : Nat) ({ cls := "NorthWheel", name := "count", desc := "(I)I" } : Jvm.MethodName)) ∈ tblG := tg_of (tb_4 (List.mem_of_getElem? (i := 98) rfl)) rfl
theorem tw_819 : (Jvm.Cond.instanceMethod ({ cls := "NorthWheel", name := "count", desc := "(I)I" } : Jvm.MethodName)) ∈ tblG := tg_of (tb_4 (List.mem_of_getElem? (i := 99) rfl)) rfl
theorem tw_820 : (Jvm.Cond.selects "NorthWheel" ({ cls := "NorthWheel", name := "count", desc := "(I)I" } : Jvm.MethodName) ({ cls := "NorthWheel", name := "count", desc := "(I)I" } : Jvm.MethodName)) ∈ tblG := tg_of (tb_4 (List.mem_of_getElem? (i := 100) rfl)) rfl
theorem tw_821 : (Jvm.Cond.code ({ cls := "NorthWheel", name := "count", desc := "(I)I" } : Jvm.MethodName) prog_1_method_34_code (2 : Nat) (Option.some Jvm.ClassFile.FieldType.int)) ∈ tblG := tg_of (tb_4 (List.mem_of_getElem? (i := 101) rfl)) rfl
theorem tw_822 : (Jvm.Cond.classLink "NorthWheelLaw" (10 : Nat) "NorthWheelModel") ∈ tblG := tg_of (tb_4 (List.mem_of_getElem? (i := 102) rfl)) rfl
theorem tw_823 : (Jvm.Cond.instantiable "NorthWheelModel" (37 : Nat)) ∈ tblG := tg_of (tb_4 (List.mem_of_getElem? (i := 103) rfl)) rfl
theorem tw_824 : (Jvm.Cond.methodLink "NorthWheelLaw" (12 : Nat) ({ cls := "NorthWheelModel", name := "<init>", desc := "()V" } : Jvm.MethodName)) ∈ tblG := tg_of (tb_4 (List.mem_of_getElem? (i := 104) rfl)) rfl
theorem tw_825 : (Jvm.Cond.instanceMethod ({ cls := "NorthWheelModel", name := "<init>", desc := "()V" } : Jvm.MethodName)) ∈ tblG := tg_of (tb_4 (List.mem_of_getElem? (i := 105) rfl)) rfl
theorem tw_826 : (Jvm.Cond.code ({ cls := "NorthWheelModel", name := "<init>", desc := "()V" } : Jvm.MethodName) prog_14_method_1_code (1 : Nat) (Option.none : Option Jvm.ClassFile.FieldType)) ∈ tblG := tg_of (tb_4 (List.mem_of_getElem? (i := 106) rfl)) rfl
theorem tw_827 : (Jvm.Cond.methodLink "NorthWheelModel" (1 : Nat) ({ cls := "java/lang/Object", name := "<init>", desc := "()V" } : Jvm.MethodName)) ∈ tblG := tg_of (tb_4 (List.mem_of_getElem? (i := 107) rfl)) rfl
theorem tw_828 : (Jvm.Cond.fieldLink "NorthWheelModel" (7 : Nat) "NorthWheelModel" "ship" "[I") ∈ tblG := tg_of (tb_4 (List.mem_of_getElem? (i := 108) rfl)) rfl
theorem tw_829 : (Jvm.Cond.fieldLink "NorthWheelModel" (13 : Nat) "NorthWheelModel" "heading" "[I") ∈ tblG := tg_of (tb_4 (List.mem_of_getElem? (i := 109) rfl)) rfl
theorem tw_830 : (Jvm.Cond.fieldLink "NorthWheelModel" (16 : Nat) "NorthWheelModel" "ticks" "[I") ∈ tblG := tg_of (tb_4 (List.mem_of_getElem? (i := 110) rfl)) rfl
theorem tw_831 : (Jvm.Cond.fieldLink "NorthWheelModel" (19 : Nat) "NorthWheelModel" "looked" "[I") ∈ tblG := tg_of (tb_4 (List.mem_of_getElem? (i := 111) rfl)) rfl
theorem tw_832 : (Jvm.Cond.fieldLink "NorthWheelModel" (22 : Nat) "NorthWheelModel" "seas" "[I") ∈ tblG := tg_of (tb_4 (List.mem_of_getElem? (i := 112) rfl)) rfl
theorem tw_833 : (Jvm.Cond.fieldLink "NorthWheelModel" (123 : Nat) "NorthWheelModel" "seaMany" "I") ∈ tblG := tg_of (tb_4 (List.mem_of_getElem? (i := 113) rfl)) rfl
theorem tw_834 : (Jvm.Cond.fieldLink "NorthWheelModel" (25 : Nat) "NorthWheelModel" "kinds" "[I") ∈ tblG := tg_of (tb_4 (List.mem_of_getElem? (i := 114) rfl)) rfl
theorem tw_835 : (Jvm.Cond.fieldLink "NorthWheelModel" (28 : Nat) "NorthWheelModel" "pulls" "[I") ∈ tblG := tg_of (tb_4 (List.mem_of_getElem? (i := 115) rfl)) rfl
theorem tw_836 : (Jvm.Cond.fieldLink "NorthWheelModel" (31 : Nat) "NorthWheelModel" "damps" "[I") ∈ tblG := tg_of (tb_4 (List.mem_of_getElem? (i := 116) rfl)) rfl
theorem tw_837 : (Jvm.Cond.fieldLink "NorthWheelModel" (34 : Nat) "NorthWheelModel" "kicks" "[I") ∈ tblG := tg_of (tb_4 (List.mem_of_getElem? (i := 117) rfl)) rfl
theorem tw_838 : (Jvm.Cond.fieldLink "NorthWheelModel" (37 : Nat) "NorthWheelModel" "offs" "[I") ∈ tblG := tg_of (tb_4 (List.mem_of_getElem? (i := 118) rfl)) rfl
theorem tw_839 : (Jvm.Cond.fieldLink "NorthWheelModel" (40 : Nat) "NorthWheelModel" "rates" "[I") ∈ tblG := tg_of (tb_4 (List.mem_of_getElem? (i := 119) rfl)) rfl
theorem tw_840 : (Jvm.Cond.fieldLink "NorthWheelModel" (43 : Nat) "NorthWheelModel" "toldSpeed" "[I") ∈ tblG := tg_of (tb_4 (List.mem_of_getElem? (i := 120) rfl)) rfl
theorem tw_841 : (Jvm.Cond.fieldLink "NorthWheelModel" (46 : Nat) "NorthWheelModel" "toldPlace" "[I") ∈ tblG := tg_of (tb_4 (List.mem_of_getElem? (i := 121) rfl)) rfl
theorem tw_842 : (Jvm.Cond.fieldLink "NorthWheelModel" (49 : Nat) "NorthWheelModel" "irons" "[I") ∈ tblG := tg_of (tb_4 (List.mem_of_getElem? (i := 122) rfl)) rfl
theorem tw_843 : (Jvm.Cond.fieldLink "NorthWheelModel" (52 : Nat) "NorthWheelModel" "text" "[I") ∈ tblG := tg_of (tb_4 (List.mem_of_getElem? (i := 123) rfl)) rfl
theorem tw_844 : (Jvm.Cond.fieldLink "NorthWheelModel" (198 : Nat) "NorthWheelModel" "length" "I") ∈ tblG := tg_of (tb_4 (List.mem_of_getElem? (i := 124) rfl)) rfl
theorem tw_845 : (Jvm.Cond.fieldLink "NorthWheelModel" (55 : Nat) "NorthWheelModel" "steers" "[I") ∈ tblG := tg_of (tb_4 (List.mem_of_getElem? (i := 125) rfl)) rfl
theorem tw_846 : (Jvm.Cond.fieldLink "NorthWheelModel" (58 : Nat) "NorthWheelModel" "read" "[I") ∈ tblG := tg_of (tb_4 (List.mem_of_getElem? (i := 126) rfl)) rfl
theorem tw_847 : (Jvm.Cond.fieldLink "NorthWheelModel" (227 : Nat) "NorthWheelModel" "readMany" "I") ∈ tblG := tg_of (tb_4 (List.mem_of_getElem? (i := 127) rfl)) rfl
theorem tw_848 : (Jvm.Cond.fieldLink "NorthWheelModel" (183 : Nat) "NorthWheelModel" "course" "I") ∈ tblG := tg_of (tb_4 (List.mem_of_getElem? (i := 128) rfl)) rfl
theorem tw_849 : (Jvm.Cond.fieldLink "NorthWheelModel" (61 : Nat) "NorthWheelModel" "lookRow" "[I") ∈ tblG := tg_of (tb_4 (List.mem_of_getElem? (i := 129) rfl)) rfl
theorem tw_850 : (Jvm.Cond.fieldLink "NorthWheelModel" (274 : Nat) "NorthWheelModel" "lookMany" "I") ∈ tblG := tg_of (tb_4 (List.mem_of_getElem? (i := 130) rfl)) rfl
theorem tw_851 : (Jvm.Cond.fieldLink "NorthWheelModel" (64 : Nat) "NorthWheelModel" "aboutAt" "[I") ∈ tblG := tg_of (tb_4 (List.mem_of_getElem? (i := 131) rfl)) rfl
theorem tw_852 : (Jvm.Cond.fieldLink "NorthWheelModel" (67 : Nat) "NorthWheelModel" "aboutBy" "[I") ∈ tblG := tg_of (tb_4 (List.mem_of_getElem? (i := 132) rfl)) rfl
theorem tw_853 : (Jvm.Cond.fieldLink "NorthWheelModel" (280 : Nat) "NorthWheelModel" "aboutMany" "I") ∈ tblG := tg_of (tb_4 (List.mem_of_getElem? (i := 133) rfl)) rfl
theorem tw_854 : (Jvm.Cond.fieldLink "NorthWheelModel" (70 : Nat) "NorthWheelModel" "watchAt" "[I") ∈ tblG := tg_of (tb_4 (List.mem_of_getElem? (i := 134) rfl)) rfl
theorem tw_855 : (Jvm.Cond.fieldLink "NorthWheelModel" (73 : Nat) "NorthWheelModel" "watchOff" "[I") ∈ tblG := tg_of (tb_4 (List.mem_of_getElem? (i := 135) rfl)) rfl
theorem tw_856 : (Jvm.Cond.fieldLink "NorthWheelModel" (285 : Nat) "NorthWheelModel" "watchMany" "I") ∈ tblG := tg_of (tb_4 (List.mem_of_getElem? (i := 136) rfl)) rfl
theorem tw_857 : (Jvm.Cond.fieldLink "NorthWheelModel" (203 : Nat) "NorthWheelModel" "at" "I") ∈ tblG := tg_of (tb_4 (List.mem_of_getElem? (i := 137) rfl)) rfl
theorem tw_858 : (Jvm.Cond.fieldLink "NorthWheelModel" (206 : Nat) "NorthWheelModel" "place" "I") ∈ tblG := tg_of (tb_4 (List.mem_of_getElem? (i := 138) rfl)) rfl
theorem tw_859 : (Jvm.Cond.fieldLink "NorthWheelModel" (212 : Nat) "NorthWheelModel" "end" "I") ∈ tblG := tg_of (tb_4 (List.mem_of_getElem? (i := 139) rfl)) rfl
theorem tw_860 : (Jvm.Cond.fieldLink "NorthWheelModel" (76 : Nat) "NorthWheelModel" "path" "[I") ∈ tblG := tg_of (tb_4 (List.mem_of_getElem? (i := 140) rfl)) rfl
theorem tw_861 : (Jvm.Cond.fieldLink "NorthWheelModel" (262 : Nat) "NorthWheelModel" "worst" "I") ∈ tblG := tg_of (tb_4 (List.mem_of_getElem? (i := 141) rfl)) rfl
theorem tw_862 : (Jvm.Cond.fieldLink "NorthWheelModel" (265 : Nat) "NorthWheelModel" "dear" "I") ∈ tblG := tg_of (tb_4 (List.mem_of_getElem? (i := 142) rfl)) rfl
theorem tw_863 : (Jvm.Cond.fieldLink "NorthWheelModel" (79 : Nat) "NorthWheelModel" "low" "[I") ∈ tblG := tg_of (tb_4 (List.mem_of_getElem? (i := 143) rfl)) rfl
theorem tw_864 : (Jvm.Cond.fieldLink "NorthWheelModel" (82 : Nat) "NorthWheelModel" "high" "[I") ∈ tblG := tg_of (tb_4 (List.mem_of_getElem? (i := 144) rfl)) rfl
theorem tw_865 : (Jvm.Cond.laysFinal "NorthWheelModel" "NorthWheelModel" "ship" "[I") ∈ tblG := tg_of (tb_4 (List.mem_of_getElem? (i := 145) rfl)) rfl
theorem tw_866 : (Jvm.Cond.soleField "NorthWheelModel" "ship") ∈ tblG := tg_of (tb_4 (List.mem_of_getElem? (i := 146) rfl)) rfl
theorem tw_867 : (Jvm.Cond.laysFinal "NorthWheelModel" "NorthWheelModel" "heading" "[I") ∈ tblG := tg_of (tb_4 (List.mem_of_getElem? (i := 147) rfl)) rfl
theorem tw_868 : (Jvm.Cond.soleField "NorthWheelModel" "heading") ∈ tblG := tg_of (tb_4 (List.mem_of_getElem? (i := 148) rfl)) rfl
theorem tw_869 : (Jvm.Cond.laysFinal "NorthWheelModel" "NorthWheelModel" "ticks" "[I") ∈ tblG := tg_of (tb_4 (List.mem_of_getElem? (i := 149) rfl)) rfl
theorem tw_870 : (Jvm.Cond.soleField "NorthWheelModel" "ticks") ∈ tblG := tg_of (tb_4 (List.mem_of_getElem? (i := 150) rfl)) rfl
theorem tw_871 : (Jvm.Cond.laysFinal "NorthWheelModel" "NorthWheelModel" "looked" "[I") ∈ tblG := tg_of (tb_4 (List.mem_of_getElem? (i := 151) rfl)) rfl
theorem tw_872 : (Jvm.Cond.soleField "NorthWheelModel" "looked") ∈ tblG := tg_of (tb_4 (List.mem_of_getElem? (i := 152) rfl)) rfl
theorem tw_873 : (Jvm.Cond.laysFinal "NorthWheelModel" "NorthWheelModel" "seas" "[I") ∈ tblG := tg_of (tb_4 (List.mem_of_getElem? (i := 153) rfl)) rfl
theorem tw_874 : (Jvm.Cond.soleField "NorthWheelModel" "seas") ∈ tblG := tg_of (tb_4 (List.mem_of_getElem? (i := 154) rfl)) rfl
theorem tw_875 : (Jvm.Cond.lays "NorthWheelModel" "NorthWheelModel" "seaMany" "I") ∈ tblG := tg_of (tb_4 (List.mem_of_getElem? (i := 155) rfl)) rfl
theorem tw_876 : (Jvm.Cond.soleField "NorthWheelModel" "seaMany") ∈ tblG := tg_of (tb_4 (List.mem_of_getElem? (i := 156) rfl)) rfl
theorem tw_877 : (Jvm.Cond.laysFinal "NorthWheelModel" "NorthWheelModel" "kinds" "[I") ∈ tblG := tg_of (tb_4 (List.mem_of_getElem? (i := 157) rfl)) rfl
theorem tw_878 : (Jvm.Cond.soleField "NorthWheelModel" "kinds") ∈ tblG := tg_of (tb_4 (List.mem_of_getElem? (i := 158) rfl)) rfl
theorem tw_879 : (Jvm.Cond.laysFinal "NorthWheelModel" "NorthWheelModel" "pulls" "[I") ∈ tblG := tg_of (tb_4 (List.mem_of_getElem? (i := 159) rfl)) rfl
theorem tw_880 : (Jvm.Cond.soleField "NorthWheelModel" "pulls") ∈ tblG := tg_of (tb_4 (List.mem_of_getElem? (i := 160) rfl)) rfl
theorem tw_881 : (Jvm.Cond.laysFinal "NorthWheelModel" "NorthWheelModel" "damps" "[I") ∈ tblG := tg_of (tb_4 (List.mem_of_getElem? (i := 161) rfl)) rfl
theorem tw_882 : (Jvm.Cond.soleField "NorthWheelModel" "damps") ∈ tblG := tg_of (tb_4 (List.mem_of_getElem? (i := 162) rfl)) rfl
theorem tw_883 : (Jvm.Cond.laysFinal "NorthWheelModel" "NorthWheelModel" "kicks" "[I") ∈ tblG := tg_of (tb_4 (List.mem_of_getElem? (i := 163) rfl)) rfl
theorem tw_884 : (Jvm.Cond.soleField "NorthWheelModel" "kicks") ∈ tblG := tg_of (tb_4 (List.mem_of_getElem? (i := 164) rfl)) rfl
theorem tw_885 : (Jvm.Cond.laysFinal "NorthWheelModel" "NorthWheelModel" "offs" "[I") ∈ tblG := tg_of (tb_4 (List.mem_of_getElem? (i := 165) rfl)) rfl
theorem tw_886 : (Jvm.Cond.soleField "NorthWheelModel" "offs") ∈ tblG := tg_of (tb_4 (List.mem_of_getElem? (i := 166) rfl)) rfl
theorem tw_887 : (Jvm.Cond.laysFinal "NorthWheelModel" "NorthWheelModel" "rates" "[I") ∈ tblG := tg_of (tb_4 (List.mem_of_getElem? (i := 167) rfl)) rfl
theorem tw_888 : (Jvm.Cond.soleField "NorthWheelModel" "rates") ∈ tblG := tg_of (tb_4 (List.mem_of_getElem? (i := 168) rfl)) rfl
theorem tw_889 : (Jvm.Cond.laysFinal "NorthWheelModel" "NorthWheelModel" "toldSpeed" "[I") ∈ tblG := tg_of (tb_4 (List.mem_of_getElem? (i := 169) rfl)) rfl
theorem tw_890 : (Jvm.Cond.soleField "NorthWheelModel" "toldSpeed") ∈ tblG := tg_of (tb_4 (List.mem_of_getElem? (i := 170) rfl)) rfl
theorem tw_891 : (Jvm.Cond.laysFinal "NorthWheelModel" "NorthWheelModel" "toldPlace" "[I") ∈ tblG := tg_of (tb_4 (List.mem_of_getElem? (i := 171) rfl)) rfl
theorem tw_892 : (Jvm.Cond.soleField "NorthWheelModel" "toldPlace") ∈ tblG := tg_of (tb_4 (List.mem_of_getElem? (i := 172) rfl)) rfl
theorem tw_893 : (Jvm.Cond.laysFinal "NorthWheelModel" "NorthWheelModel" "irons" "[I") ∈ tblG := tg_of (tb_4 (List.mem_of_getElem? (i := 173) rfl)) rfl
theorem tw_894 : (Jvm.Cond.soleField "NorthWheelModel" "irons") ∈ tblG := tg_of (tb_4 (List.mem_of_getElem? (i := 174) rfl)) rfl
theorem tw_895 : (Jvm.Cond.laysFinal "NorthWheelModel" "NorthWheelModel" "text" "[I") ∈ tblG := tg_of (tb_4 (List.mem_of_getElem? (i := 175) rfl)) rfl
theorem tw_896 : (Jvm.Cond.soleField "NorthWheelModel" "text") ∈ tblG := tg_of (tb_4 (List.mem_of_getElem? (i := 176) rfl)) rfl
theorem tw_897 : (Jvm.Cond.lays "NorthWheelModel" "NorthWheelModel" "length" "I") ∈ tblG := tg_of (tb_4 (List.mem_of_getElem? (i := 177) rfl)) rfl
theorem tw_898 : (Jvm.Cond.soleField "NorthWheelModel" "length") ∈ tblG := tg_of (tb_4 (List.mem_of_getElem? (i := 178) rfl)) rfl
theorem tw_899 : (Jvm.Cond.laysFinal "NorthWheelModel" "NorthWheelModel" "steers" "[I") ∈ tblG := tg_of (tb_4 (List.mem_of_getElem? (i := 179) rfl)) rfl
theorem tw_900 : (Jvm.Cond.soleField "NorthWheelModel" "steers") ∈ tblG := tg_of (tb_4 (List.mem_of_getElem? (i := 180) rfl)) rfl
theorem tw_901 : (Jvm.Cond.laysFinal "NorthWheelModel" "NorthWheelModel" "read" "[I") ∈ tblG := tg_of (tb_4 (List.mem_of_getElem? (i := 181) rfl)) rfl
theorem tw_902 : (Jvm.Cond.soleField "NorthWheelModel" "read") ∈ tblG := tg_of (tb_4 (List.mem_of_getElem? (i := 182) rfl)) rfl
theorem tw_903 : (Jvm.Cond.lays "NorthWheelModel" "NorthWheelModel" "readMany" "I") ∈ tblG := tg_of (tb_4 (List.mem_of_getElem? (i := 183) rfl)) rfl
theorem tw_904 : (Jvm.Cond.soleField "NorthWheelModel" "readMany") ∈ tblG := tg_of (tb_4 (List.mem_of_getElem? (i := 184) rfl)) rfl
theorem tw_905 : (Jvm.Cond.lays "NorthWheelModel" "NorthWheelModel" "course" "I") ∈ tblG := tg_of (tb_4 (List.mem_of_getElem? (i := 185) rfl)) rfl
theorem tw_906 : (Jvm.Cond.soleField "NorthWheelModel" "course") ∈ tblG := tg_of (tb_4 (List.mem_of_getElem? (i := 186) rfl)) rfl
theorem tw_907 : (Jvm.Cond.laysFinal "NorthWheelModel" "NorthWheelModel" "lookRow" "[I") ∈ tblG := tg_of (tb_4 (List.mem_of_getElem? (i := 187) rfl)) rfl
theorem tw_908 : (Jvm.Cond.soleField "NorthWheelModel" "lookRow") ∈ tblG := tg_of (tb_4 (List.mem_of_getElem? (i := 188) rfl)) rfl
theorem tw_909 : (Jvm.Cond.lays "NorthWheelModel" "NorthWheelModel" "lookMany" "I") ∈ tblG := tg_of (tb_4 (List.mem_of_getElem? (i := 189) rfl)) rfl
theorem tw_910 : (Jvm.Cond.soleField "NorthWheelModel" "lookMany") ∈ tblG := tg_of (tb_4 (List.mem_of_getElem? (i := 190) rfl)) rfl
theorem tw_911 : (Jvm.Cond.laysFinal "NorthWheelModel" "NorthWheelModel" "aboutAt" "[I") ∈ tblG := tg_of (tb_4 (List.mem_of_getElem? (i := 191) rfl)) rfl
theorem tw_912 : (Jvm.Cond.soleField "NorthWheelModel" "aboutAt") ∈ tblG := tg_of (tb_4 (List.mem_of_getElem? (i := 192) rfl)) rfl
theorem tw_913 : (Jvm.Cond.laysFinal "NorthWheelModel" "NorthWheelModel" "aboutBy" "[I") ∈ tblG := tg_of (tb_4 (List.mem_of_getElem? (i := 193) rfl)) rfl
theorem tw_914 : (Jvm.Cond.soleField "NorthWheelModel" "aboutBy") ∈ tblG := tg_of (tb_4 (List.mem_of_getElem? (i := 194) rfl)) rfl
theorem tw_915 : (Jvm.Cond.lays "NorthWheelModel" "NorthWheelModel" "aboutMany" "I") ∈ tblG := tg_of (tb_4 (List.mem_of_getElem? (i := 195) rfl)) rfl
theorem tw_916 : (Jvm.Cond.soleField "NorthWheelModel" "aboutMany") ∈ tblG := tg_of (tb_4 (List.mem_of_getElem? (i := 196) rfl)) rfl
theorem tw_917 : (Jvm.Cond.laysFinal "NorthWheelModel" "NorthWheelModel" "watchAt" "[I") ∈ tblG := tg_of (tb_4 (List.mem_of_getElem? (i := 197) rfl)) rfl
theorem tw_918 : (Jvm.Cond.soleField "NorthWheelModel" "watchAt") ∈ tblG := tg_of (tb_4 (List.mem_of_getElem? (i := 198) rfl)) rfl
theorem tw_919 : (Jvm.Cond.laysFinal "NorthWheelModel" "NorthWheelModel" "watchOff" "[I") ∈ tblG := tg_of (tb_4 (List.mem_of_getElem? (i := 199) rfl)) rfl
theorem tw_920 : (Jvm.Cond.soleField "NorthWheelModel" "watchOff") ∈ tblG := tg_of (tb_4 (List.mem_of_getElem? (i := 200) rfl)) rfl
theorem tw_921 : (Jvm.Cond.lays "NorthWheelModel" "NorthWheelModel" "watchMany" "I") ∈ tblG := tg_of (tb_4 (List.mem_of_getElem? (i := 201) rfl)) rfl
theorem tw_922 : (Jvm.Cond.soleField "NorthWheelModel" "watchMany") ∈ tblG := tg_of (tb_4 (List.mem_of_getElem? (i := 202) rfl)) rfl
theorem tw_923 : (Jvm.Cond.lays "NorthWheelModel" "NorthWheelModel" "at" "I") ∈ tblG := tg_of (tb_4 (List.mem_of_getElem? (i := 203) rfl)) rfl
theorem tw_924 : (Jvm.Cond.soleField "NorthWheelModel" "at") ∈ tblG := tg_of (tb_4 (List.mem_of_getElem? (i := 204) rfl)) rfl
theorem tw_925 : (Jvm.Cond.lays "NorthWheelModel" "NorthWheelModel" "place" "I") ∈ tblG := tg_of (tb_4 (List.mem_of_getElem? (i := 205) rfl)) rfl
theorem tw_926 : (Jvm.Cond.soleField "NorthWheelModel" "place") ∈ tblG := tg_of (tb_4 (List.mem_of_getElem? (i := 206) rfl)) rfl
theorem tw_927 : (Jvm.Cond.lays "NorthWheelModel" "NorthWheelModel" "end" "I") ∈ tblG := tg_of (tb_4 (List.mem_of_getElem? (i := 207) rfl)) rfl
theorem tw_928 : (Jvm.Cond.soleField "NorthWheelModel" "end") ∈ tblG := tg_of (tb_4 (List.mem_of_getElem? (i := 208) rfl)) rfl
theorem tw_929 : (Jvm.Cond.laysFinal "NorthWheelModel" "NorthWheelModel" "path" "[I") ∈ tblG := tg_of (tb_4 (List.mem_of_getElem? (i := 209) rfl)) rfl
theorem tw_930 : (Jvm.Cond.soleField "NorthWheelModel" "path") ∈ tblG := tg_of (tb_4 (List.mem_of_getElem? (i := 210) rfl)) rfl
theorem tw_931 : (Jvm.Cond.lays "NorthWheelModel" "NorthWheelModel" "worst" "I") ∈ tblG := tg_of (tb_4 (List.mem_of_getElem? (i := 211) rfl)) rfl
theorem tw_932 : (Jvm.Cond.soleField "NorthWheelModel" "worst") ∈ tblG := tg_of (tb_4 (List.mem_of_getElem? (i := 212) rfl)) rfl
theorem tw_933 : (Jvm.Cond.lays "NorthWheelModel" "NorthWheelModel" "dear" "I") ∈ tblG := tg_of (tb_4 (List.mem_of_getElem? (i := 213) rfl)) rfl
theorem tw_934 : (Jvm.Cond.soleField "NorthWheelModel" "dear") ∈ tblG := tg_of (tb_4 (List.mem_of_getElem? (i := 214) rfl)) rfl
theorem tw_935 : (Jvm.Cond.laysFinal "NorthWheelModel" "NorthWheelModel" "low" "[I") ∈ tblG := tg_of (tb_4 (List.mem_of_getElem? (i := 215) rfl)) rfl
theorem tw_936 : (Jvm.Cond.soleField "NorthWheelModel" "low") ∈ tblG := tg_of (tb_4 (List.mem_of_getElem? (i := 216) rfl)) rfl
theorem tw_937 : (Jvm.Cond.laysFinal "NorthWheelModel" "NorthWheelModel" "high" "[I") ∈ tblG := tg_of (tb_4 (List.mem_of_getElem? (i := 217) rfl)) rfl
theorem tw_938 : (Jvm.Cond.soleField "NorthWheelModel" "high") ∈ tblG := tg_of (tb_4 (List.mem_of_getElem? (i := 218) rfl)) rfl
theorem tw_939 : (Jvm.Cond.superclass "NorthWheelModel" "java/lang/Object") ∈ tblG := tg_of (tb_4 (List.mem_of_getElem? (i := 219) rfl)) rfl
theorem tw_940 : (Jvm.Cond.methodLink "NorthWheelLaw" (17 : Nat) ({ cls := "NorthWheelModel", name := "set", desc := "(II)I" } : Jvm.MethodName)) ∈ tblG := tg_of (tb_4 (List.mem_of_getElem? (i := 220) rfl)) rfl
theorem tw_941 : (Jvm.Cond.instanceMethod ({ cls := "NorthWheelModel", name := "set", desc := "(II)I" } : Jvm.MethodName)) ∈ tblG := tg_of (tb_4 (List.mem_of_getElem? (i := 221) rfl)) rfl
theorem tw_942 : (Jvm.Cond.selects "NorthWheelModel" ({ cls := "NorthWheelModel", name := "set", desc := "(II)I" } : Jvm.MethodName) ({ cls := "NorthWheelModel", name := "set", desc := "(II)I" } : Jvm.MethodName)) ∈ tblG := tg_of (tb_4 (List.mem_of_getElem? (i := 222) rfl)) rfl
theorem tw_943 : (Jvm.Cond.code ({ cls := "NorthWheelModel", name := "set", desc := "(II)I" } : Jvm.MethodName) prog_14_method_9_code (4 : Nat) (Option.some Jvm.ClassFile.FieldType.int)) ∈ tblG := tg_of (tb_4 (List.mem_of_getElem? (i := 223) rfl)) rfl
theorem tw_944 : (Jvm.Cond.constantLong "NorthWheelModel" (99 : Nat) (3 : Int64)) ∈ tblG := tg_of (tb_4 (List.mem_of_getElem? (i := 224) rfl)) rfl
theorem tw_945 : (Jvm.Cond.methodLink "NorthWheelModel" (87 : Nat) ({ cls := "NorthWheelModel", name := "in", desc := "(JJJ)Z" } : Jvm.MethodName)) ∈ tblG := tg_of (tb_4 (List.mem_of_getElem? (i := 225) rfl)) rfl
theorem tw_946 : (Jvm.Cond.static ({ cls := "NorthWheelModel", name := "in", desc := "(JJJ)Z" } : Jvm.MethodName)) ∈ tblG := tg_of (tb_4 (List.mem_of_getElem? (i := 226) rfl)) rfl
theorem tw_947 : (Jvm.Cond.code ({ cls := "NorthWheelModel", name := "in", desc := "(JJJ)Z" } : Jvm.MethodName) prog_14_method_2_code (6 : Nat) (Option.some Jvm.ClassFile.FieldType.boolean)) ∈ tblG := tg_of (tb_4 (List.mem_of_getElem? (i := 227) rfl)) rfl
theorem tw_948 : (Jvm.Cond.constantLong "NorthWheelModel" (101 : Nat) (-89 : Int64)) ∈ tblG := tg_of (tb_4 (List.mem_of_getElem? (i := 228) rfl)) rfl
theorem tw_949 : (Jvm.Cond.constantLong "NorthWheelModel" (103 : Nat) (-35 : Int64)) ∈ tblG := tg_of (tb_4 (List.mem_of_getElem? (i := 229) rfl)) rfl
theorem tw_950 : (Jvm.Cond.constantLong "NorthWheelModel" (105 : Nat) (89 : Int64)) ∈ tblG := tg_of (tb_4 (List.mem_of_getElem? (i := 230) rfl)) rfl
theorem tw_951 : (Jvm.Cond.constantLong "NorthWheelModel" (107 : Nat) (40 : Int64)) ∈ tblG := tg_of (tb_4 (List.mem_of_getElem? (i := 231) rfl)) rfl
theorem tw_952 : (Jvm.Cond.constantLong "NorthWheelModel" (109 : Nat) (99 : Int64)) ∈ tblG := tg_of (tb_4 (List.mem_of_getElem? (i := 232) rfl)) rfl
theorem tw_953 : (Jvm.Cond.constantLong "NorthWheelModel" (111 : Nat) (35 : Int64)) ∈ tblG := tg_of (tb_4 (List.mem_of_getElem? (i := 233) rfl)) rfl
theorem tw_954 : (Jvm.Cond.methodLink "NorthWheelLaw" (22 : Nat) ({ cls := "NorthWheelModel", name := "head", desc := "(I)I" } : Jvm.MethodName)) ∈ tblG := tg_of (tb_4 (List.mem_of_getElem? (i := 234) rfl)) rfl
theorem tw_955 : (Jvm.Cond.instanceMethod ({ cls := "NorthWheelModel", name := "head", desc := "(I)I" } : Jvm.MethodName)) ∈ tblG := tg_of (tb_4 (List.mem_of_getElem? (i := 235) rfl)) rfl
theorem tw_956 : (Jvm.Cond.selects "NorthWheelModel" ({ cls := "NorthWheelModel", name := "head", desc := "(I)I" } : Jvm.MethodName) ({ cls := "NorthWheelModel", name := "head", desc := "(I)I" } : Jvm.MethodName)) ∈ tblG := tg_of (tb_4 (List.mem_of_getElem? (i := 236) rfl)) rfl
theorem tw_957 : (Jvm.Cond.code ({ cls := "NorthWheelModel", name := "head", desc := "(I)I" } : Jvm.MethodName) prog_14_method_11_code (3 : Nat) (Option.some Jvm.ClassFile.FieldType.int)) ∈ tblG := tg_of (tb_4 (List.mem_of_getElem? (i := 237) rfl)) rfl
theorem tw_958 : (Jvm.Cond.methodLink "NorthWheelModel" (115 : Nat) ({ cls := "NorthWheelModel", name := "isHeading", desc := "(I)Z" } : Jvm.MethodName)) ∈ tblG := tg_of (tb_4 (List.mem_of_getElem? (i := 238) rfl)) rfl
theorem tw_959 : (Jvm.Cond.static ({ cls := "NorthWheelModel", name := "isHeading", desc := "(I)Z" } : Jvm.MethodName)) ∈ tblG := tg_of (tb_4 (List.mem_of_getElem? (i := 239) rfl)) rfl
theorem tw_960 : (Jvm.Cond.code ({ cls := "NorthWheelModel", name := "isHeading", desc := "(I)Z" } : Jvm.MethodName) prog_14_method_10_code (1 : Nat) (Option.some Jvm.ClassFile.FieldType.boolean)) ∈ tblG := tg_of (tb_5 (List.mem_of_getElem? (i := 0) rfl)) rfl
theorem tw_961 : (Jvm.Cond.constantLong "NorthWheelModel" (113 : Nat) (35999 : Int64)) ∈ tblG := tg_of (tb_5 (List.mem_of_getElem? (i := 1) rfl)) rfl
theorem tw_962 : (Jvm.Cond.methodLink "NorthWheelLaw" (26 : Nat) ({ cls := "NorthWheelModel", name := "sea", desc := "(I)I" } : Jvm.MethodName)) ∈ tblG := tg_of (tb_5 (List.mem_of_getElem? (i := 2) rfl)) rfl
theorem tw_963 : (Jvm.Cond.instanceMethod ({ cls := "NorthWheelModel", name := "sea", desc := "(I)I" } : Jvm.MethodName)) ∈ tblG := tg_of (tb_5 (List.mem_of_getElem? (i := 3) rfl)) rfl
theorem tw_964 : (Jvm.Cond.selects "NorthWheelModel" ({ cls := "NorthWheelModel", name := "sea", desc := "(I)I" } : Jvm.MethodName) ({ cls := "NorthWheelModel", name := "sea", desc := "(I)I" } : Jvm.MethodName)) ∈ tblG := tg_of (tb_5 (List.mem_of_getElem? (i := 4) rfl)) rfl
theorem tw_965 : (Jvm.Cond.code ({ cls := "NorthWheelModel", name := "sea", desc := "(I)I" } : Jvm.MethodName) prog_14_method_12_code (2 : Nat) (Option.some Jvm.ClassFile.FieldType.int)) ∈ tblG := tg_of (tb_5 (List.mem_of_getElem? (i := 5) rfl)) rfl
theorem tw_966 : (Jvm.Cond.constantLong "NorthWheelModel" (119 : Nat) (-999 : Int64)) ∈ tblG := tg_of (tb_5 (List.mem_of_getElem? (i := 6) rfl)) rfl
theorem tw_967 : (Jvm.Cond.constantLong "NorthWheelModel" (121 : Nat) (999 : Int64)) ∈ tblG := tg_of (tb_5 (List.mem_of_getElem? (i := 7) rfl)) rfl
theorem tw_968 : (Jvm.Cond.methodLink "NorthWheelLaw" (31 : Nat) ({ cls := "NorthWheelModel", name := "calm", desc := "()I" } : Jvm.MethodName)) ∈ tblG := tg_of (tb_5 (List.mem_of_getElem? (i := 8) rfl)) rfl
theorem tw_969 : (Jvm.Cond.instanceMethod ({ cls := "NorthWheelModel", name := "calm", desc := "()I" } : Jvm.MethodName)) ∈ tblG := tg_of (tb_5 (List.mem_of_getElem? (i := 9) rfl)) rfl
theorem tw_970 : (Jvm.Cond.selects "NorthWheelModel" ({ cls := "NorthWheelModel", name := "calm", desc := "()I" } : Jvm.MethodName) ({ cls := "NorthWheelModel", name := "calm", desc := "()I" } : Jvm.MethodName)) ∈ tblG := tg_of (tb_5 (List.mem_of_getElem? (i := 10) rfl)) rfl
theorem tw_971 : (Jvm.Cond.code ({ cls := "NorthWheelModel", name := "calm", desc := "()I" } : Jvm.MethodName) prog_14_method_13_code (2 : Nat) (Option.some Jvm.ClassFile.FieldType.int)) ∈ tblG := tg_of (tb_5 (List.mem_of_getElem? (i := 11) rfl)) rfl
theorem tw_972 : (Jvm.Cond.methodLink "NorthWheelLaw" (35 : Nat) ({ cls := "NorthWheelModel", name := "kind", desc := "(II)I" } : Jvm.MethodName)) ∈ tblG := tg_of (tb_5 (List.mem_of_getElem? (i := 12) rfl)) rfl
theorem tw_973 : (Jvm.Cond.instanceMethod ({ cls := "NorthWheelModel", name := "kind", desc := "(II)I" } : Jvm.MethodName)) ∈ tblG := tg_of (tb_5 (List.mem_of_getElem? (i := 13) rfl)) rfl
theorem tw_974 : (Jvm.Cond.selects "NorthWheelModel" ({ cls := "NorthWheelModel", name := "kind", desc := "(II)I" } : Jvm.MethodName) ({ cls := "NorthWheelModel", name := "kind", desc := "(II)I" } : Jvm.MethodName)) ∈ tblG := tg_of (tb_5 (List.mem_of_getElem? (i := 14) rfl)) rfl
theorem tw_975 : (Jvm.Cond.code ({ cls := "NorthWheelModel", name := "kind", desc := "(II)I" } : Jvm.MethodName) prog_14_method_14_code (4 : Nat) (Option.some Jvm.ClassFile.FieldType.int)) ∈ tblG := tg_of (tb_5 (List.mem_of_getElem? (i := 15) rfl)) rfl
theorem tw_976 : (Jvm.Cond.methodLink "NorthWheelModel" (127 : Nat) ({ cls := "NorthWheelModel", name := "isPointer", desc := "(I)Z" } : Jvm.MethodName)) ∈ tblG := tg_of (tb_5 (List.mem_of_getElem? (i := 16) rfl)) rfl
theorem tw_977 : (Jvm.Cond.static ({ cls := "NorthWheelModel", name := "isPointer", desc := "(I)Z" } : Jvm.MethodName)) ∈ tblG := tg_of (tb_5 (List.mem_of_getElem? (i := 17) rfl)) rfl
theorem tw_978 : (Jvm.Cond.code ({ cls := "NorthWheelModel", name := "isPointer", desc := "(I)Z" } : Jvm.MethodName) prog_14_method_3_code (1 : Nat) (Option.some Jvm.ClassFile.FieldType.boolean)) ∈ tblG := tg_of (tb_5 (List.mem_of_getElem? (i := 18) rfl)) rfl
theorem tw_979 : (Jvm.Cond.constantLong "NorthWheelModel" (85 : Nat) (2 : Int64)) ∈ tblG := tg_of (tb_5 (List.mem_of_getElem? (i := 19) rfl)) rfl
theorem tw_980 : (Jvm.Cond.constantLong "NorthWheelModel" (130 : Nat) (5 : Int64)) ∈ tblG := tg_of (tb_5 (List.mem_of_getElem? (i := 20) rfl)) rfl
theorem tw_981 : (Jvm.Cond.methodLink "NorthWheelLaw" (40 : Nat) ({ cls := "NorthWheelModel", name := "tune", desc := "(III)I" } : Jvm.MethodName)) ∈ tblG := tg_of (tb_5 (List.mem_of_getElem? (i := 21) rfl)) rfl
theorem tw_982 : (Jvm.Cond.instanceMethod ({ cls := "NorthWheelModel", name := "tune", desc := "(III)I" } : Jvm.MethodName)) ∈ tblG := tg_of (tb_5 (List.mem_of_getElem? (i := 22) rfl)) rfl
theorem tw_983 : (Jvm.Cond.selects "NorthWheelModel" ({ cls := "NorthWheelModel", name := "tune", desc := "(III)I" } : Jvm.MethodName) ({ cls := "NorthWheelModel", name := "tune", desc := "(III)I" } : Jvm.MethodName)) ∈ tblG := tg_of (tb_5 (List.mem_of_getElem? (i := 23) rfl)) rfl
theorem tw_984 : (Jvm.Cond.code ({ cls := "NorthWheelModel", name := "tune", desc := "(III)I" } : Jvm.MethodName) prog_14_method_15_code (5 : Nat) (Option.some Jvm.ClassFile.FieldType.int)) ∈ tblG := tg_of (tb_5 (List.mem_of_getElem? (i := 24) rfl)) rfl
theorem tw_985 : (Jvm.Cond.methodLink "NorthWheelLaw" (44 : Nat) ({ cls := "NorthWheelModel", name := "off", desc := "(II)I" } : Jvm.MethodName)) ∈ tblG := tg_of (tb_5 (List.mem_of_getElem? (i := 25) rfl)) rfl
theorem tw_986 : (Jvm.Cond.instanceMethod ({ cls := "NorthWheelModel", name := "off", desc := "(II)I" } : Jvm.MethodName)) ∈ tblG := tg_of (tb_5 (List.mem_of_getElem? (i := 26) rfl)) rfl
theorem tw_987 : (Jvm.Cond.selects "NorthWheelModel" ({ cls := "NorthWheelModel", name := "off", desc := "(II)I" } : Jvm.MethodName) ({ cls := "NorthWheelModel", name := "off", desc := "(II)I" } : Jvm.MethodName)) ∈ tblG := tg_of (tb_5 (List.mem_of_getElem? (i := 27) rfl)) rfl
theorem tw_988 : (Jvm.Cond.code ({ cls := "NorthWheelModel", name := "off", desc := "(II)I" } : Jvm.MethodName) prog_14_method_17_code (3 : Nat) (Option.some Jvm.ClassFile.FieldType.int)) ∈ tblG := tg_of (tb_5 (List.mem_of_getElem? (i := 28) rfl)) rfl
theorem tw_989 : (Jvm.Cond.methodLink "NorthWheelModel" (136 : Nat) ({ cls := "NorthWheelModel", name := "isOff", desc := "(I)Z" } : Jvm.MethodName)) ∈ tblG := tg_of (tb_5 (List.mem_of_getElem? (i := 29) rfl)) rfl
theorem tw_990 : (Jvm.Cond.static ({ cls := "NorthWheelModel", name := "isOff", desc := "(I)Z" } : Jvm.MethodName)) ∈ tblG := tg_of (tb_5 (List.mem_of_getElem? (i := 30) rfl)) rfl
theorem tw_991 : (Jvm.Cond.code ({ cls := "NorthWheelModel", name := "isOff", desc := "(I)Z" } : Jvm.MethodName) prog_14_method_16_code (1 : Nat) (Option.some Jvm.ClassFile.FieldType.boolean)) ∈ tblG := tg_of (tb_5 (List.mem_of_getElem? (i := 31) rfl)) rfl
theorem tw_992 : (Jvm.Cond.constantLong "NorthWheelModel" (132 : Nat) (-18000 : Int64)) ∈ tblG := tg_of (tb_5 (List.mem_of_getElem? (i := 32) rfl)) rfl
theorem tw_993 : (Jvm.Cond.constantLong "NorthWheelModel" (134 : Nat) (17999 : Int64)) ∈ tblG := tg_of (tb_5 (List.mem_of_getElem? (i := 33) rfl)) rfl
theorem tw_994 : (Jvm.Cond.methodLink "NorthWheelLaw" (48 : Nat) ({ cls := "NorthWheelModel", name := "told", desc := "(III)I" } : Jvm.MethodName)) ∈ tblG := tg_of (tb_5 (List.mem_of_getElem? (i := 34) rfl)) rfl
theorem tw_995 : (Jvm.Cond.instanceMethod ({ cls := "NorthWheelModel", name := "told", desc := "(III)I" } : Jvm.MethodName)) ∈ tblG := tg_of (tb_5 (List.mem_of_getElem? (i := 35) rfl)) rfl
theorem tw_996 : (Jvm.Cond.selects "NorthWheelModel" ({ cls := "NorthWheelModel", name := "told", desc := "(III)I" } : Jvm.MethodName) ({ cls := "NorthWheelModel", name := "told", desc := "(III)I" } : Jvm.MethodName)) ∈ tblG := tg_of (tb_5 (List.mem_of_getElem? (i := 36) rfl)) rfl
theorem tw_997 : (Jvm.Cond.code ({ cls := "NorthWheelModel", name := "told", desc := "(III)I" } : Jvm.MethodName) prog_14_method_20_code (4 : Nat) (Option.some Jvm.ClassFile.FieldType.int)) ∈ tblG := tg_of (tb_5 (List.mem_of_getElem? (i := 37) rfl)) rfl
theorem tw_998 : (Jvm.Cond.methodLink "NorthWheelModel" (139 : Nat) ({ cls := "NorthWheelModel", name := "isSpeed", desc := "(I)Z" } : Jvm.MethodName)) ∈ tblG := tg_of (tb_5 (List.mem_of_getElem? (i := 38) rfl)) rfl
theorem tw_999 : (Jvm.Cond.static ({ cls := "NorthWheelModel", name := "isSpeed", desc := "(I)Z" } : Jvm.MethodName)) ∈ tblG := tg_of (tb_5 (List.mem_of_getElem? (i := 39) rfl)) rfl
theorem tw_1000 : (Jvm.Cond.code ({ cls := "NorthWheelModel", name := "isSpeed", desc := "(I)Z" } : Jvm.MethodName) prog_14_method_18_code (1 : Nat) (Option.some Jvm.ClassFile.FieldType.boolean)) ∈ tblG := tg_of (tb_5 (List.mem_of_getElem? (i := 40) rfl)) rfl
theorem tw_1001 : (Jvm.Cond.methodLink "NorthWheelModel" (142 : Nat) ({ cls := "NorthWheelModel", name := "isPlace", desc := "(I)Z" } : Jvm.MethodName)) ∈ tblG := tg_of (tb_5 (List.mem_of_getElem? (i := 41) rfl)) rfl
theorem tw_1002 : (Jvm.Cond.static ({ cls := "NorthWheelModel", name := "isPlace", desc := "(I)Z" } : Jvm.MethodName)) ∈ tblG := tg_of (tb_5 (List.mem_of_getElem? (i := 42) rfl)) rfl
theorem tw_1003 : (Jvm.Cond.code ({ cls := "NorthWheelModel", name := "isPlace", desc := "(I)Z" } : Jvm.MethodName) prog_14_method_19_code (1 : Nat) (Option.some Jvm.ClassFile.FieldType.boolean)) ∈ tblG := tg_of (tb_5 (List.mem_of_getElem? (i := 43) rfl)) rfl
theorem tw_1004 : (Jvm.Cond.methodLink "NorthWheelLaw" (52 : Nat) ({ cls := "NorthWheelModel", name := "iron", desc := "(II)I" } : Jvm.MethodName)) ∈ tblG := tg_of (tb_5 (List.mem_of_getElem? (i := 44) rfl)) rfl
theorem tw_1005 : (Jvm.Cond.instanceMethod ({ cls := "NorthWheelModel", name := "iron", desc := "(II)I" } : Jvm.MethodName)) ∈ tblG := tg_of (tb_5 (List.mem_of_getElem? (i := 45) rfl)) rfl
theorem tw_1006 : (Jvm.Cond.selects "NorthWheelModel" ({ cls := "NorthWheelModel", name := "iron", desc := "(II)I" } : Jvm.MethodName) ({ cls := "NorthWheelModel", name := "iron", desc := "(II)I" } : Jvm.MethodName)) ∈ tblG := tg_of (tb_5 (List.mem_of_getElem? (i := 46) rfl)) rfl
theorem tw_1007 : (Jvm.Cond.code ({ cls := "NorthWheelModel", name := "iron", desc := "(II)I" } : Jvm.MethodName) prog_14_method_21_code (3 : Nat) (Option.some Jvm.ClassFile.FieldType.int)) ∈ tblG := tg_of (tb_5 (List.mem_of_getElem? (i := 47) rfl)) rfl
theorem tw_1008 : (Jvm.Cond.constantLong "NorthWheelModel" (145 : Nat) (7 : Int64)) ∈ tblG := tg_of (tb_5 (List.mem_of_getElem? (i := 48) rfl)) rfl
theorem tw_1009 : (Jvm.Cond.constantLong "NorthWheelModel" (147 : Nat) (-2000 : Int64)) ∈ tblG := tg_of (tb_5 (List.mem_of_getElem? (i := 49) rfl)) rfl
theorem tw_1010 : (Jvm.Cond.constantLong "NorthWheelModel" (149 : Nat) (2000 : Int64)) ∈ tblG := tg_of (tb_5 (List.mem_of_getElem? (i := 50) rfl)) rfl
theorem tw_1011 : (Jvm.Cond.methodLink "NorthWheelLaw" (56 : Nat) ({ cls := "NorthWheelModel", name := "shows", desc := "(I)I" } : Jvm.MethodName)) ∈ tblG := tg_of (tb_5 (List.mem_of_getElem? (i := 51) rfl)) rfl
theorem tw_1012 : (Jvm.Cond.instanceMethod ({ cls := "NorthWheelModel", name := "shows", desc := "(I)I" } : Jvm.MethodName)) ∈ tblG := tg_of (tb_5 (List.mem_of_getElem? (i := 52) rfl)) rfl
theorem tw_1013 : (Jvm.Cond.selects "NorthWheelModel" ({ cls := "NorthWheelModel", name := "shows", desc := "(I)I" } : Jvm.MethodName) ({ cls := "NorthWheelModel", name := "shows", desc := "(I)I" } : Jvm.MethodName)) ∈ tblG := tg_of (tb_5 (List.mem_of_getElem? (i := 53) rfl)) rfl
theorem tw_1014 : (Jvm.Cond.code ({ cls := "NorthWheelModel", name := "shows", desc := "(I)I" } : Jvm.MethodName) prog_14_method_25_code (2 : Nat) (Option.some Jvm.ClassFile.FieldType.int)) ∈ tblG := tg_of (tb_5 (List.mem_of_getElem? (i := 54) rfl)) rfl
theorem tw_1015 : (Jvm.Cond.methodLink "NorthWheelModel" (161 : Nat) ({ cls := "NorthWheelModel", name := "showsOf", desc := "(II)I" } : Jvm.MethodName)) ∈ tblG := tg_of (tb_5 (List.mem_of_getElem? (i := 55) rfl)) rfl
theorem tw_1017 : (Jvm.Cond.instanceMethod ({ cls := "NorthWheelModel", name := "showsOf", desc := "(II)I" } : Jvm.MethodName)) ∈ tblG := tg_of (tb_5 (List.mem_of_getElem? (i := 57) rfl)) rfl
theorem tw_1018 : (Jvm.Cond.code ({ cls := "NorthWheelModel", name := "showsOf", desc := "(II)I" } : Jvm.MethodName) prog_14_method_24_code (5 : Nat) (Option.some Jvm.ClassFile.FieldType.int)) ∈ tblG := tg_of (tb_5 (List.mem_of_getElem? (i := 58) rfl)) rfl
theorem tw_1019 : (Jvm.Cond.methodLink "NorthWheelModel" (92 : Nat) ({ cls := "NorthWheelModel", name := "round", desc := "(I)I" } : Jvm.MethodName)) ∈ tblG := tg_of (tb_5 (List.mem_of_getElem? (i := 59) rfl)) rfl
theorem tw_1020 : (Jvm.Cond.static ({ cls := "NorthWheelModel", name := "round", desc := "(I)I" } : Jvm.MethodName)) ∈ tblG := tg_of (tb_5 (List.mem_of_getElem? (i := 60) rfl)) rfl
theorem tw_1021 : (Jvm.Cond.code ({ cls := "NorthWheelModel", name := "round", desc := "(I)I" } : Jvm.MethodName) prog_14_method_4_code (2 : Nat) (Option.some Jvm.ClassFile.FieldType.int)) ∈ tblG := tg_of (tb_5 (List.mem_of_getElem? (i := 61) rfl)) rfl
theorem tw_1022 : (Jvm.Cond.constant "NorthWheelModel" (91 : Nat) (36000 : Int32)) ∈ tblG := tg_of (tb_5 (List.mem_of_getElem? (i := 62) rfl)) rfl
theorem tw_1023 : (Jvm.Cond.methodLink "NorthWheelModel" (154 : Nat) ({ cls := "NorthWheelModel", name := "ironAt", desc := "(I)I" } : Jvm.MethodName)) ∈ tblG := tg_of (tb_5 (List.mem_of_getElem? (i := 63) rfl)) rfl
theorem tw_1025 : (Jvm.Cond.instanceMethod ({ cls := "NorthWheelModel", name := "ironAt", desc := "(I)I" } : Jvm.MethodName)) ∈ tblG := tg_of (tb_5 (List.mem_of_getElem? (i := 65) rfl)) rfl
theorem tw_1026 : (Jvm.Cond.code ({ cls := "NorthWheelModel", name := "ironAt", desc := "(I)I" } : Jvm.MethodName) prog_14_method_23_code (3 : Nat) (Option.some Jvm.ClassFile.FieldType.int)) ∈ tblG := tg_of (tb_5 (List.mem_of_getElem? (i := 66) rfl)) rfl
theorem tw_1027 : (Jvm.Cond.methodLink "NorthWheelModel" (157 : Nat) ({ cls := "NorthWheelModel", name := "leanOf", desc := "(III)I" } : Jvm.MethodName)) ∈ tblG := tg_of (tb_5 (List.mem_of_getElem? (i := 67) rfl)) rfl
theorem tw_1028 : (Jvm.Cond.static ({ cls := "NorthWheelModel", name := "leanOf", desc := "(III)I" } : Jvm.MethodName)) ∈ tblG := tg_of (tb_5 (List.mem_of_getElem? (i := 68) rfl)) rfl
theorem tw_1029 : (Jvm.Cond.code ({ cls := "NorthWheelModel", name := "leanOf", desc := "(III)I" } : Jvm.MethodName) prog_14_method_22_code (4 : Nat) (Option.some Jvm.ClassFile.FieldType.int)) ∈ tblG := tg_of (tb_5 (List.mem_of_getElem? (i := 69) rfl)) rfl
theorem tw_1030 : (Jvm.Cond.methodLink "NorthWheelModel" (151 : Nat) ({ cls := "NorthWheelModel", name := "holdOf", desc := "(I)I" } : Jvm.MethodName)) ∈ tblG := tg_of (tb_5 (List.mem_of_getElem? (i := 70) rfl)) rfl
theorem tw_1031 : (Jvm.Cond.static ({ cls := "NorthWheelModel", name := "holdOf", desc := "(I)I" } : Jvm.MethodName)) ∈ tblG := tg_of (tb_5 (List.mem_of_getElem? (i := 71) rfl)) rfl
theorem tw_1032 : (Jvm.Cond.code ({ cls := "NorthWheelModel", name := "holdOf", desc := "(I)I" } : Jvm.MethodName) prog_14_method_8_code (1 : Nat) (Option.some Jvm.ClassFile.FieldType.int)) ∈ tblG := tg_of (tb_5 (List.mem_of_getElem? (i := 72) rfl)) rfl
theorem tw_1033 : (Jvm.Cond.methodLink "NorthWheelModel" (96 : Nat) ({ cls := "NorthWheelModel", name := "size", desc := "(I)I" } : Jvm.MethodName)) ∈ tblG := tg_of (tb_5 (List.mem_of_getElem? (i := 73) rfl)) rfl
theorem tw_1034 : (Jvm.Cond.static ({ cls := "NorthWheelModel", name := "size", desc := "(I)I" } : Jvm.MethodName)) ∈ tblG := tg_of (tb_5 (List.mem_of_getElem? (i := 74) rfl)) rfl
theorem tw_1035 : (Jvm.Cond.code ({ cls := "NorthWheelModel", name := "size", desc := "(I)I" } : Jvm.MethodName) prog_14_method_6_code (1 : Nat) (Option.some Jvm.ClassFile.FieldType.int)) ∈ tblG := tg_of (tb_5 (List.mem_of_getElem? (i := 75) rfl)) rfl
theorem tw_1036 : (Jvm.Cond.methodLink "NorthWheelLaw" (60 : Nat) ({ cls := "NorthWheelModel", name := "now", desc := "(II)I" } : Jvm.MethodName)) ∈ tblG := tg_of (tb_5 (List.mem_of_getElem? (i := 76) rfl)) rfl
theorem tw_1037 : (Jvm.Cond.instanceMethod ({ cls := "NorthWheelModel", name := "now", desc := "(II)I" } : Jvm.MethodName)) ∈ tblG := tg_of (tb_5 (List.mem_of_getElem? (i := 77) rfl)) rfl
theorem tw_1038 : (Jvm.Cond.selects "NorthWheelModel" ({ cls := "NorthWheelModel", name := "now", desc := "(II)I" } : Jvm.MethodName) ({ cls := "NorthWheelModel", name := "now", desc := "(II)I" } : Jvm.MethodName)) ∈ tblG := tg_of (tb_5 (List.mem_of_getElem? (i := 78) rfl)) rfl
theorem tw_1039 : (Jvm.Cond.code ({ cls := "NorthWheelModel", name := "now", desc := "(II)I" } : Jvm.MethodName) prog_14_method_26_code (3 : Nat) (Option.some Jvm.ClassFile.FieldType.int)) ∈ tblG := tg_of (tb_5 (List.mem_of_getElem? (i := 79) rfl)) rfl
theorem tw_1040 : (Jvm.Cond.constant "NorthWheelModel" (165 : Nat) (50000 : Int32)) ∈ tblG := tg_of (tb_5 (List.mem_of_getElem? (i := 80) rfl)) rfl
theorem tw_1041 : (Jvm.Cond.methodLink "NorthWheelLaw" (64 : Nat) ({ cls := "NorthWheelModel", name := "lean", desc := "(III)I" } : Jvm.MethodName)) ∈ tblG := tg_of (tb_5 (List.mem_of_getElem? (i := 81) rfl)) rfl
theorem tw_1042 : (Jvm.Cond.instanceMethod ({ cls := "NorthWheelModel", name := "lean", desc := "(III)I" } : Jvm.MethodName)) ∈ tblG := tg_of (tb_5 (List.mem_of_getElem? (i := 82) rfl)) rfl
theorem tw_1043 : (Jvm.Cond.selects "NorthWheelModel" ({ cls := "NorthWheelModel", name := "lean", desc := "(III)I" } : Jvm.MethodName) ({ cls := "NorthWheelModel", name := "lean", desc := "(III)I" } : Jvm.MethodName)) ∈ tblG := tg_of (tb_5 (List.mem_of_getElem? (i := 83) rfl)) rfl
theorem tw_1044 : (Jvm.Cond.code ({ cls := "NorthWheelModel", name := "lean", desc := "(III)I" } : Jvm.MethodName) prog_14_method_27_code (4 : Nat) (Option.some Jvm.ClassFile.FieldType.int)) ∈ tblG := tg_of (tb_5 (List.mem_of_getElem? (i := 84) rfl)) rfl
theorem tw_1045 : (Jvm.Cond.constant "NorthWheelModel" (166 : Nat) (100000 : Int32)) ∈ tblG := tg_of (tb_5 (List.mem_of_getElem? (i := 85) rfl)) rfl
theorem tw_1046 : (Jvm.Cond.methodLink "NorthWheelLaw" (68 : Nat) ({ cls := "NorthWheelModel", name := "deviation", desc := "(I)I" } : Jvm.MethodName)) ∈ tblG := tg_of (tb_5 (List.mem_of_getElem? (i := 86) rfl)) rfl
theorem tw_1047 : (Jvm.Cond.instanceMethod ({ cls := "NorthWheelModel", name := "deviation", desc := "(I)I" } : Jvm.MethodName)) ∈ tblG := tg_of (tb_5 (List.mem_of_getElem? (i := 87) rfl)) rfl
theorem tw_1048 : (Jvm.Cond.selects "NorthWheelModel" ({ cls := "NorthWheelModel", name := "deviation", desc := "(I)I" } : Jvm.MethodName) ({ cls := "NorthWheelModel", name := "deviation", desc := "(I)I" } : Jvm.MethodName)) ∈ tblG := tg_of (tb_5 (List.mem_of_getElem? (i := 88) rfl)) rfl
theorem tw_1049 : (Jvm.Cond.code ({ cls := "NorthWheelModel", name := "deviation", desc := "(I)I" } : Jvm.MethodName) prog_14_method_28_code (2 : Nat) (Option.some Jvm.ClassFile.FieldType.int)) ∈ tblG := tg_of (tb_5 (List.mem_of_getElem? (i := 89) rfl)) rfl
theorem tw_1050 : (Jvm.Cond.methodLink "NorthWheelLaw" (73 : Nat) ({ cls := "NorthWheelModel", name := "run", desc := "(IZ)I" } : Jvm.MethodName)) ∈ tblG := tg_of (tb_5 (List.mem_of_getElem? (i := 90) rfl)) rfl
theorem tw_1051 : (Jvm.Cond.instanceMethod ({ cls := "NorthWheelModel", name := "run", desc := "(IZ)I" } : Jvm.MethodName)) ∈ tblG := tg_of (tb_5 (List.mem_of_getElem? (i := 91) rfl)) rfl
theorem tw_1052 : (Jvm.Cond.selects "NorthWheelModel" ({ cls := "NorthWheelModel", name := "run", desc := "(IZ)I" } : Jvm.MethodName) ({ cls := "NorthWheelModel", name := "run", desc := "(IZ)I" } : Jvm.MethodName)) ∈ tblG := tg_of (tb_5 (List.mem_of_getElem? (i := 92) rfl)) rfl
theorem tw_1053 : (Jvm.Cond.code ({ cls := "NorthWheelModel", name := "run", desc := "(IZ)I" } : Jvm.MethodName) prog_14_method_34_code (4 : Nat) (Option.some Jvm.ClassFile.FieldType.int)) ∈ tblG := tg_of (tb_5 (List.mem_of_getElem? (i := 93) rfl)) rfl
theorem tw_1054 : (Jvm.Cond.constantLong "NorthWheelModel" (186 : Nat) (500 : Int64)) ∈ tblG := tg_of (tb_5 (List.mem_of_getElem? (i := 94) rfl)) rfl
theorem tw_1055 : (Jvm.Cond.methodLink "NorthWheelModel" (188 : Nat) ({ cls := "NorthWheelModel", name := "steer", desc := "(II)V" } : Jvm.MethodName)) ∈ tblG := tg_of (tb_5 (List.mem_of_getElem? (i := 95) rfl)) rfl
theorem tw_1057 : (Jvm.Cond.instanceMethod ({ cls := "NorthWheelModel", name := "steer", desc := "(II)V" } : Jvm.MethodName)) ∈ tblG := tg_of (tb_5 (List.mem_of_getElem? (i := 97) rfl)) rfl
theorem tw_1058 : (Jvm.Cond.code ({ cls := "NorthWheelModel", name := "steer", desc := "(II)V" } : Jvm.MethodName) prog_14_method_33_code (6 : Nat) (Option.none : Option Jvm.ClassFile.FieldType)) ∈ tblG := tg_of (tb_5 (List.mem_of_getElem? (i := 98) rfl)) rfl
theorem tw_1059 : (Jvm.Cond.methodLink "NorthWheelModel" (167 : Nat) ({ cls := "NorthWheelModel", name := "wrapped", desc := "(I)I" } : Jvm.MethodName)) ∈ tblG := tg_of (tb_5 (List.mem_of_getElem? (i := 99) rfl)) rfl
theorem tw_1060 : (Jvm.Cond.static ({ cls := "NorthWheelModel", name := "wrapped", desc := "(I)I" } : Jvm.MethodName)) ∈ tblG := tg_of (tb_5 (List.mem_of_getElem? (i := 100) rfl)) rfl
theorem tw_1061 : (Jvm.Cond.code ({ cls := "NorthWheelModel", name := "wrapped", desc := "(I)I" } : Jvm.MethodName) prog_14_method_5_code (2 : Nat) (Option.some Jvm.ClassFile.FieldType.int)) ∈ tblG := tg_of (tb_5 (List.mem_of_getElem? (i := 101) rfl)) rfl
theorem tw_1062 : (Jvm.Cond.methodLink "NorthWheelModel" (180 : Nat) ({ cls := "NorthWheelModel", name := "held", desc := "(II)I" } : Jvm.MethodName)) ∈ tblG := tg_of (tb_5 (List.mem_of_getElem? (i := 102) rfl)) rfl
theorem tw_1063 : (Jvm.Cond.static ({ cls := "NorthWheelModel", name := "held", desc := "(II)I" } : Jvm.MethodName)) ∈ tblG := tg_of (tb_5 (List.mem_of_getElem? (i := 103) rfl)) rfl
theorem tw_1064 : (Jvm.Cond.code ({ cls := "NorthWheelModel", name := "held", desc := "(II)I" } : Jvm.MethodName) prog_14_method_7_code (2 : Nat) (Option.some Jvm.ClassFile.FieldType.int)) ∈ tblG := tg_of (tb_5 (List.mem_of_getElem? (i := 104) rfl)) rfl
theorem tw_1065 : (Jvm.Cond.methodLink "NorthWheelModel" (192 : Nat) ({ cls := "NorthWheelModel", name := "tick", desc := "(I)V" } : Jvm.MethodName)) ∈ tblG := tg_of (tb_5 (List.mem_of_getElem? (i := 105) rfl)) rfl
theorem tw_1067 : (Jvm.Cond.instanceMethod ({ cls := "NorthWheelModel", name := "tick", desc := "(I)V" } : Jvm.MethodName)) ∈ tblG := tg_of (tb_5 (List.mem_of_getElem? (i := 107) rfl)) rfl
theorem tw_1068 : (Jvm.Cond.code ({ cls := "NorthWheelModel", name := "tick", desc := "(I)V" } : Jvm.MethodName) prog_14_method_32_code (9 : Nat) (Option.none : Option Jvm.ClassFile.FieldType)) ∈ tblG := tg_of (tb_5 (List.mem_of_getElem? (i := 108) rfl)) rfl
theorem tw_1069 : (Jvm.Cond.methodLink "NorthWheelModel" (170 : Nat) ({ cls := "NorthWheelModel", name := "pulled", desc := "(IIII)I" } : Jvm.MethodName)) ∈ tblG := tg_of (tb_5 (List.mem_of_getElem? (i := 109) rfl)) rfl
theorem tw_1070 : (Jvm.Cond.static ({ cls := "NorthWheelModel", name := "pulled", desc := "(IIII)I" } : Jvm.MethodName)) ∈ tblG := tg_of (tb_5 (List.mem_of_getElem? (i := 110) rfl)) rfl
theorem tw_1071 : (Jvm.Cond.code ({ cls := "NorthWheelModel", name := "pulled", desc := "(IIII)I" } : Jvm.MethodName) prog_14_method_29_code (4 : Nat) (Option.some Jvm.ClassFile.FieldType.int)) ∈ tblG := tg_of (tb_5 (List.mem_of_getElem? (i := 111) rfl)) rfl
theorem tw_1072 : (Jvm.Cond.methodLink "NorthWheelModel" (174 : Nat) ({ cls := "NorthWheelModel", name := "damped", desc := "(II)I" } : Jvm.MethodName)) ∈ tblG := tg_of (tb_5 (List.mem_of_getElem? (i := 112) rfl)) rfl
theorem tw_1073 : (Jvm.Cond.static ({ cls := "NorthWheelModel", name := "damped", desc := "(II)I" } : Jvm.MethodName)) ∈ tblG := tg_of (tb_5 (List.mem_of_getElem? (i := 113) rfl)) rfl
theorem tw_1074 : (Jvm.Cond.code ({ cls := "NorthWheelModel", name := "damped", desc := "(II)I" } : Jvm.MethodName) prog_14_method_30_code (2 : Nat) (Option.some Jvm.ClassFile.FieldType.int)) ∈ tblG := tg_of (tb_5 (List.mem_of_getElem? (i := 114) rfl)) rfl
theorem tw_1075 : (Jvm.Cond.methodLink "NorthWheelModel" (177 : Nat) ({ cls := "NorthWheelModel", name := "kicked", desc := "(III)I" } : Jvm.MethodName)) ∈ tblG := tg_of (tb_5 (List.mem_of_getElem? (i := 115) rfl)) rfl
theorem tw_1076 : (Jvm.Cond.static ({ cls := "NorthWheelModel", name := "kicked", desc := "(III)I" } : Jvm.MethodName)) ∈ tblG := tg_of (tb_5 (List.mem_of_getElem? (i := 116) rfl)) rfl
theorem tw_1077 : (Jvm.Cond.code ({ cls := "NorthWheelModel", name := "kicked", desc := "(III)I" } : Jvm.MethodName) prog_14_method_31_code (3 : Nat) (Option.some Jvm.ClassFile.FieldType.int)) ∈ tblG := tg_of (tb_5 (List.mem_of_getElem? (i := 117) rfl)) rfl
theorem tw_1078 : (Jvm.Cond.methodLink "NorthWheelLaw" (80 : Nat) ({ cls := "NorthWheelModel", name := "write", desc := "(JI)I" } : Jvm.MethodName)) ∈ tblG := tg_of (tb_5 (List.mem_of_getElem? (i := 118) rfl)) rfl
theorem tw_1079 : (Jvm.Cond.instanceMethod ({ cls := "NorthWheelModel", name := "write", desc := "(JI)I" } : Jvm.MethodName)) ∈ tblG := tg_of (tb_5 (List.mem_of_getElem? (i := 119) rfl)) rfl
theorem tw_1080 : (Jvm.Cond.selects "NorthWheelModel" ({ cls := "NorthWheelModel", name := "write", desc := "(JI)I" } : Jvm.MethodName) ({ cls := "NorthWheelModel", name := "write", desc := "(JI)I" } : Jvm.MethodName)) ∈ tblG := tg_of (tb_5 (List.mem_of_getElem? (i := 120) rfl)) rfl
theorem tw_1081 : (Jvm.Cond.code ({ cls := "NorthWheelModel", name := "write", desc := "(JI)I" } : Jvm.MethodName) prog_14_method_35_code (5 : Nat) (Option.some Jvm.ClassFile.FieldType.int)) ∈ tblG := tg_of (tb_5 (List.mem_of_getElem? (i := 121) rfl)) rfl
theorem tw_1082 : (Jvm.Cond.constantLong "NorthWheelModel" (196 : Nat) (8 : Int64)) ∈ tblG := tg_of (tb_5 (List.mem_of_getElem? (i := 122) rfl)) rfl
theorem tw_1083 : (Jvm.Cond.constantLong "NorthWheelModel" (201 : Nat) (255 : Int64)) ∈ tblG := tg_of (tb_5 (List.mem_of_getElem? (i := 123) rfl)) rfl
theorem tw_1084 : (Jvm.Cond.methodLink "NorthWheelLaw" (84 : Nat) ({ cls := "NorthWheelModel", name := "erase", desc := "()I" } : Jvm.MethodName)) ∈ tblG := tg_of (tb_5 (List.mem_of_getElem? (i := 124) rfl)) rfl
theorem tw_1085 : (Jvm.Cond.instanceMethod ({ cls := "NorthWheelModel", name := "erase", desc := "()I" } : Jvm.MethodName)) ∈ tblG := tg_of (tb_5 (List.mem_of_getElem? (i := 125) rfl)) rfl
theorem tw_1086 : (Jvm.Cond.selects "NorthWheelModel" ({ cls := "NorthWheelModel", name := "erase", desc := "()I" } : Jvm.MethodName) ({ cls := "NorthWheelModel", name := "erase", desc := "()I" } : Jvm.MethodName)) ∈ tblG := tg_of (tb_5 (List.mem_of_getElem? (i := 126) rfl)) rfl
theorem tw_1087 : (Jvm.Cond.code ({ cls := "NorthWheelModel", name := "erase", desc := "()I" } : Jvm.MethodName) prog_14_method_36_code (2 : Nat) (Option.some Jvm.ClassFile.FieldType.int)) ∈ tblG := tg_of (tb_5 (List.mem_of_getElem? (i := 127) rfl)) rfl
theorem tw_1088 : (Jvm.Cond.methodLink "NorthWheelLaw" (88 : Nat) ({ cls := "NorthWheelModel", name := "fault", desc := "()I" } : Jvm.MethodName)) ∈ tblG := tg_of (tb_5 (List.mem_of_getElem? (i := 128) rfl)) rfl
theorem tw_1089 : (Jvm.Cond.instanceMethod ({ cls := "NorthWheelModel", name := "fault", desc := "()I" } : Jvm.MethodName)) ∈ tblG := tg_of (tb_5 (List.mem_of_getElem? (i := 129) rfl)) rfl
theorem tw_1090 : (Jvm.Cond.selects "NorthWheelModel" ({ cls := "NorthWheelModel", name := "fault", desc := "()I" } : Jvm.MethodName) ({ cls := "NorthWheelModel", name := "fault", desc := "()I" } : Jvm.MethodName)) ∈ tblG := tg_of (tb_5 (List.mem_of_getElem? (i := 130) rfl)) rfl
theorem tw_1091 : (Jvm.Cond.code ({ cls := "NorthWheelModel", name := "fault", desc := "()I" } : Jvm.MethodName) prog_14_method_41_code (2 : Nat) (Option.some Jvm.ClassFile.FieldType.int)) ∈ tblG := tg_of (tb_5 (List.mem_of_getElem? (i := 131) rfl)) rfl
theorem tw_1092 : (Jvm.Cond.methodLink "NorthWheelModel" (224 : Nat) ({ cls := "NorthWheelModel", name := "token", desc := "()V" } : Jvm.MethodName)) ∈ tblG := tg_of (tb_5 (List.mem_of_getElem? (i := 132) rfl)) rfl
theorem tw_1094 : (Jvm.Cond.instanceMethod ({ cls := "NorthWheelModel", name := "token", desc := "()V" } : Jvm.MethodName)) ∈ tblG := tg_of (tb_5 (List.mem_of_getElem? (i := 134) rfl)) rfl
theorem tw_1095 : (Jvm.Cond.code ({ cls := "NorthWheelModel", name := "token", desc := "()V" } : Jvm.MethodName) prog_14_method_38_code (1 : Nat) (Option.none : Option Jvm.ClassFile.FieldType)) ∈ tblG := tg_of (tb_5 (List.mem_of_getElem? (i := 135) rfl)) rfl
theorem tw_1096 : (Jvm.Cond.methodLink "NorthWheelModel" (209 : Nat) ({ cls := "NorthWheelModel", name := "sort", desc := "(I)I" } : Jvm.MethodName)) ∈ tblG := tg_of (tb_5 (List.mem_of_getElem? (i := 136) rfl)) rfl
theorem tw_1097 : (Jvm.Cond.static ({ cls := "NorthWheelModel", name := "sort", desc := "(I)I" } : Jvm.MethodName)) ∈ tblG := tg_of (tb_5 (List.mem_of_getElem? (i := 137) rfl)) rfl
theorem tw_1098 : (Jvm.Cond.code ({ cls := "NorthWheelModel", name := "sort", desc := "(I)I" } : Jvm.MethodName) prog_14_method_37_code (1 : Nat) (Option.some Jvm.ClassFile.FieldType.int)) ∈ tblG := tg_of (tb_5 (List.mem_of_getElem? (i := 138) rfl)) rfl
theorem tw_1099 : (Jvm.Cond.methodLink "NorthWheelModel" (230 : Nat) ({ cls := "NorthWheelModel", name := "readsLine", desc := "()Z" } : Jvm.MethodName)) ∈ tblG := tg_of (tb_5 (List.mem_of_getElem? (i := 139) rfl)) rfl
theorem tw_1101 : (Jvm.Cond.instanceMethod ({ cls := "NorthWheelModel", name := "readsLine", desc := "()Z" } : Jvm.MethodName)) ∈ tblG := tg_of (tb_5 (List.mem_of_getElem? (i := 141) rfl)) rfl
theorem tw_1102 : (Jvm.Cond.code ({ cls := "NorthWheelModel", name := "readsLine", desc := "()Z" } : Jvm.MethodName) prog_14_method_40_code (4 : Nat) (Option.some Jvm.ClassFile.FieldType.boolean)) ∈ tblG := tg_of (tb_5 (List.mem_of_getElem? (i := 142) rfl)) rfl
theorem tw_1103 : (Jvm.Cond.constant "NorthWheelModel" (215 : Nat) (132260 : Int32)) ∈ tblG := tg_of (tb_5 (List.mem_of_getElem? (i := 143) rfl)) rfl
theorem tw_1104 : (Jvm.Cond.methodLink "NorthWheelModel" (216 : Nat) ({ cls := "NorthWheelModel", name := "isWord", desc := "(II)Z" } : Jvm.MethodName)) ∈ tblG := tg_of (tb_5 (List.mem_of_getElem? (i := 144) rfl)) rfl
theorem tw_1106 : (Jvm.Cond.instanceMethod ({ cls := "NorthWheelModel", name := "isWord", desc := "(II)Z" } : Jvm.MethodName)) ∈ tblG := tg_of (tb_5 (List.mem_of_getElem? (i := 146) rfl)) rfl
theorem tw_1107 : (Jvm.Cond.code ({ cls := "NorthWheelModel", name := "isWord", desc := "(II)Z" } : Jvm.MethodName) prog_14_method_39_code (5 : Nat) (Option.some Jvm.ClassFile.FieldType.boolean)) ∈ tblG := tg_of (tb_5 (List.mem_of_getElem? (i := 147) rfl)) rfl
theorem tw_1108 : (Jvm.Cond.constant "NorthWheelModel" (220 : Nat) (468007 : Int32)) ∈ tblG := tg_of (tb_5 (List.mem_of_getElem? (i := 148) rfl)) rfl
theorem tw_1109 : (Jvm.Cond.constant "NorthWheelModel" (221 : Nat) (660653 : Int32)) ∈ tblG := tg_of (tb_5 (List.mem_of_getElem? (i := 149) rfl)) rfl
theorem tw_1110 : (Jvm.Cond.constant "NorthWheelModel" (222 : Nat) (675309 : Int32)) ∈ tblG := tg_of (tb_5 (List.mem_of_getElem? (i := 150) rfl)) rfl
theorem tw_1111 : (Jvm.Cond.constant "NorthWheelModel" (223 : Nat) (26810053 : Int32)) ∈ tblG := tg_of (tb_5 (List.mem_of_getElem? (i := 151) rfl)) rfl
theorem tw_1112 : (Jvm.Cond.methodLink "NorthWheelLaw" (92 : Nat) ({ cls := "NorthWheelModel", name := "steerer", desc := "()I" } : Jvm.MethodName)) ∈ tblG := tg_of (tb_5 (List.mem_of_getElem? (i := 152) rfl)) rfl
theorem tw_1113 : (Jvm.Cond.instanceMethod ({ cls := "NorthWheelModel", name := "steerer", desc := "()I" } : Jvm.MethodName)) ∈ tblG := tg_of (tb_5 (List.mem_of_getElem? (i := 153) rfl)) rfl
theorem tw_1114 : (Jvm.Cond.selects "NorthWheelModel" ({ cls := "NorthWheelModel", name := "steerer", desc := "()I" } : Jvm.MethodName) ({ cls := "NorthWheelModel", name := "steerer", desc := "()I" } : Jvm.MethodName)) ∈ tblG := tg_of (tb_5 (List.mem_of_getElem? (i := 154) rfl)) rfl
theorem tw_1115 : (Jvm.Cond.code ({ cls := "NorthWheelModel", name := "steerer", desc := "()I" } : Jvm.MethodName) prog_14_method_42_code (2 : Nat) (Option.some Jvm.ClassFile.FieldType.int)) ∈ tblG := tg_of (tb_5 (List.mem_of_getElem? (i := 155) rfl)) rfl
theorem tw_1116 : (Jvm.Cond.methodLink "NorthWheelModel" (234 : Nat) ({ cls := "NorthWheelModel", name := "fault", desc := "()I" } : Jvm.MethodName)) ∈ tblG := tg_of (tb_5 (List.mem_of_getElem? (i := 156) rfl)) rfl
theorem tw_1117 : (Jvm.Cond.methodLink "NorthWheelLaw" (96 : Nat) ({ cls := "NorthWheelModel", name := "steers", desc := "(I)I" } : Jvm.MethodName)) ∈ tblG := tg_of (tb_5 (List.mem_of_getElem? (i := 157) rfl)) rfl
theorem tw_1118 : (Jvm.Cond.instanceMethod ({ cls := "NorthWheelModel", name := "steers", desc := "(I)I" } : Jvm.MethodName)) ∈ tblG := tg_of (tb_5 (List.mem_of_getElem? (i := 158) rfl)) rfl
theorem tw_1119 : (Jvm.Cond.selects "NorthWheelModel" ({ cls := "NorthWheelModel", name := "steers", desc := "(I)I" } : Jvm.MethodName) ({ cls := "NorthWheelModel", name := "steers", desc := "(I)I" } : Jvm.MethodName)) ∈ tblG := tg_of (tb_5 (List.mem_of_getElem? (i := 159) rfl)) rfl
theorem tw_1120 : (Jvm.Cond.code ({ cls := "NorthWheelModel", name := "steers", desc := "(I)I" } : Jvm.MethodName) prog_14_method_43_code (2 : Nat) (Option.some Jvm.ClassFile.FieldType.int)) ∈ tblG := tg_of (tb_5 (List.mem_of_getElem? (i := 160) rfl)) rfl
theorem tw_1121 : (Jvm.Cond.methodLink "NorthWheelLaw" (100 : Nat) ({ cls := "NorthWheelModel", name := "course", desc := "(I)I" } : Jvm.MethodName)) ∈ tblG := tg_of (tb_5 (List.mem_of_getElem? (i := 161) rfl)) rfl
theorem tw_1122 : (Jvm.Cond.instanceMethod ({ cls := "NorthWheelModel", name := "course", desc := "(I)I" } : Jvm.MethodName)) ∈ tblG := tg_of (tb_5 (List.mem_of_getElem? (i := 162) rfl)) rfl
theorem tw_1123 : (Jvm.Cond.selects "NorthWheelModel" ({ cls := "NorthWheelModel", name := "course", desc := "(I)I" } : Jvm.MethodName) ({ cls := "NorthWheelModel", name := "course", desc := "(I)I" } : Jvm.MethodName)) ∈ tblG := tg_of (tb_5 (List.mem_of_getElem? (i := 163) rfl)) rfl
theorem tw_1124 : (Jvm.Cond.code ({ cls := "NorthWheelModel", name := "course", desc := "(I)I" } : Jvm.MethodName) prog_14_method_44_code (3 : Nat) (Option.some Jvm.ClassFile.FieldType.int)) ∈ tblG := tg_of (tb_5 (List.mem_of_getElem? (i := 164) rfl)) rfl
theorem tw_1125 : (Jvm.Cond.methodLink "NorthWheelLaw" (105 : Nat) ({ cls := "NorthWheelModel", name := "swing", desc := "(IIZI)I" } : Jvm.MethodName)) ∈ tblG := tg_of (tb_5 (List.mem_of_getElem? (i := 165) rfl)) rfl
theorem tw_1126 : (Jvm.Cond.instanceMethod ({ cls := "NorthWheelModel", name := "swing", desc := "(IIZI)I" } : Jvm.MethodName)) ∈ tblG := tg_of (tb_5 (List.mem_of_getElem? (i := 166) rfl)) rfl
theorem tw_1127 : (Jvm.Cond.selects "NorthWheelModel" ({ cls := "NorthWheelModel", name := "swing", desc := "(IIZI)I" } : Jvm.MethodName) ({ cls := "NorthWheelModel", name := "swing", desc := "(IIZI)I" } : Jvm.MethodName)) ∈ tblG := tg_of (tb_5 (List.mem_of_getElem? (i := 167) rfl)) rfl
theorem tw_1128 : (Jvm.Cond.code ({ cls := "NorthWheelModel", name := "swing", desc := "(IIZI)I" } : Jvm.MethodName) prog_14_method_48_code (8 : Nat) (Option.some Jvm.ClassFile.FieldType.int)) ∈ tblG := tg_of (tb_5 (List.mem_of_getElem? (i := 168) rfl)) rfl
theorem tw_1129 : (Jvm.Cond.constantLong "NorthWheelModel" (238 : Nat) (-9000 : Int64)) ∈ tblG := tg_of (tb_5 (List.mem_of_getElem? (i := 169) rfl)) rfl
theorem tw_1130 : (Jvm.Cond.constantLong "NorthWheelModel" (240 : Nat) (9000 : Int64)) ∈ tblG := tg_of (tb_5 (List.mem_of_getElem? (i := 170) rfl)) rfl
theorem tw_1131 : (Jvm.Cond.methodLink "NorthWheelModel" (242 : Nat) ({ cls := "NorthWheelModel", name := "laySwing", desc := "(IIZIII)V" } : Jvm.MethodName)) ∈ tblG := tg_of (tb_5 (List.mem_of_getElem? (i := 171) rfl)) rfl
theorem tw_1133 : (Jvm.Cond.instanceMethod ({ cls := "NorthWheelModel", name := "laySwing", desc := "(IIZIII)V" } : Jvm.MethodName)) ∈ tblG := tg_of (tb_5 (List.mem_of_getElem? (i := 173) rfl)) rfl
theorem tw_1134 : (Jvm.Cond.code ({ cls := "NorthWheelModel", name := "laySwing", desc := "(IIZIII)V" } : Jvm.MethodName) prog_14_method_45_code (9 : Nat) (Option.none : Option Jvm.ClassFile.FieldType)) ∈ tblG := tg_of (tb_5 (List.mem_of_getElem? (i := 174) rfl)) rfl
theorem tw_1135 : (Jvm.Cond.methodLink "NorthWheelModel" (246 : Nat) ({ cls := "NorthWheelModel", name := "rests", desc := "()I" } : Jvm.MethodName)) ∈ tblG := tg_of (tb_5 (List.mem_of_getElem? (i := 175) rfl)) rfl
theorem tw_1137 : (Jvm.Cond.instanceMethod ({ cls := "NorthWheelModel", name := "rests", desc := "()I" } : Jvm.MethodName)) ∈ tblG := tg_of (tb_5 (List.mem_of_getElem? (i := 177) rfl)) rfl
theorem tw_1138 : (Jvm.Cond.code ({ cls := "NorthWheelModel", name := "rests", desc := "()I" } : Jvm.MethodName) prog_14_method_47_code (2 : Nat) (Option.some Jvm.ClassFile.FieldType.int)) ∈ tblG := tg_of (tb_5 (List.mem_of_getElem? (i := 178) rfl)) rfl
theorem tw_1139 : (Jvm.Cond.methodLink "NorthWheelModel" (249 : Nat) ({ cls := "NorthWheelModel", name := "crosses", desc := "()I" } : Jvm.MethodName)) ∈ tblG := tg_of (tb_5 (List.mem_of_getElem? (i := 179) rfl)) rfl
theorem tw_1141 : (Jvm.Cond.instanceMethod ({ cls := "NorthWheelModel", name := "crosses", desc := "()I" } : Jvm.MethodName)) ∈ tblG := tg_of (tb_5 (List.mem_of_getElem? (i := 181) rfl)) rfl
theorem tw_1142 : (Jvm.Cond.code ({ cls := "NorthWheelModel", name := "crosses", desc := "()I" } : Jvm.MethodName) prog_14_method_46_code (2 : Nat) (Option.some Jvm.ClassFile.FieldType.int)) ∈ tblG := tg_of (tb_5 (List.mem_of_getElem? (i := 182) rfl)) rfl
theorem tw_1143 : (Jvm.Cond.methodLink "NorthWheelLaw" (109 : Nat) ({ cls := "NorthWheelModel", name := "noUse", desc := "(I)I" } : Jvm.MethodName)) ∈ tblG := tg_of (tb_5 (List.mem_of_getElem? (i := 183) rfl)) rfl
theorem tw_1144 : (Jvm.Cond.instanceMethod ({ cls := "NorthWheelModel", name := "noUse", desc := "(I)I" } : Jvm.MethodName)) ∈ tblG := tg_of (tb_5 (List.mem_of_getElem? (i := 184) rfl)) rfl
theorem tw_1145 : (Jvm.Cond.selects "NorthWheelModel" ({ cls := "NorthWheelModel", name := "noUse", desc := "(I)I" } : Jvm.MethodName) ({ cls := "NorthWheelModel", name := "noUse", desc := "(I)I" } : Jvm.MethodName)) ∈ tblG := tg_of (tb_5 (List.mem_of_getElem? (i := 185) rfl)) rfl
theorem tw_1146 : (Jvm.Cond.code ({ cls := "NorthWheelModel", name := "noUse", desc := "(I)I" } : Jvm.MethodName) prog_14_method_49_code (3 : Nat) (Option.some Jvm.ClassFile.FieldType.int)) ∈ tblG := tg_of (tb_5 (List.mem_of_getElem? (i := 186) rfl)) rfl
theorem tw_1147 : (Jvm.Cond.methodLink "NorthWheelLaw" (114 : Nat) ({ cls := "NorthWheelModel", name := "turned", desc := "(IIII)I" } : Jvm.MethodName)) ∈ tblG := tg_of (tb_5 (List.mem_of_getElem? (i := 187) rfl)) rfl
theorem tw_1148 : (Jvm.Cond.instanceMethod ({ cls := "NorthWheelModel", name := "turned", desc := "(IIII)I" } : Jvm.MethodName)) ∈ tblG := tg_of (tb_5 (List.mem_of_getElem? (i := 188) rfl)) rfl
theorem tw_1149 : (Jvm.Cond.selects "NorthWheelModel" ({ cls := "NorthWheelModel", name := "turned", desc := "(IIII)I" } : Jvm.MethodName) ({ cls := "NorthWheelModel", name := "turned", desc := "(IIII)I" } : Jvm.MethodName)) ∈ tblG := tg_of (tb_5 (List.mem_of_getElem? (i := 189) rfl)) rfl
theorem tw_1150 : (Jvm.Cond.code ({ cls := "NorthWheelModel", name := "turned", desc := "(IIII)I" } : Jvm.MethodName) prog_14_method_52_code (5 : Nat) (Option.some Jvm.ClassFile.FieldType.int)) ∈ tblG := tg_of (tb_5 (List.mem_of_getElem? (i := 190) rfl)) rfl
theorem tw_1151 : (Jvm.Cond.methodLink "NorthWheelModel" (254 : Nat) ({ cls := "NorthWheelModel", name := "isTurn", desc := "(III)Z" } : Jvm.MethodName)) ∈ tblG := tg_of (tb_5 (List.mem_of_getElem? (i := 191) rfl)) rfl
theorem tw_1152 : (Jvm.Cond.static ({ cls := "NorthWheelModel", name := "isTurn", desc := "(III)Z" } : Jvm.MethodName)) ∈ tblG := tg_of (tb_5 (List.mem_of_getElem? (i := 192) rfl)) rfl
theorem tw_1153 : (Jvm.Cond.code ({ cls := "NorthWheelModel", name := "isTurn", desc := "(III)Z" } : Jvm.MethodName) prog_14_method_51_code (3 : Nat) (Option.some Jvm.ClassFile.FieldType.boolean)) ∈ tblG := tg_of (tb_5 (List.mem_of_getElem? (i := 193) rfl)) rfl
theorem tw_1154 : (Jvm.Cond.constantLong "NorthWheelModel" (252 : Nat) (300 : Int64)) ∈ tblG := tg_of (tb_5 (List.mem_of_getElem? (i := 194) rfl)) rfl
theorem tw_1155 : (Jvm.Cond.methodLink "NorthWheelModel" (258 : Nat) ({ cls := "NorthWheelModel", name := "turnedOf", desc := "(IIIII)I" } : Jvm.MethodName)) ∈ tblG := tg_of (tb_5 (List.mem_of_getElem? (i := 195) rfl)) rfl
theorem tw_1157 : (Jvm.Cond.instanceMethod ({ cls := "NorthWheelModel", name := "turnedOf", desc := "(IIIII)I" } : Jvm.MethodName)) ∈ tblG := tg_of (tb_5 (List.mem_of_getElem? (i := 197) rfl)) rfl
theorem tw_1158 : (Jvm.Cond.code ({ cls := "NorthWheelModel", name := "turnedOf", desc := "(IIIII)I" } : Jvm.MethodName) prog_14_method_50_code (10 : Nat) (Option.some Jvm.ClassFile.FieldType.int)) ∈ tblG := tg_of (tb_5 (List.mem_of_getElem? (i := 198) rfl)) rfl
theorem tw_1159 : (Jvm.Cond.methodLink "NorthWheelLaw" (118 : Nat) ({ cls := "NorthWheelModel", name := "bestPull", desc := "(IIII)I" } : Jvm.MethodName)) ∈ tblG := tg_of (tb_5 (List.mem_of_getElem? (i := 199) rfl)) rfl
theorem tw_1160 : (Jvm.Cond.instanceMethod ({ cls := "NorthWheelModel", name := "bestPull", desc := "(IIII)I" } : Jvm.MethodName)) ∈ tblG := tg_of (tb_5 (List.mem_of_getElem? (i := 200) rfl)) rfl
theorem tw_1161 : (Jvm.Cond.selects "NorthWheelModel" ({ cls := "NorthWheelModel", name := "bestPull", desc := "(IIII)I" } : Jvm.MethodName) ({ cls := "NorthWheelModel", name := "bestPull", desc := "(IIII)I" } : Jvm.MethodName)) ∈ tblG := tg_of (tb_5 (List.mem_of_getElem? (i := 201) rfl)) rfl
theorem tw_1162 : (Jvm.Cond.code ({ cls := "NorthWheelModel", name := "bestPull", desc := "(IIII)I" } : Jvm.MethodName) prog_14_method_53_code (7 : Nat) (Option.some Jvm.ClassFile.FieldType.int)) ∈ tblG := tg_of (tb_5 (List.mem_of_getElem? (i := 202) rfl)) rfl
theorem tw_1163 : (Jvm.Cond.methodLink "NorthWheelLaw" (122 : Nat) ({ cls := "NorthWheelModel", name := "kept", desc := "(III)I" } : Jvm.MethodName)) ∈ tblG := tg_of (tb_5 (List.mem_of_getElem? (i := 203) rfl)) rfl
theorem tw_1164 : (Jvm.Cond.instanceMethod ({ cls := "NorthWheelModel", name := "kept", desc := "(III)I" } : Jvm.MethodName)) ∈ tblG := tg_of (tb_5 (List.mem_of_getElem? (i := 204) rfl)) rfl
theorem tw_1165 : (Jvm.Cond.selects "NorthWheelModel" ({ cls := "NorthWheelModel", name := "kept", desc := "(III)I" } : Jvm.MethodName) ({ cls := "NorthWheelModel", name := "kept", desc := "(III)I" } : Jvm.MethodName)) ∈ tblG := tg_of (tb_5 (List.mem_of_getElem? (i := 205) rfl)) rfl
theorem tw_1166 : (Jvm.Cond.code ({ cls := "NorthWheelModel", name := "kept", desc := "(III)I" } : Jvm.MethodName) prog_14_method_55_code (4 : Nat) (Option.some Jvm.ClassFile.FieldType.int)) ∈ tblG := tg_of (tb_5 (List.mem_of_getElem? (i := 206) rfl)) rfl
theorem tw_1167 : (Jvm.Cond.methodLink "NorthWheelModel" (268 : Nat) ({ cls := "NorthWheelModel", name := "keep", desc := "(II)V" } : Jvm.MethodName)) ∈ tblG := tg_of (tb_5 (List.mem_of_getElem? (i := 207) rfl)) rfl
theorem tw_1169 : (Jvm.Cond.instanceMethod ({ cls := "NorthWheelModel", name := "keep", desc := "(II)V" } : Jvm.MethodName)) ∈ tblG := tg_of (tb_5 (List.mem_of_getElem? (i := 209) rfl)) rfl
theorem tw_1170 : (Jvm.Cond.code ({ cls := "NorthWheelModel", name := "keep", desc := "(II)V" } : Jvm.MethodName) prog_14_method_54_code (5 : Nat) (Option.none : Option Jvm.ClassFile.FieldType)) ∈ tblG := tg_of (tb_5 (List.mem_of_getElem? (i := 210) rfl)) rfl
theorem tw_1171 : (Jvm.Cond.methodLink "NorthWheelLaw" (126 : Nat) ({ cls := "NorthWheelModel", name := "bestDead", desc := "(II)I" } : Jvm.MethodName)) ∈ tblG := tg_of (tb_5 (List.mem_of_getElem? (i := 211) rfl)) rfl
theorem tw_1172 : (Jvm.Cond.instanceMethod ({ cls := "NorthWheelModel", name := "bestDead", desc := "(II)I" } : Jvm.MethodName)) ∈ tblG := tg_of (tb_5 (List.mem_of_getElem? (i := 212) rfl)) rfl
theorem tw_1173 : (Jvm.Cond.selects "NorthWheelModel" ({ cls := "NorthWheelModel", name := "bestDead", desc := "(II)I" } : Jvm.MethodName) ({ cls := "NorthWheelModel", name := "bestDead", desc := "(II)I" } : Jvm.MethodName)) ∈ tblG := tg_of (tb_5 (List.mem_of_getElem? (i := 213) rfl)) rfl
theorem tw_1174 : (Jvm.Cond.code ({ cls := "NorthWheelModel", name := "bestDead", desc := "(II)I" } : Jvm.MethodName) prog_14_method_56_code (7 : Nat) (Option.some Jvm.ClassFile.FieldType.int)) ∈ tblG := tg_of (tb_5 (List.mem_of_getElem? (i := 214) rfl)) rfl
theorem tw_1175 : (Jvm.Cond.constantLong "NorthWheelModel" (271 : Nat) (18000 : Int64)) ∈ tblG := tg_of (tb_5 (List.mem_of_getElem? (i := 215) rfl)) rfl
theorem tw_1176 : (Jvm.Cond.constant "NorthWheelModel" (273 : Nat) (268435456 : Int32)) ∈ tblG := tg_of (tb_5 (List.mem_of_getElem? (i := 216) rfl)) rfl
theorem tw_1177 : (Jvm.Cond.methodLink "NorthWheelLaw" (130 : Nat) ({ cls := "NorthWheelModel", name := "look", desc := "(III)I" } : Jvm.MethodName)) ∈ tblG := tg_of (tb_5 (List.mem_of_getElem? (i := 217) rfl)) rfl
theorem tw_1178 : (Jvm.Cond.instanceMethod ({ cls := "NorthWheelModel", name := "look", desc := "(III)I" } : Jvm.MethodName)) ∈ tblG := tg_of (tb_5 (List.mem_of_getElem? (i := 218) rfl)) rfl
theorem tw_1179 : (Jvm.Cond.selects "NorthWheelModel" ({ cls := "NorthWheelModel", name := "look", desc := "(III)I" } : Jvm.MethodName) ({ cls := "NorthWheelModel", name := "look", desc := "(III)I" } : Jvm.MethodName)) ∈ tblG := tg_of (tb_5 (List.mem_of_getElem? (i := 219) rfl)) rfl
theorem tw_1180 : (Jvm.Cond.code ({ cls := "NorthWheelModel", name := "look", desc := "(III)I" } : Jvm.MethodName) prog_14_method_57_code (4 : Nat) (Option.some Jvm.ClassFile.FieldType.int)) ∈ tblG := tg_of (tb_5 (List.mem_of_getElem? (i := 220) rfl)) rfl
theorem tw_1181 : (Jvm.Cond.methodLink "NorthWheelLaw" (134 : Nat) ({ cls := "NorthWheelModel", name := "wrong", desc := "(II)I" } : Jvm.MethodName)) ∈ tblG := tg_of (tb_5 (List.mem_of_getElem? (i := 221) rfl)) rfl
theorem tw_1182 : (Jvm.Cond.instanceMethod ({ cls := "NorthWheelModel", name := "wrong", desc := "(II)I" } : Jvm.MethodName)) ∈ tblG := tg_of (tb_5 (List.mem_of_getElem? (i := 222) rfl)) rfl
theorem tw_1183 : (Jvm.Cond.selects "NorthWheelModel" ({ cls := "NorthWheelModel", name := "wrong", desc := "(II)I" } : Jvm.MethodName) ({ cls := "NorthWheelModel", name := "wrong", desc := "(II)I" } : Jvm.MethodName)) ∈ tblG := tg_of (tb_5 (List.mem_of_getElem? (i := 223) rfl)) rfl
theorem tw_1184 : (Jvm.Cond.code ({ cls := "NorthWheelModel", name := "wrong", desc := "(II)I" } : Jvm.MethodName) prog_14_method_59_code (7 : Nat) (Option.some Jvm.ClassFile.FieldType.int)) ∈ tblG := tg_of (tb_5 (List.mem_of_getElem? (i := 224) rfl)) rfl
theorem tw_1185 : (Jvm.Cond.methodLink "NorthWheelModel" (277 : Nat) ({ cls := "NorthWheelModel", name := "isWrong", desc := "(III)Z" } : Jvm.MethodName)) ∈ tblG := tg_of (tb_5 (List.mem_of_getElem? (i := 225) rfl)) rfl
theorem tw_1187 : (Jvm.Cond.instanceMethod ({ cls := "NorthWheelModel", name := "isWrong", desc := "(III)Z" } : Jvm.MethodName)) ∈ tblG := tg_of (tb_5 (List.mem_of_getElem? (i := 227) rfl)) rfl
theorem tw_1188 : (Jvm.Cond.code ({ cls := "NorthWheelModel", name := "isWrong", desc := "(III)Z" } : Jvm.MethodName) prog_14_method_58_code (7 : Nat) (Option.some Jvm.ClassFile.FieldType.boolean)) ∈ tblG := tg_of (tb_5 (List.mem_of_getElem? (i := 228) rfl)) rfl
theorem tw_1189 : (Jvm.Cond.methodLink "NorthWheelLaw" (138 : Nat) ({ cls := "NorthWheelModel", name := "about", desc := "(II)I" } : Jvm.MethodName)) ∈ tblG := tg_of (tb_5 (List.mem_of_getElem? (i := 229) rfl)) rfl
theorem tw_1190 : (Jvm.Cond.instanceMethod ({ cls := "NorthWheelModel", name := "about", desc := "(II)I" } : Jvm.MethodName)) ∈ tblG := tg_of (tb_5 (List.mem_of_getElem? (i := 230) rfl)) rfl
theorem tw_1191 : (Jvm.Cond.selects "NorthWheelModel" ({ cls := "NorthWheelModel", name := "about", desc := "(II)I" } : Jvm.MethodName) ({ cls := "NorthWheelModel", name := "about", desc := "(II)I" } : Jvm.MethodName)) ∈ tblG := tg_of (tb_5 (List.mem_of_getElem? (i := 231) rfl)) rfl
theorem tw_1192 : (Jvm.Cond.code ({ cls := "NorthWheelModel", name := "about", desc := "(II)I" } : Jvm.MethodName) prog_14_method_60_code (3 : Nat) (Option.some Jvm.ClassFile.FieldType.int)) ∈ tblG := tg_of (tb_5 (List.mem_of_getElem? (i := 232) rfl)) rfl
theorem tw_1193 : (Jvm.Cond.methodLink "NorthWheelLaw" (142 : Nat) ({ cls := "NorthWheelModel", name := "needle", desc := "(II)I" } : Jvm.MethodName)) ∈ tblG := tg_of (tb_5 (List.mem_of_getElem? (i := 233) rfl)) rfl
theorem tw_1194 : (Jvm.Cond.instanceMethod ({ cls := "NorthWheelModel", name := "needle", desc := "(II)I" } : Jvm.MethodName)) ∈ tblG := tg_of (tb_5 (List.mem_of_getElem? (i := 234) rfl)) rfl
theorem tw_1195 : (Jvm.Cond.selects "NorthWheelModel" ({ cls := "NorthWheelModel", name := "needle", desc := "(II)I" } : Jvm.MethodName) ({ cls := "NorthWheelModel", name := "needle", desc := "(II)I" } : Jvm.MethodName)) ∈ tblG := tg_of (tb_5 (List.mem_of_getElem? (i := 235) rfl)) rfl
theorem tw_1196 : (Jvm.Cond.code ({ cls := "NorthWheelModel", name := "needle", desc := "(II)I" } : Jvm.MethodName) prog_14_method_61_code (7 : Nat) (Option.some Jvm.ClassFile.FieldType.int)) ∈ tblG := tg_of (tb_5 (List.mem_of_getElem? (i := 236) rfl)) rfl
theorem tw_1197 : (Jvm.Cond.methodLink "NorthWheelLaw" (146 : Nat) ({ cls := "NorthWheelModel", name := "watch", desc := "(II)I" } : Jvm.MethodName)) ∈ tblG := tg_of (tb_5 (List.mem_of_getElem? (i := 237) rfl)) rfl
theorem tw_1198 : (Jvm.Cond.instanceMethod ({ cls := "NorthWheelModel", name := "watch", desc := "(II)I" } : Jvm.MethodName)) ∈ tblG := tg_of (tb_5 (List.mem_of_getElem? (i := 238) rfl)) rfl
theorem tw_1199 : (Jvm.Cond.selects "NorthWheelModel" ({ cls := "NorthWheelModel", name := "watch", desc := "(II)I" } : Jvm.MethodName) ({ cls := "NorthWheelModel", name := "watch", desc := "(II)I" } : Jvm.MethodName)) ∈ tblG := tg_of (tb_5 (List.mem_of_getElem? (i := 239) rfl)) rfl
theorem tw_1200 : (Jvm.Cond.code ({ cls := "NorthWheelModel", name := "watch", desc := "(II)I" } : Jvm.MethodName) prog_14_method_62_code (3 : Nat) (Option.some Jvm.ClassFile.FieldType.int)) ∈ tblG := tg_of (tb_6 (List.mem_of_getElem? (i := 0) rfl)) rfl
theorem tw_1201 : (Jvm.Cond.constantLong "NorthWheelModel" (283 : Nat) (60 : Int64)) ∈ tblG := tg_of (tb_6 (List.mem_of_getElem? (i := 1) rfl)) rfl
theorem tw_1202 : (Jvm.Cond.methodLink "NorthWheelLaw" (150 : Nat) ({ cls := "NorthWheelModel", name := "may", desc := "(II)I" } : Jvm.MethodName)) ∈ tblG := tg_of (tb_6 (List.mem_of_getElem? (i := 2) rfl)) rfl
theorem tw_1203 : (Jvm.Cond.instanceMethod ({ cls := "NorthWheelModel", name := "may", desc := "(II)I" } : Jvm.MethodName)) ∈ tblG := tg_of (tb_6 (List.mem_of_getElem? (i := 3) rfl)) rfl
theorem tw_1204 : (Jvm.Cond.selects "NorthWheelModel" ({ cls := "NorthWheelModel", name := "may", desc := "(II)I" } : Jvm.MethodName) ({ cls := "NorthWheelModel", name := "may", desc := "(II)I" } : Jvm.MethodName)) ∈ tblG := tg_of (tb_6 (List.mem_of_getElem? (i := 4) rfl)) rfl
theorem tw_1205 : (Jvm.Cond.code ({ cls := "NorthWheelModel", name := "may", desc := "(II)I" } : Jvm.MethodName) prog_14_method_64_code (7 : Nat) (Option.some Jvm.ClassFile.FieldType.int)) ∈ tblG := tg_of (tb_6 (List.mem_of_getElem? (i := 5) rfl)) rfl
theorem tw_1206 : (Jvm.Cond.methodLink "NorthWheelModel" (288 : Nat) ({ cls := "NorthWheelModel", name := "mayBe", desc := "(III)Z" } : Jvm.MethodName)) ∈ tblG := tg_of (tb_6 (List.mem_of_getElem? (i := 6) rfl)) rfl
theorem tw_1208 : (Jvm.Cond.instanceMethod ({ cls := "NorthWheelModel", name := "mayBe", desc := "(III)Z" } : Jvm.MethodName)) ∈ tblG := tg_of (tb_6 (List.mem_of_getElem? (i := 8) rfl)) rfl
theorem tw_1209 : (Jvm.Cond.code ({ cls := "NorthWheelModel", name := "mayBe", desc := "(III)Z" } : Jvm.MethodName) prog_14_method_63_code (6 : Nat) (Option.some Jvm.ClassFile.FieldType.boolean)) ∈ tblG := tg_of (tb_6 (List.mem_of_getElem? (i := 9) rfl)) rfl
theorem tw_1210 : (Jvm.Cond.methodLink "NorthWheelLaw" (154 : Nat) ({ cls := "NorthWheelModel", name := "count", desc := "(I)I" } : Jvm.MethodName)) ∈ tblG := tg_of (tb_6 (List.mem_of_getElem? (i := 10) rfl)) rfl
theorem tw_1211 : (Jvm.Cond.instanceMethod ({ cls := "NorthWheelModel", name := "count", desc := "(I)I" } : Jvm.MethodName)) ∈ tblG := tg_of (tb_6 (List.mem_of_getElem? (i := 11) rfl)) rfl
theorem tw_1212 : (Jvm.Cond.selects "NorthWheelModel" ({ cls := "NorthWheelModel", name := "count", desc := "(I)I" } : Jvm.MethodName) ({ cls := "NorthWheelModel", name := "count", desc := "(I)I" } : Jvm.MethodName)) ∈ tblG := tg_of (tb_6 (List.mem_of_getElem? (i := 12) rfl)) rfl
theorem tw_1213 : (Jvm.Cond.code ({ cls := "NorthWheelModel", name := "count", desc := "(I)I" } : Jvm.MethodName) prog_14_method_65_code (2 : Nat) (Option.some Jvm.ClassFile.FieldType.int)) ∈ tblG := tg_of (tb_6 (List.mem_of_getElem? (i := 13) rfl)) rfl
theorem tw_1214 : (Jvm.Cond.constantLong "NorthWheelLaw" (74 : Nat) (4294967295 : Int64)) ∈ tblG := tg_of (tb_6 (List.mem_of_getElem? (i := 14) rfl)) rfl
theorem tw_1215 : (Jvm.Cond.fieldLink "java/lang/String" (9 : Nat) "java/lang/String" "value" "[B") ∈ tblG := tg_of (tb_6 (List.mem_of_getElem? (i := 15) rfl)) rfl
theorem tw_1216 : (Jvm.Cond.fieldLink "java/lang/String" (15 : Nat) "java/lang/String" "coder" "B") ∈ tblG := tg_of (tb_6 (List.mem_of_getElem? (i := 16) rfl)) rfl
theorem tp_0 : Cond.selects "NorthWheel$Seas" (⟨"NorthWheel$Seas", "add", "(I)I"⟩ : MethodName) (⟨"NorthWheel$Seas", "add", "(I)I"⟩ : MethodName) ∈ tblG := ts_of (q := ((⟨"NorthWheel$Seas", "add", "(I)I"⟩ : MethodName), 2)) (List.mem_append_left _ (List.mem_of_getElem? (i := 0) rfl))
theorem tp_1 : Cond.selects "NorthWheel$Ship" (⟨"NorthWheel$Ship", "pointerAt", "(I)LNorthWheel$Pointer;"⟩ : MethodName) (⟨"NorthWheel$Ship", "pointerAt", "(I)LNorthWheel$Pointer;"⟩ : MethodName) ∈ tblG := ts_of (q := ((⟨"NorthWheel$Ship", "pointerAt", "(I)LNorthWheel$Pointer;"⟩ : MethodName), 9)) (List.mem_append_left _ (List.mem_of_getElem? (i := 1) rfl))
theorem tp_2 : Cond.selects "NorthWheel$Pointer" (⟨"NorthWheel$Pointer", "layAt", "(I)V"⟩ : MethodName) (⟨"NorthWheel$Pointer", "layAt", "(I)V"⟩ : MethodName) ∈ tblG := ts_of (q := ((⟨"NorthWheel$Pointer", "layAt", "(I)V"⟩ : MethodName), 8)) (List.mem_append_left _ (List.mem_of_getElem? (i := 2) rfl))
theorem tp_3 : Cond.selects "NorthWheel$Pointer" (⟨"NorthWheel$Pointer", "retune", "(II)I"⟩ : MethodName) (⟨"NorthWheel$Pointer", "retune", "(II)I"⟩ : MethodName) ∈ tblG := ts_of (q := ((⟨"NorthWheel$Pointer", "retune", "(II)I"⟩ : MethodName), 8)) (List.mem_append_left _ (List.mem_of_getElem? (i := 3) rfl))
theorem tp_4 : Cond.selects "NorthWheel$Pointer" (⟨"NorthWheel$Pointer", "shownAt", "(ILNorthWheel$Needles;)I"⟩ : MethodName) (⟨"NorthWheel$Pointer", "shownAt", "(ILNorthWheel$Needles;)I"⟩ : MethodName) ∈ tblG := ts_of (q := ((⟨"NorthWheel$Pointer", "shownAt", "(ILNorthWheel$Needles;)I"⟩ : MethodName), 8)) (List.mem_append_left _ (List.mem_of_getElem? (i := 4) rfl))
theorem tp_5 : Cond.selects "NorthWheel$Needles" (⟨"NorthWheel$Needles", "deviationAt", "(I)I"⟩ : MethodName) (⟨"NorthWheel$Needles", "deviationAt", "(I)I"⟩ : MethodName) ∈ tblG := ts_of (q := ((⟨"NorthWheel$Needles", "deviationAt", "(I)I"⟩ : MethodName), 1)) (List.mem_append_left _ (List.mem_of_getElem? (i := 5) rfl))
theorem tp_6 : Cond.selects "NorthWheel$Helm" (⟨"NorthWheel$Helm", "steerShip", "(LNorthWheel$Ship;)V"⟩ : MethodName) (⟨"NorthWheel$Helm", "steerShip", "(LNorthWheel$Ship;)V"⟩ : MethodName) ∈ tblG := ts_of (q := ((⟨"NorthWheel$Helm", "steerShip", "(LNorthWheel$Ship;)V"⟩ : MethodName), 4)) (List.mem_append_left _ (List.mem_of_getElem? (i := 6) rfl))
theorem tp_7 : Cond.selects "NorthWheel$Helm" (⟨"NorthWheel$Helm", "answerTo", "(II)I"⟩ : MethodName) (⟨"NorthWheel$Helm", "answerTo", "(II)I"⟩ : MethodName) ∈ tblG := ts_of (q := ((⟨"NorthWheel$Helm", "answerTo", "(II)I"⟩ : MethodName), 4)) (List.mem_append_left _ (List.mem_of_getElem? (i := 7) rfl))
theorem tp_8 : Cond.selects "NorthWheel$Ship" (⟨"NorthWheel$Ship", "tick", "()V"⟩ : MethodName) (⟨"NorthWheel$Ship", "tick", "()V"⟩ : MethodName) ∈ tblG := ts_of (q := ((⟨"NorthWheel$Ship", "tick", "()V"⟩ : MethodName), 9)) (List.mem_append_left _ (List.mem_of_getElem? (i := 8) rfl))
theorem tp_9 : Cond.selects "NorthWheel$Seas" (⟨"NorthWheel$Seas", "yawOf", "(I)I"⟩ : MethodName) (⟨"NorthWheel$Seas", "yawOf", "(I)I"⟩ : MethodName) ∈ tblG := ts_of (q := ((⟨"NorthWheel$Seas", "yawOf", "(I)I"⟩ : MethodName), 2)) (List.mem_append_left _ (List.mem_of_getElem? (i := 9) rfl))
theorem tp_10 : Cond.selects "NorthWheel$Pointer" (⟨"NorthWheel$Pointer", "tickIn", "(LNorthWheel$Ship;I)V"⟩ : MethodName) (⟨"NorthWheel$Pointer", "tickIn", "(LNorthWheel$Ship;I)V"⟩ : MethodName) ∈ tblG := ts_of (q := ((⟨"NorthWheel$Pointer", "tickIn", "(LNorthWheel$Ship;I)V"⟩ : MethodName), 8)) (List.mem_append_left _ (List.mem_of_getElem? (i := 10) rfl))
theorem tp_11 : Cond.selects "NorthWheel$Pointer" (⟨"NorthWheel$Pointer", "sway", "(IIIZ)V"⟩ : MethodName) (⟨"NorthWheel$Pointer", "sway", "(IIIZ)V"⟩ : MethodName) ∈ tblG := ts_of (q := ((⟨"NorthWheel$Pointer", "sway", "(IIIZ)V"⟩ : MethodName), 8)) (List.mem_append_left _ (List.mem_of_getElem? (i := 11) rfl))
theorem tp_12 : Cond.selects "NorthWheel$Script" (⟨"NorthWheel$Script", "append", "(JI)I"⟩ : MethodName) (⟨"NorthWheel$Script", "append", "(JI)I"⟩ : MethodName) ∈ tblG := ts_of (q := ((⟨"NorthWheel$Script", "append", "(JI)I"⟩ : MethodName), 4)) (List.mem_append_left _ (List.mem_of_getElem? (i := 12) rfl))
theorem tp_13 : Cond.selects "NorthWheel$Script" (⟨"NorthWheel$Script", "read", "()I"⟩ : MethodName) (⟨"NorthWheel$Script", "read", "()I"⟩ : MethodName) ∈ tblG := ts_of (q := ((⟨"NorthWheel$Script", "read", "()I"⟩ : MethodName), 4)) (List.mem_append_left _ (List.mem_of_getElem? (i := 13) rfl))
theorem tp_14 : Cond.selects "NorthWheel$Script" (⟨"NorthWheel$Script", "behindBlanks", "(I)I"⟩ : MethodName) (⟨"NorthWheel$Script", "behindBlanks", "(I)I"⟩ : MethodName) ∈ tblG := ts_of (q := ((⟨"NorthWheel$Script", "behindBlanks", "(I)I"⟩ : MethodName), 4)) (List.mem_append_left _ (List.mem_of_getElem? (i := 14) rfl))
theorem tp_15 : Cond.selects "NorthWheel$Script" (⟨"NorthWheel$Script", "wordAt", "(I)I"⟩ : MethodName) (⟨"NorthWheel$Script", "wordAt", "(I)I"⟩ : MethodName) ∈ tblG := ts_of (q := ((⟨"NorthWheel$Script", "wordAt", "(I)I"⟩ : MethodName), 4)) (List.mem_append_left _ (List.mem_of_getElem? (i := 15) rfl))
theorem tp_16 : Cond.selects "NorthWheel$Script" (⟨"NorthWheel$Script", "tokenEnd", "(I)I"⟩ : MethodName) (⟨"NorthWheel$Script", "tokenEnd", "(I)I"⟩ : MethodName) ∈ tblG := ts_of (q := ((⟨"NorthWheel$Script", "tokenEnd", "(I)I"⟩ : MethodName), 4)) (List.mem_append_right _ (List.mem_append_left _ (List.mem_of_getElem? (i := 0) rfl)))
theorem tp_17 : Cond.selects "NorthWheel$Script" (⟨"NorthWheel$Script", "isSpelt", "(IILjava/lang/String;)Z"⟩ : MethodName) (⟨"NorthWheel$Script", "isSpelt", "(IILjava/lang/String;)Z"⟩ : MethodName) ∈ tblG := ts_of (q := ((⟨"NorthWheel$Script", "isSpelt", "(IILjava/lang/String;)Z"⟩ : MethodName), 4)) (List.mem_append_right _ (List.mem_append_left _ (List.mem_of_getElem? (i := 1) rfl)))
theorem tp_18 : Cond.selects "NorthWheel$Script" (⟨"NorthWheel$Script", "numberAt", "(I)I"⟩ : MethodName) (⟨"NorthWheel$Script", "numberAt", "(I)I"⟩ : MethodName) ∈ tblG := ts_of (q := ((⟨"NorthWheel$Script", "numberAt", "(I)I"⟩ : MethodName), 4)) (List.mem_append_right _ (List.mem_append_left _ (List.mem_of_getElem? (i := 2) rfl)))
theorem tp_19 : Cond.selects "NorthWheel$Helm" (⟨"NorthWheel$Helm", "become", "([I)V"⟩ : MethodName) (⟨"NorthWheel$Helm", "become", "([I)V"⟩ : MethodName) ∈ tblG := ts_of (q := ((⟨"NorthWheel$Helm", "become", "([I)V"⟩ : MethodName), 4)) (List.mem_append_right _ (List.mem_append_left _ (List.mem_of_getElem? (i := 3) rfl)))
theorem tp_20 : Cond.selects "NorthWheel$Helm" (⟨"NorthWheel$Helm", "steerFor", "(I)V"⟩ : MethodName) (⟨"NorthWheel$Helm", "steerFor", "(I)V"⟩ : MethodName) ∈ tblG := ts_of (q := ((⟨"NorthWheel$Helm", "steerFor", "(I)V"⟩ : MethodName), 4)) (List.mem_append_right _ (List.mem_append_left _ (List.mem_of_getElem? (i := 4) rfl)))
theorem tp_21 : Cond.selects "NorthWheel$Swings" (⟨"NorthWheel$Swings", "letSwing", "(LNorthWheel$Pointer;IIZ)V"⟩ : MethodName) (⟨"NorthWheel$Swings", "letSwing", "(LNorthWheel$Pointer;IIZ)V"⟩ : MethodName) ∈ tblG := ts_of (q := ((⟨"NorthWheel$Swings", "letSwing", "(LNorthWheel$Pointer;IIZ)V"⟩ : MethodName), 4)) (List.mem_append_right _ (List.mem_append_left _ (List.mem_of_getElem? (i := 5) rfl)))
theorem tp_22 : Cond.selects "NorthWheel$Pointer" (⟨"NorthWheel$Pointer", "copyFrom", "(LNorthWheel$Pointer;)V"⟩ : MethodName) (⟨"NorthWheel$Pointer", "copyFrom", "(LNorthWheel$Pointer;)V"⟩ : MethodName) ∈ tblG := ts_of (q := ((⟨"NorthWheel$Pointer", "copyFrom", "(LNorthWheel$Pointer;)V"⟩ : MethodName), 8)) (List.mem_append_right _ (List.mem_append_left _ (List.mem_of_getElem? (i := 6) rfl)))
theorem tp_23 : Cond.selects "NorthWheel$Swings" (⟨"NorthWheel$Swings", "noteRest", "(I)V"⟩ : MethodName) (⟨"NorthWheel$Swings", "noteRest", "(I)V"⟩ : MethodName) ∈ tblG := ts_of (q := ((⟨"NorthWheel$Swings", "noteRest", "(I)V"⟩ : MethodName), 4)) (List.mem_append_right _ (List.mem_append_left _ (List.mem_of_getElem? (i := 7) rfl)))
theorem tp_24 : Cond.selects "NorthWheel$Swings" (⟨"NorthWheel$Swings", "noteCrossing", "(II)V"⟩ : MethodName) (⟨"NorthWheel$Swings", "noteCrossing", "(II)V"⟩ : MethodName) ∈ tblG := ts_of (q := ((⟨"NorthWheel$Swings", "noteCrossing", "(II)V"⟩ : MethodName), 4)) (List.mem_append_right _ (List.mem_append_left _ (List.mem_of_getElem? (i := 8) rfl)))
theorem tp_25 : Cond.selects "NorthWheel$Swings" (⟨"NorthWheel$Swings", "firstPlaceWithoutRest", "(LNorthWheel$Pointer;)I"⟩ : MethodName) (⟨"NorthWheel$Swings", "firstPlaceWithoutRest", "(LNorthWheel$Pointer;)I"⟩ : MethodName) ∈ tblG := ts_of (q := ((⟨"NorthWheel$Swings", "firstPlaceWithoutRest", "(LNorthWheel$Pointer;)I"⟩ : MethodName), 4)) (List.mem_append_right _ (List.mem_append_left _ (List.mem_of_getElem? (i := 9) rfl)))
theorem tp_26 : Cond.selects "NorthWheel$Swings" (⟨"NorthWheel$Swings", "disturbed", "(LNorthWheel$Pointer;IIIII)I"⟩ : MethodName) (⟨"NorthWheel$Swings", "disturbed", "(LNorthWheel$Pointer;IIIII)I"⟩ : MethodName) ∈ tblG := ts_of (q := ((⟨"NorthWheel$Swings", "disturbed", "(LNorthWheel$Pointer;IIIII)I"⟩ : MethodName), 4)) (List.mem_append_right _ (List.mem_append_left _ (List.mem_of_getElem? (i := 10) rfl)))
theorem tp_27 : Cond.selects "NorthWheel$Swings" (⟨"NorthWheel$Swings", "calmestPull", "(LNorthWheel$Pointer;IIII)I"⟩ : MethodName) (⟨"NorthWheel$Swings", "calmestPull", "(LNorthWheel$Pointer;IIII)I"⟩ : MethodName) ∈ tblG := ts_of (q := ((⟨"NorthWheel$Swings", "calmestPull", "(LNorthWheel$Pointer;IIII)I"⟩ : MethodName), 4)) (List.mem_append_right _ (List.mem_append_left _ (List.mem_of_getElem? (i := 11) rfl)))
theorem tp_28 : Cond.selects "NorthWheel$Keeping" (⟨"NorthWheel$Keeping", "keep", "(LNorthWheel$Ship;LNorthWheel$Helm;II)V"⟩ : MethodName) (⟨"NorthWheel$Keeping", "keep", "(LNorthWheel$Ship;LNorthWheel$Helm;II)V"⟩ : MethodName) ∈ tblG := ts_of (q := ((⟨"NorthWheel$Keeping", "keep", "(LNorthWheel$Ship;LNorthWheel$Helm;II)V"⟩ : MethodName), 4)) (List.mem_append_right _ (List.mem_append_left _ (List.mem_of_getElem? (i := 12) rfl)))
theorem tp_29 : Cond.selects "NorthWheel$Ship" (⟨"NorthWheel$Ship", "copyFrom", "(LNorthWheel$Ship;)V"⟩ : MethodName) (⟨"NorthWheel$Ship", "copyFrom", "(LNorthWheel$Ship;)V"⟩ : MethodName) ∈ tblG := ts_of (q := ((⟨"NorthWheel$Ship", "copyFrom", "(LNorthWheel$Ship;)V"⟩ : MethodName), 9)) (List.mem_append_right _ (List.mem_append_left _ (List.mem_of_getElem? (i := 13) rfl)))
theorem tp_30 : Cond.selects "NorthWheel$Helm" (⟨"NorthWheel$Helm", "copyFrom", "(LNorthWheel$Helm;)V"⟩ : MethodName) (⟨"NorthWheel$Helm", "copyFrom", "(LNorthWheel$Helm;)V"⟩ : MethodName) ∈ tblG := ts_of (q := ((⟨"NorthWheel$Helm", "copyFrom", "(LNorthWheel$Helm;)V"⟩ : MethodName), 4)) (List.mem_append_right _ (List.mem_append_left _ (List.mem_of_getElem? (i := 14) rfl)))
theorem tp_31 : Cond.selects "NorthWheel$Ship" (⟨"NorthWheel$Ship", "stopAllBut", "(I)V"⟩ : MethodName) (⟨"NorthWheel$Ship", "stopAllBut", "(I)V"⟩ : MethodName) ∈ tblG := ts_of (q := ((⟨"NorthWheel$Ship", "stopAllBut", "(I)V"⟩ : MethodName), 9)) (List.mem_append_right _ (List.mem_append_left _ (List.mem_of_getElem? (i := 15) rfl)))
theorem tp_32 : Cond.selects "NorthWheel$Looks" (⟨"NorthWheel$Looks", "add", "(III)I"⟩ : MethodName) (⟨"NorthWheel$Looks", "add", "(III)I"⟩ : MethodName) ∈ tblG := ts_of (q := ((⟨"NorthWheel$Looks", "add", "(III)I"⟩ : MethodName), 2)) (List.mem_append_right _ (List.mem_append_right _ (List.mem_append_left _ (List.mem_of_getElem? (i := 0) rfl))))
theorem tp_33 : Cond.selects "NorthWheel$Looks" (⟨"NorthWheel$Looks", "wrongInEach", "(I)I"⟩ : MethodName) (⟨"NorthWheel$Looks", "wrongInEach", "(I)I"⟩ : MethodName) ∈ tblG := ts_of (q := ((⟨"NorthWheel$Looks", "wrongInEach", "(I)I"⟩ : MethodName), 2)) (List.mem_append_right _ (List.mem_append_right _ (List.mem_append_left _ (List.mem_of_getElem? (i := 1) rfl))))
theorem tp_34 : Cond.selects "NorthWheel$Looks" (⟨"NorthWheel$Looks", "wrongIn", "(II)I"⟩ : MethodName) (⟨"NorthWheel$Looks", "wrongIn", "(II)I"⟩ : MethodName) ∈ tblG := ts_of (q := ((⟨"NorthWheel$Looks", "wrongIn", "(II)I"⟩ : MethodName), 2)) (List.mem_append_right _ (List.mem_append_right _ (List.mem_append_left _ (List.mem_of_getElem? (i := 2) rfl))))
theorem tp_35 : Cond.selects "NorthWheel$Looks" (⟨"NorthWheel$Looks", "wrongInSome", "(I)I"⟩ : MethodName) (⟨"NorthWheel$Looks", "wrongInSome", "(I)I"⟩ : MethodName) ∈ tblG := ts_of (q := ((⟨"NorthWheel$Looks", "wrongInSome", "(I)I"⟩ : MethodName), 2)) (List.mem_append_right _ (List.mem_append_right _ (List.mem_append_left _ (List.mem_of_getElem? (i := 3) rfl))))
theorem tp_36 : Cond.selects "NorthWheel$TurnedAbout" (⟨"NorthWheel$TurnedAbout", "add", "(II)I"⟩ : MethodName) (⟨"NorthWheel$TurnedAbout", "add", "(II)I"⟩ : MethodName) ∈ tblG := ts_of (q := ((⟨"NorthWheel$TurnedAbout", "add", "(II)I"⟩ : MethodName), 4)) (List.mem_append_right _ (List.mem_append_right _ (List.mem_append_left _ (List.mem_of_getElem? (i := 4) rfl))))
theorem tp_37 : Cond.selects "NorthWheel$Watched" (⟨"NorthWheel$Watched", "add", "(II)I"⟩ : MethodName) (⟨"NorthWheel$Watched", "add", "(II)I"⟩ : MethodName) ∈ tblG := ts_of (q := ((⟨"NorthWheel$Watched", "add", "(II)I"⟩ : MethodName), 9)) (List.mem_append_right _ (List.mem_append_right _ (List.mem_append_left _ (List.mem_of_getElem? (i := 5) rfl))))
theorem tp_38 : Cond.selects "NorthWheel$Watched" (⟨"NorthWheel$Watched", "findThoseThatFit", "(I)V"⟩ : MethodName) (⟨"NorthWheel$Watched", "findThoseThatFit", "(I)V"⟩ : MethodName) ∈ tblG := ts_of (q := ((⟨"NorthWheel$Watched", "findThoseThatFit", "(I)V"⟩ : MethodName), 9)) (List.mem_append_right _ (List.mem_append_right _ (List.mem_append_left _ (List.mem_of_getElem? (i := 6) rfl))))
theorem tp_39 : Cond.selects "NorthWheel$Watched" (⟨"NorthWheel$Watched", "follow", "(II)V"⟩ : MethodName) (⟨"NorthWheel$Watched", "follow", "(II)V"⟩ : MethodName) ∈ tblG := ts_of (q := ((⟨"NorthWheel$Watched", "follow", "(II)V"⟩ : MethodName), 9)) (List.mem_append_right _ (List.mem_append_right _ (List.mem_append_left _ (List.mem_of_getElem? (i := 7) rfl))))
theorem tp_40 : Cond.selects "NorthWheel$Watched" (⟨"NorthWheel$Watched", "fits", "(I)Z"⟩ : MethodName) (⟨"NorthWheel$Watched", "fits", "(I)Z"⟩ : MethodName) ∈ tblG := ts_of (q := ((⟨"NorthWheel$Watched", "fits", "(I)Z"⟩ : MethodName), 9)) (List.mem_append_right _ (List.mem_append_right _ (List.mem_append_left _ (List.mem_of_getElem? (i := 8) rfl))))
theorem tp_41 : Cond.selects "NorthWheel$Watched" (⟨"NorthWheel$Watched", "widen", "()V"⟩ : MethodName) (⟨"NorthWheel$Watched", "widen", "()V"⟩ : MethodName) ∈ tblG := ts_of (q := ((⟨"NorthWheel$Watched", "widen", "()V"⟩ : MethodName), 9)) (List.mem_append_right _ (List.mem_append_right _ (List.mem_append_left _ (List.mem_of_getElem? (i := 9) rfl))))
theorem tp_42 : Cond.selects "NorthWheel$Watched" (⟨"NorthWheel$Watched", "widestTick", "()I"⟩ : MethodName) (⟨"NorthWheel$Watched", "widestTick", "()I"⟩ : MethodName) ∈ tblG := ts_of (q := ((⟨"NorthWheel$Watched", "widestTick", "()I"⟩ : MethodName), 9)) (List.mem_append_right _ (List.mem_append_right _ (List.mem_append_left _ (List.mem_of_getElem? (i := 10) rfl))))
theorem tp_43 : Cond.selects "NorthWheelModel" (⟨"NorthWheelModel", "showsOf", "(II)I"⟩ : MethodName) (⟨"NorthWheelModel", "showsOf", "(II)I"⟩ : MethodName) ∈ tblG := ts_of (q := ((⟨"NorthWheelModel", "showsOf", "(II)I"⟩ : MethodName), 37)) (List.mem_append_right _ (List.mem_append_right _ (List.mem_append_left _ (List.mem_of_getElem? (i := 11) rfl))))
theorem tp_44 : Cond.selects "NorthWheelModel" (⟨"NorthWheelModel", "ironAt", "(I)I"⟩ : MethodName) (⟨"NorthWheelModel", "ironAt", "(I)I"⟩ : MethodName) ∈ tblG := ts_of (q := ((⟨"NorthWheelModel", "ironAt", "(I)I"⟩ : MethodName), 37)) (List.mem_append_right _ (List.mem_append_right _ (List.mem_append_left _ (List.mem_of_getElem? (i := 12) rfl))))
theorem tp_45 : Cond.selects "NorthWheelModel" (⟨"NorthWheelModel", "steer", "(II)V"⟩ : MethodName) (⟨"NorthWheelModel", "steer", "(II)V"⟩ : MethodName) ∈ tblG := ts_of (q := ((⟨"NorthWheelModel", "steer", "(II)V"⟩ : MethodName), 37)) (List.mem_append_right _ (List.mem_append_right _ (List.mem_append_left _ (List.mem_of_getElem? (i := 13) rfl))))
theorem tp_46 : Cond.selects "NorthWheelModel" (⟨"NorthWheelModel", "tick", "(I)V"⟩ : MethodName) (⟨"NorthWheelModel", "tick", "(I)V"⟩ : MethodName) ∈ tblG := ts_of (q := ((⟨"NorthWheelModel", "tick", "(I)V"⟩ : MethodName), 37)) (List.mem_append_right _ (List.mem_append_right _ (List.mem_append_left _ (List.mem_of_getElem? (i := 14) rfl))))
theorem tp_47 : Cond.selects "NorthWheelModel" (⟨"NorthWheelModel", "token", "()V"⟩ : MethodName) (⟨"NorthWheelModel", "token", "()V"⟩ : MethodName) ∈ tblG := ts_of (q := ((⟨"NorthWheelModel", "token", "()V"⟩ : MethodName), 37)) (List.mem_append_right _ (List.mem_append_right _ (List.mem_append_left _ (List.mem_of_getElem? (i := 15) rfl))))
theorem tp_48 : Cond.selects "NorthWheelModel" (⟨"NorthWheelModel", "readsLine", "()Z"⟩ : MethodName) (⟨"NorthWheelModel", "readsLine", "()Z"⟩ : MethodName) ∈ tblG := ts_of (q := ((⟨"NorthWheelModel", "readsLine", "()Z"⟩ : MethodName), 37)) (List.mem_append_right _ (List.mem_append_right _ (List.mem_append_right _ (List.mem_of_getElem? (i := 0) rfl))))
theorem tp_49 : Cond.selects "NorthWheelModel" (⟨"NorthWheelModel", "isWord", "(II)Z"⟩ : MethodName) (⟨"NorthWheelModel", "isWord", "(II)Z"⟩ : MethodName) ∈ tblG := ts_of (q := ((⟨"NorthWheelModel", "isWord", "(II)Z"⟩ : MethodName), 37)) (List.mem_append_right _ (List.mem_append_right _ (List.mem_append_right _ (List.mem_of_getElem? (i := 1) rfl))))
theorem tp_50 : Cond.selects "NorthWheelModel" (⟨"NorthWheelModel", "laySwing", "(IIZIII)V"⟩ : MethodName) (⟨"NorthWheelModel", "laySwing", "(IIZIII)V"⟩ : MethodName) ∈ tblG := ts_of (q := ((⟨"NorthWheelModel", "laySwing", "(IIZIII)V"⟩ : MethodName), 37)) (List.mem_append_right _ (List.mem_append_right _ (List.mem_append_right _ (List.mem_of_getElem? (i := 2) rfl))))
theorem tp_51 : Cond.selects "NorthWheelModel" (⟨"NorthWheelModel", "rests", "()I"⟩ : MethodName) (⟨"NorthWheelModel", "rests", "()I"⟩ : MethodName) ∈ tblG := ts_of (q := ((⟨"NorthWheelModel", "rests", "()I"⟩ : MethodName), 37)) (List.mem_append_right _ (List.mem_append_right _ (List.mem_append_right _ (List.mem_of_getElem? (i := 3) rfl))))
theorem tp_52 : Cond.selects "NorthWheelModel" (⟨"NorthWheelModel", "crosses", "()I"⟩ : MethodName) (⟨"NorthWheelModel", "crosses", "()I"⟩ : MethodName) ∈ tblG := ts_of (q := ((⟨"NorthWheelModel", "crosses", "()I"⟩ : MethodName), 37)) (List.mem_append_right _ (List.mem_append_right _ (List.mem_append_right _ (List.mem_of_getElem? (i := 4) rfl))))
theorem tp_53 : Cond.selects "NorthWheelModel" (⟨"NorthWheelModel", "turnedOf", "(IIIII)I"⟩ : MethodName) (⟨"NorthWheelModel", "turnedOf", "(IIIII)I"⟩ : MethodName) ∈ tblG := ts_of (q := ((⟨"NorthWheelModel", "turnedOf", "(IIIII)I"⟩ : MethodName), 37)) (List.mem_append_right _ (List.mem_append_right _ (List.mem_append_right _ (List.mem_of_getElem? (i := 5) rfl))))
theorem tp_54 : Cond.selects "NorthWheelModel" (⟨"NorthWheelModel", "keep", "(II)V"⟩ : MethodName) (⟨"NorthWheelModel", "keep", "(II)V"⟩ : MethodName) ∈ tblG := ts_of (q := ((⟨"NorthWheelModel", "keep", "(II)V"⟩ : MethodName), 37)) (List.mem_append_right _ (List.mem_append_right _ (List.mem_append_right _ (List.mem_of_getElem? (i := 6) rfl))))
theorem tp_55 : Cond.selects "NorthWheelModel" (⟨"NorthWheelModel", "isWrong", "(III)Z"⟩ : MethodName) (⟨"NorthWheelModel", "isWrong", "(III)Z"⟩ : MethodName) ∈ tblG := ts_of (q := ((⟨"NorthWheelModel", "isWrong", "(III)Z"⟩ : MethodName), 37)) (List.mem_append_right _ (List.mem_append_right _ (List.mem_append_right _ (List.mem_of_getElem? (i := 7) rfl))))
theorem tp_56 : Cond.selects "NorthWheelModel" (⟨"NorthWheelModel", "mayBe", "(III)Z"⟩ : MethodName) (⟨"NorthWheelModel", "mayBe", "(III)Z"⟩ : MethodName) ∈ tblG := ts_of (q := ((⟨"NorthWheelModel", "mayBe", "(III)Z"⟩ : MethodName), 37)) (List.mem_append_right _ (List.mem_append_right _ (List.mem_append_right _ (List.mem_of_getElem? (i := 8) rfl))))
end
section
abbrev S2 : Type := Nat → Nat → Int32
def wr (σ : S2) (k i : Nat) (v : Int32) : S2 := va_up σ k (upd (σ k) i v)
def o_P (σ : S2) (k : Nat) : List Value := [.int (σ k 0), .int (σ k 1), .int (σ k 2), .int (σ k 3), .int (σ k 4), .int (σ k 5), .int (σ k 6), .int (σ k 7)]
def o_0 (ad : Nat → Nat) (σ : S2) : List Value := [.ref (ad 1), .ref (ad 3), .ref (ad 5), .ref (ad 9), .ref (ad 21), .ref (ad 24), .ref (ad 25), .ref (ad 26), .ref (ad 28), .ref (ad 32)]
def o_1 (ad : Nat → Nat) (σ : S2) : List Value := [.ref (ad 2), .int (σ 1 1)]
def o_3 (ad : Nat → Nat) (σ : S2) : List Value := [.ref (ad 4)]
def o_5 (ad : Nat → Nat) (σ : S2) : List Value := [.ref (ad 1), .ref (ad 3), .ref (ad 6), .int (σ 5 3), .int (σ 5 4), .int (σ 5 5), .int (σ 5 6), .int (σ 5 7), .int (σ 5 8)]
def o_7 (ad : Nat → Nat) (σ : S2) : List Value := [.ref (ad 1), .ref (ad 3), .ref (ad 8), .int (σ 7 3), .int (σ 7 4), .int (σ 7 5), .int (σ 7 6), .int (σ 7 7), .int (σ 7 8)]
def o_9 (ad : Nat → Nat) (σ : S2) : List Value := [.ref (ad 18), .int (σ 9 1), .int (σ 9 2), .int (σ 9 3)]
def o_19 (ad : Nat → Nat) (σ : S2) : List Value := [.ref (ad 20), .int (σ 19 1), .int (σ 19 2), .int (σ 19 3)]
def o_21 (ad : Nat → Nat) (σ : S2) : List Value := [.ref (ad 22), .int (σ 21 1), .ref (ad 23), .int (σ 21 3)]
def o_24 (ad : Nat → Nat) (σ : S2) : List Value := [.ref (ad 16), .int (σ 24 1), .int (σ 24 2), .int (σ 24 3)]
def o_25 (ad : Nat → Nat) (σ : S2) : List Value := [.ref (ad 7), .ref (ad 19), .int (σ 25 2), .int (σ 25 3)]
def o_26 (ad : Nat → Nat) (σ : S2) : List Value := [.ref (ad 27), .int (σ 26 1)]
def o_28 (ad : Nat → Nat) (σ : S2) : List Value := [.ref (ad 29), .ref (ad 30), .ref (ad 31), .int (σ 28 3)]
def o_32 (ad : Nat → Nat) (σ : S2) : List Value := [.ref (ad 33), .ref (ad 34), .int (σ 32 2), .ref (ad 17), .ref (ad 35), .ref (ad 36), .ref (ad 37), .int (σ 32 7), .int (σ 32 8)]
def o_38 (ad : Nat → Nat) (σ : S2) : List Value := [.ref (ad 39), .ref (ad 40), .ref (ad 41), .ref (ad 42), .ref (ad 43), .int (σ 38 5), .ref (ad 44), .ref (ad 45), .ref (ad 46), .ref (ad 47), .ref (ad 48), .ref (ad 49), .ref (ad 50), .ref (ad 51), .ref (ad 52), .ref (ad 53), .int (σ 38 16), .ref (ad 54), .ref (ad 55), .int (σ 38 19), .int (σ 38 20), .ref (ad 56), .int (σ 38 22), .ref (ad 57), .ref (ad 58), .int (σ 38 25), .ref (ad 59), .ref (ad 60), .int (σ 38 28), .int (σ 38 29), .int (σ 38 30), .int (σ 38 31), .ref (ad 61), .int (σ 38 33), .int (σ 38 34), .ref (ad 62), .ref (ad 63)]
def wd (ad : Nat → Nat) (cI cP : ClassId) (σ : S2) : va_W := [
  (ad 0, .inr (11, o_0 ad σ)),
  (ad 1, .inr (6, o_1 ad σ)),
  (ad 2, .inl (cI, 24, .inl (σ 2))),
  (ad 3, .inr (3, o_3 ad σ)),
  (ad 4, .inl (cI, 8, .inl (σ 4))),
  (ad 5, .inr (7, o_5 ad σ)),
  (ad 6, .inl (cP, 3, .inr (.inr (.inr (.inr (fun j => some (ad (10 + j)))))))),
  (ad 7, .inr (7, o_7 ad σ)),
  (ad 8, .inl (cP, 3, .inr (.inr (.inr (.inr (fun j => some (ad (13 + j)))))))),
  (ad 9, .inr (0, o_9 ad σ)),
  (ad 10, .inr (4, o_P σ 10)),
  (ad 11, .inr (4, o_P σ 11)),
  (ad 12, .inr (4, o_P σ 12)),
  (ad 13, .inr (4, o_P σ 13)),
  (ad 14, .inr (4, o_P σ 14)),
  (ad 15, .inr (4, o_P σ 15)),
  (ad 16, .inr (4, o_P σ 16)),
  (ad 17, .inr (4, o_P σ 17)),
  (ad 18, .inl (cI, 6, .inl (σ 18))),
  (ad 19, .inr (0, o_19 ad σ)),
  (ad 20, .inl (cI, 6, .inl (σ 20))),
  (ad 21, .inr (5, o_21 ad σ)),
  (ad 22, .inl (cI, 160, .inl (σ 22))),
  (ad 23, .inl (cI, 6, .inl (σ 23))),
  (ad 24, .inr (8, o_24 ad σ)),
  (ad 25, .inr (1, o_25 ad σ)),
  (ad 26, .inr (2, o_26 ad σ)),
  (ad 27, .inl (cI, 48, .inl (σ 27))),
  (ad 28, .inr (9, o_28 ad σ)),
  (ad 29, .inl (cI, 8, .inl (σ 29))),
  (ad 30, .inl (cI, 8, .inl (σ 30))),
  (ad 31, .inl (cI, 8, .inl (σ 31))),
  (ad 32, .inr (10, o_32 ad σ)),
  (ad 33, .inl (cI, 10, .inl (σ 33))),
  (ad 34, .inl (cI, 10, .inl (σ 34))),
  (ad 35, .inl (cI, 61, .inl (σ 35))),
  (ad 36, .inl (cI, 61, .inl (σ 36))),
  (ad 37, .inl (cI, 61, .inl (σ 37))),
  (ad 38, .inr (12, o_38 ad σ)),
  (ad 39, .inl (cI, 8, .inl (σ 39))),
  (ad 40, .inl (cI, 2, .inl (σ 40))),
  (ad 41, .inl (cI, 2, .inl (σ 41))),
  (ad 42, .inl (cI, 2, .inl (σ 42))),
  (ad 43, .inl (cI, 24, .inl (σ 43))),
  (ad 44, .inl (cI, 3, .inl (σ 44))),
  (ad 45, .inl (cI, 3, .inl (σ 45))),
  (ad 46, .inl (cI, 3, .inl (σ 46))),
  (ad 47, .inl (cI, 3, .inl (σ 47))),
  (ad 48, .inl (cI, 6, .inl (σ 48))),
  (ad 49, .inl (cI, 6, .inl (σ 49))),
  (ad 50, .inl (cI, 3, .inl (σ 50))),
  (ad 51, .inl (cI, 3, .inl (σ 51))),
  (ad 52, .inl (cI, 8, .inl (σ 52))),
  (ad 53, .inl (cI, 160, .inl (σ 53))),
  (ad 54, .inl (cI, 6, .inl (σ 54))),
  (ad 55, .inl (cI, 6, .inl (σ 55))),
  (ad 56, .inl (cI, 48, .inl (σ 56))),
  (ad 57, .inl (cI, 24, .inl (σ 57))),
  (ad 58, .inl (cI, 24, .inl (σ 58))),
  (ad 59, .inl (cI, 10, .inl (σ 59))),
  (ad 60, .inl (cI, 10, .inl (σ 60))),
  (ad 61, .inl (cI, 601, .inl (σ 61))),
  (ad 62, .inl (cI, 61, .inl (σ 62))),
  (ad 63, .inl (cI, 61, .inl (σ 63)))]
theorem wd_0 (ad : Nat → Nat) (σ : S2) (cI cP : ClassId) : (wd ad cI cP σ)[0]? = some (ad 0, .inr (11, o_0 ad σ)) := rfl
theorem wd_1 (ad : Nat → Nat) (σ : S2) (cI cP : ClassId) : (wd ad cI cP σ)[1]? = some (ad 1, .inr (6, o_1 ad σ)) := rfl
theorem wd_2 (ad : Nat → Nat) (σ : S2) (cI cP : ClassId) : (wd ad cI cP σ)[2]? = some (ad 2, .inl (cI, 24, .inl (σ 2))) := rfl
theorem wd_3 (ad : Nat → Nat) (σ : S2) (cI cP : ClassId) : (wd ad cI cP σ)[3]? = some (ad 3, .inr (3, o_3 ad σ)) := rfl
theorem wd_4 (ad : Nat → Nat) (σ : S2) (cI cP : ClassId) : (wd ad cI cP σ)[4]? = some (ad 4, .inl (cI, 8, .inl (σ 4))) := rfl
theorem wd_5 (ad : Nat → Nat) (σ : S2) (cI cP : ClassId) : (wd ad cI cP σ)[5]? = some (ad 5, .inr (7, o_5 ad σ)) := rfl
theorem wd_6 (ad : Nat → Nat) (σ : S2) (cI cP : ClassId) : (wd ad cI cP σ)[6]? = some (ad 6, .inl (cP, 3, .inr (.inr (.inr (.inr (fun j => some (ad (10 + j)))))))) := rfl
theorem wd_7 (ad : Nat → Nat) (σ : S2) (cI cP : ClassId) : (wd ad cI cP σ)[7]? = some (ad 7, .inr (7, o_7 ad σ)) := rfl
theorem wd_8 (ad : Nat → Nat) (σ : S2) (cI cP : ClassId) : (wd ad cI cP σ)[8]? = some (ad 8, .inl (cP, 3, .inr (.inr (.inr (.inr (fun j => some (ad (13 + j)))))))) := rfl
theorem wd_9 (ad : Nat → Nat) (σ : S2) (cI cP : ClassId) : (wd ad cI cP σ)[9]? = some (ad 9, .inr (0, o_9 ad σ)) := rfl
theorem wd_10 (ad : Nat → Nat) (σ : S2) (cI cP : ClassId) : (wd ad cI cP σ)[10]? = some (ad 10, .inr (4, o_P σ 10)) := rfl
theorem wd_11 (ad : Nat → Nat) (σ : S2) (cI cP : ClassId) : (wd ad cI cP σ)[11]? = some (ad 11, .inr (4, o_P σ 11)) := rfl
theorem wd_12 (ad : Nat → Nat) (σ : S2) (cI cP : ClassId) : (wd ad cI cP σ)[12]? = some (ad 12, .inr (4, o_P σ 12)) := rfl
theorem wd_13 (ad : Nat → Nat) (σ : S2) (cI cP : ClassId) : (wd ad cI cP σ)[13]? = some (ad 13, .inr (4, o_P σ 13)) := rfl
theorem wd_14 (ad : Nat → Nat) (σ : S2) (cI cP : ClassId) : (wd ad cI cP σ)[14]? = some (ad 14, .inr (4, o_P σ 14)) := rfl
theorem wd_15 (ad : Nat → Nat) (σ : S2) (cI cP : ClassId) : (wd ad cI cP σ)[15]? = some (ad 15, .inr (4, o_P σ 15)) := rfl
theorem wd_16 (ad : Nat → Nat) (σ : S2) (cI cP : ClassId) : (wd ad cI cP σ)[16]? = some (ad 16, .inr (4, o_P σ 16)) := rfl
theorem wd_17 (ad : Nat → Nat) (σ : S2) (cI cP : ClassId) : (wd ad cI cP σ)[17]? = some (ad 17, .inr (4, o_P σ 17)) := rfl
theorem wd_18 (ad : Nat → Nat) (σ : S2) (cI cP : ClassId) : (wd ad cI cP σ)[18]? = some (ad 18, .inl (cI, 6, .inl (σ 18))) := rfl
theorem wd_19 (ad : Nat → Nat) (σ : S2) (cI cP : ClassId) : (wd ad cI cP σ)[19]? = some (ad 19, .inr (0, o_19 ad σ)) := rfl
theorem wd_20 (ad : Nat → Nat) (σ : S2) (cI cP : ClassId) : (wd ad cI cP σ)[20]? = some (ad 20, .inl (cI, 6, .inl (σ 20))) := rfl
theorem wd_21 (ad : Nat → Nat) (σ : S2) (cI cP : ClassId) : (wd ad cI cP σ)[21]? = some (ad 21, .inr (5, o_21 ad σ)) := rfl
theorem wd_22 (ad : Nat → Nat) (σ : S2) (cI cP : ClassId) : (wd ad cI cP σ)[22]? = some (ad 22, .inl (cI, 160, .inl (σ 22))) := rfl
theorem wd_23 (ad : Nat → Nat) (σ : S2) (cI cP : ClassId) : (wd ad cI cP σ)[23]? = some (ad 23, .inl (cI, 6, .inl (σ 23))) := rfl
theorem wd_24 (ad : Nat → Nat) (σ : S2) (cI cP : ClassId) : (wd ad cI cP σ)[24]? = some (ad 24, .inr (8, o_24 ad σ)) := rfl
theorem wd_25 (ad : Nat → Nat) (σ : S2) (cI cP : ClassId) : (wd ad cI cP σ)[25]? = some (ad 25, .inr (1, o_25 ad σ)) := rfl
theorem wd_26 (ad : Nat → Nat) (σ : S2) (cI cP : ClassId) : (wd ad cI cP σ)[26]? = some (ad 26, .inr (2, o_26 ad σ)) := rfl
theorem wd_27 (ad : Nat → Nat) (σ : S2) (cI cP : ClassId) : (wd ad cI cP σ)[27]? = some (ad 27, .inl (cI, 48, .inl (σ 27))) := rfl
theorem wd_28 (ad : Nat → Nat) (σ : S2) (cI cP : ClassId) : (wd ad cI cP σ)[28]? = some (ad 28, .inr (9, o_28 ad σ)) := rfl
theorem wd_29 (ad : Nat → Nat) (σ : S2) (cI cP : ClassId) : (wd ad cI cP σ)[29]? = some (ad 29, .inl (cI, 8, .inl (σ 29))) := rfl
theorem wd_30 (ad : Nat → Nat) (σ : S2) (cI cP : ClassId) : (wd ad cI cP σ)[30]? = some (ad 30, .inl (cI, 8, .inl (σ 30))) := rfl
theorem wd_31 (ad : Nat → Nat) (σ : S2) (cI cP : ClassId) : (wd ad cI cP σ)[31]? = some (ad 31, .inl (cI, 8, .inl (σ 31))) := rfl
theorem wd_32 (ad : Nat → Nat) (σ : S2) (cI cP : ClassId) : (wd ad cI cP σ)[32]? = some (ad 32, .inr (10, o_32 ad σ)) := rfl
theorem wd_33 (ad : Nat → Nat) (σ : S2) (cI cP : ClassId) : (wd ad cI cP σ)[33]? = some (ad 33, .inl (cI, 10, .inl (σ 33))) := rfl
theorem wd_34 (ad : Nat → Nat) (σ : S2) (cI cP : ClassId) : (wd ad cI cP σ)[34]? = some (ad 34, .inl (cI, 10, .inl (σ 34))) := rfl
theorem wd_35 (ad : Nat → Nat) (σ : S2) (cI cP : ClassId) : (wd ad cI cP σ)[35]? = some (ad 35, .inl (cI, 61, .inl (σ 35))) := rfl
theorem wd_36 (ad : Nat → Nat) (σ : S2) (cI cP : ClassId) : (wd ad cI cP σ)[36]? = some (ad 36, .inl (cI, 61, .inl (σ 36))) := rfl
theorem wd_37 (ad : Nat → Nat) (σ : S2) (cI cP : ClassId) : (wd ad cI cP σ)[37]? = some (ad 37, .inl (cI, 61, .inl (σ 37))) := rfl
theorem wd_38 (ad : Nat → Nat) (σ : S2) (cI cP : ClassId) : (wd ad cI cP σ)[38]? = some (ad 38, .inr (12, o_38 ad σ)) := rfl
theorem wd_39 (ad : Nat → Nat) (σ : S2) (cI cP : ClassId) : (wd ad cI cP σ)[39]? = some (ad 39, .inl (cI, 8, .inl (σ 39))) := rfl
theorem wd_40 (ad : Nat → Nat) (σ : S2) (cI cP : ClassId) : (wd ad cI cP σ)[40]? = some (ad 40, .inl (cI, 2, .inl (σ 40))) := rfl
theorem wd_41 (ad : Nat → Nat) (σ : S2) (cI cP : ClassId) : (wd ad cI cP σ)[41]? = some (ad 41, .inl (cI, 2, .inl (σ 41))) := rfl
theorem wd_42 (ad : Nat → Nat) (σ : S2) (cI cP : ClassId) : (wd ad cI cP σ)[42]? = some (ad 42, .inl (cI, 2, .inl (σ 42))) := rfl
theorem wd_43 (ad : Nat → Nat) (σ : S2) (cI cP : ClassId) : (wd ad cI cP σ)[43]? = some (ad 43, .inl (cI, 24, .inl (σ 43))) := rfl
theorem wd_44 (ad : Nat → Nat) (σ : S2) (cI cP : ClassId) : (wd ad cI cP σ)[44]? = some (ad 44, .inl (cI, 3, .inl (σ 44))) := rfl
theorem wd_45 (ad : Nat → Nat) (σ : S2) (cI cP : ClassId) : (wd ad cI cP σ)[45]? = some (ad 45, .inl (cI, 3, .inl (σ 45))) := rfl
theorem wd_46 (ad : Nat → Nat) (σ : S2) (cI cP : ClassId) : (wd ad cI cP σ)[46]? = some (ad 46, .inl (cI, 3, .inl (σ 46))) := rfl
theorem wd_47 (ad : Nat → Nat) (σ : S2) (cI cP : ClassId) : (wd ad cI cP σ)[47]? = some (ad 47, .inl (cI, 3, .inl (σ 47))) := rfl
theorem wd_48 (ad : Nat → Nat) (σ : S2) (cI cP : ClassId) : (wd ad cI cP σ)[48]? = some (ad 48, .inl (cI, 6, .inl (σ 48))) := rfl
theorem wd_49 (ad : Nat → Nat) (σ : S2) (cI cP : ClassId) : (wd ad cI cP σ)[49]? = some (ad 49, .inl (cI, 6, .inl (σ 49))) := rfl
theorem wd_50 (ad : Nat → Nat) (σ : S2) (cI cP : ClassId) : (wd ad cI cP σ)[50]? = some (ad 50, .inl (cI, 3, .inl (σ 50))) := rfl
theorem wd_51 (ad : Nat → Nat) (σ : S2) (cI cP : ClassId) : (wd ad cI cP σ)[51]? = some (ad 51, .inl (cI, 3, .inl (σ 51))) := rfl
theorem wd_52 (ad : Nat → Nat) (σ : S2) (cI cP : ClassId) : (wd ad cI cP σ)[52]? = some (ad 52, .inl (cI, 8, .inl (σ 52))) := rfl
theorem wd_53 (ad : Nat → Nat) (σ : S2) (cI cP : ClassId) : (wd ad cI cP σ)[53]? = some (ad 53, .inl (cI, 160, .inl (σ 53))) := rfl
theorem wd_54 (ad : Nat → Nat) (σ : S2) (cI cP : ClassId) : (wd ad cI cP σ)[54]? = some (ad 54, .inl (cI, 6, .inl (σ 54))) := rfl
theorem wd_55 (ad : Nat → Nat) (σ : S2) (cI cP : ClassId) : (wd ad cI cP σ)[55]? = some (ad 55, .inl (cI, 6, .inl (σ 55))) := rfl
theorem wd_56 (ad : Nat → Nat) (σ : S2) (cI cP : ClassId) : (wd ad cI cP σ)[56]? = some (ad 56, .inl (cI, 48, .inl (σ 56))) := rfl
theorem wd_57 (ad : Nat → Nat) (σ : S2) (cI cP : ClassId) : (wd ad cI cP σ)[57]? = some (ad 57, .inl (cI, 24, .inl (σ 57))) := rfl
theorem wd_58 (ad : Nat → Nat) (σ : S2) (cI cP : ClassId) : (wd ad cI cP σ)[58]? = some (ad 58, .inl (cI, 24, .inl (σ 58))) := rfl
theorem wd_59 (ad : Nat → Nat) (σ : S2) (cI cP : ClassId) : (wd ad cI cP σ)[59]? = some (ad 59, .inl (cI, 10, .inl (σ 59))) := rfl
theorem wd_60 (ad : Nat → Nat) (σ : S2) (cI cP : ClassId) : (wd ad cI cP σ)[60]? = some (ad 60, .inl (cI, 10, .inl (σ 60))) := rfl
theorem wd_61 (ad : Nat → Nat) (σ : S2) (cI cP : ClassId) : (wd ad cI cP σ)[61]? = some (ad 61, .inl (cI, 601, .inl (σ 61))) := rfl
theorem wd_62 (ad : Nat → Nat) (σ : S2) (cI cP : ClassId) : (wd ad cI cP σ)[62]? = some (ad 62, .inl (cI, 61, .inl (σ 62))) := rfl
theorem wd_63 (ad : Nat → Nat) (σ : S2) (cI cP : ClassId) : (wd ad cI cP σ)[63]? = some (ad 63, .inl (cI, 61, .inl (σ 63))) := rfl
theorem sF_1_1 (ad : Nat → Nat) (σ : S2) (v : Int32) (cI cP : ClassId) : (wd ad cI cP σ).set 1 (ad 1, .inr (6, (o_1 ad σ).set 1 (.int v))) = wd ad cI cP (wr σ 1 1 v) := rfl
theorem sA_2 (ad : Nat → Nat) (σ : S2) (f : Nat → Int32) (cI cP : ClassId) : (wd ad cI cP σ).set 2 (ad 2, .inl (cI, 24, .inl f)) = wd ad cI cP (va_up σ 2 f) := rfl
theorem sA_4 (ad : Nat → Nat) (σ : S2) (f : Nat → Int32) (cI cP : ClassId) : (wd ad cI cP σ).set 4 (ad 4, .inl (cI, 8, .inl f)) = wd ad cI cP (va_up σ 4 f) := rfl
theorem sF_5_3 (ad : Nat → Nat) (σ : S2) (v : Int32) (cI cP : ClassId) : (wd ad cI cP σ).set 5 (ad 5, .inr (7, (o_5 ad σ).set 3 (.int v))) = wd ad cI cP (wr σ 5 3 v) := rfl
theorem sF_5_4 (ad : Nat → Nat) (σ : S2) (v : Int32) (cI cP : ClassId) : (wd ad cI cP σ).set 5 (ad 5, .inr (7, (o_5 ad σ).set 4 (.int v))) = wd ad cI cP (wr σ 5 4 v) := rfl
theorem sF_5_5 (ad : Nat → Nat) (σ : S2) (v : Int32) (cI cP : ClassId) : (wd ad cI cP σ).set 5 (ad 5, .inr (7, (o_5 ad σ).set 5 (.int v))) = wd ad cI cP (wr σ 5 5 v) := rfl
theorem sF_5_6 (ad : Nat → Nat) (σ : S2) (v : Int32) (cI cP : ClassId) : (wd ad cI cP σ).set 5 (ad 5, .inr (7, (o_5 ad σ).set 6 (.int v))) = wd ad cI cP (wr σ 5 6 v) := rfl
theorem sF_5_7 (ad : Nat → Nat) (σ : S2) (v : Int32) (cI cP : ClassId) : (wd ad cI cP σ).set 5 (ad 5, .inr (7, (o_5 ad σ).set 7 (.int v))) = wd ad cI cP (wr σ 5 7 v) := rfl
theorem sF_5_8 (ad : Nat → Nat) (σ : S2) (v : Int32) (cI cP : ClassId) : (wd ad cI cP σ).set 5 (ad 5, .inr (7, (o_5 ad σ).set 8 (.int v))) = wd ad cI cP (wr σ 5 8 v) := rfl
theorem sF_7_3 (ad : Nat → Nat) (σ : S2) (v : Int32) (cI cP : ClassId) : (wd ad cI cP σ).set 7 (ad 7, .inr (7, (o_7 ad σ).set 3 (.int v))) = wd ad cI cP (wr σ 7 3 v) := rfl
theorem sF_7_4 (ad : Nat → Nat) (σ : S2) (v : Int32) (cI cP : ClassId) : (wd ad cI cP σ).set 7 (ad 7, .inr (7, (o_7 ad σ).set 4 (.int v))) = wd ad cI cP (wr σ 7 4 v) := rfl
theorem sF_7_5 (ad : Nat → Nat) (σ : S2) (v : Int32) (cI cP : ClassId) : (wd ad cI cP σ).set 7 (ad 7, .inr (7, (o_7 ad σ).set 5 (.int v))) = wd ad cI cP (wr σ 7 5 v) := rfl
theorem sF_7_6 (ad : Nat → Nat) (σ : S2) (v : Int32) (cI cP : ClassId) : (wd ad cI cP σ).set 7 (ad 7, .inr (7, (o_7 ad σ).set 6 (.int v))) = wd ad cI cP (wr σ 7 6 v) := rfl
theorem sF_7_7 (ad : Nat → Nat) (σ : S2) (v : Int32) (cI cP : ClassId) : (wd ad cI cP σ).set 7 (ad 7, .inr (7, (o_7 ad σ).set 7 (.int v))) = wd ad cI cP (wr σ 7 7 v) := rfl
theorem sF_7_8 (ad : Nat → Nat) (σ : S2) (v : Int32) (cI cP : ClassId) : (wd ad cI cP σ).set 7 (ad 7, .inr (7, (o_7 ad σ).set 8 (.int v))) = wd ad cI cP (wr σ 7 8 v) := rfl
theorem sF_9_1 (ad : Nat → Nat) (σ : S2) (v : Int32) (cI cP : ClassId) : (wd ad cI cP σ).set 9 (ad 9, .inr (0, (o_9 ad σ).set 1 (.int v))) = wd ad cI cP (wr σ 9 1 v) := rfl
theorem sF_9_2 (ad : Nat → Nat) (σ : S2) (v : Int32) (cI cP : ClassId) : (wd ad cI cP σ).set 9 (ad 9, .inr (0, (o_9 ad σ).set 2 (.int v))) = wd ad cI cP (wr σ 9 2 v) := rfl
theorem sF_9_3 (ad : Nat → Nat) (σ : S2) (v : Int32) (cI cP : ClassId) : (wd ad cI cP σ).set 9 (ad 9, .inr (0, (o_9 ad σ).set 3 (.int v))) = wd ad cI cP (wr σ 9 3 v) := rfl
theorem sA_18 (ad : Nat → Nat) (σ : S2) (f : Nat → Int32) (cI cP : ClassId) : (wd ad cI cP σ).set 18 (ad 18, .inl (cI, 6, .inl f)) = wd ad cI cP (va_up σ 18 f) := rfl
theorem sF_19_1 (ad : Nat → Nat) (σ : S2) (v : Int32) (cI cP : ClassId) : (wd ad cI cP σ).set 19 (ad 19, .inr (0, (o_19 ad σ).set 1 (.int v))) = wd ad cI cP (wr σ 19 1 v) := rfl
theorem sF_19_2 (ad : Nat → Nat) (σ : S2) (v : Int32) (cI cP : ClassId) : (wd ad cI cP σ).set 19 (ad 19, .inr (0, (o_19 ad σ).set 2 (.int v))) = wd ad cI cP (wr σ 19 2 v) := rfl
theorem sF_19_3 (ad : Nat → Nat) (σ : S2) (v : Int32) (cI cP : ClassId) : (wd ad cI cP σ).set 19 (ad 19, .inr (0, (o_19 ad σ).set 3 (.int v))) = wd ad cI cP (wr σ 19 3 v) := rfl
theorem sA_20 (ad : Nat → Nat) (σ : S2) (f : Nat → Int32) (cI cP : ClassId) : (wd ad cI cP σ).set 20 (ad 20, .inl (cI, 6, .inl f)) = wd ad cI cP (va_up σ 20 f) := rfl
theorem sF_21_1 (ad : Nat → Nat) (σ : S2) (v : Int32) (cI cP : ClassId) : (wd ad cI cP σ).set 21 (ad 21, .inr (5, (o_21 ad σ).set 1 (.int v))) = wd ad cI cP (wr σ 21 1 v) := rfl
theorem sF_21_3 (ad : Nat → Nat) (σ : S2) (v : Int32) (cI cP : ClassId) : (wd ad cI cP σ).set 21 (ad 21, .inr (5, (o_21 ad σ).set 3 (.int v))) = wd ad cI cP (wr σ 21 3 v) := rfl
theorem sA_22 (ad : Nat → Nat) (σ : S2) (f : Nat → Int32) (cI cP : ClassId) : (wd ad cI cP σ).set 22 (ad 22, .inl (cI, 160, .inl f)) = wd ad cI cP (va_up σ 22 f) := rfl
theorem sA_23 (ad : Nat → Nat) (σ : S2) (f : Nat → Int32) (cI cP : ClassId) : (wd ad cI cP σ).set 23 (ad 23, .inl (cI, 6, .inl f)) = wd ad cI cP (va_up σ 23 f) := rfl
theorem sF_24_1 (ad : Nat → Nat) (σ : S2) (v : Int32) (cI cP : ClassId) : (wd ad cI cP σ).set 24 (ad 24, .inr (8, (o_24 ad σ).set 1 (.int v))) = wd ad cI cP (wr σ 24 1 v) := rfl
theorem sF_24_2 (ad : Nat → Nat) (σ : S2) (v : Int32) (cI cP : ClassId) : (wd ad cI cP σ).set 24 (ad 24, .inr (8, (o_24 ad σ).set 2 (.int v))) = wd ad cI cP (wr σ 24 2 v) := rfl
theorem sF_24_3 (ad : Nat → Nat) (σ : S2) (v : Int32) (cI cP : ClassId) : (wd ad cI cP σ).set 24 (ad 24, .inr (8, (o_24 ad σ).set 3 (.int v))) = wd ad cI cP (wr σ 24 3 v) := rfl
theorem sF_25_2 (ad : Nat → Nat) (σ : S2) (v : Int32) (cI cP : ClassId) : (wd ad cI cP σ).set 25 (ad 25, .inr (1, (o_25 ad σ).set 2 (.int v))) = wd ad cI cP (wr σ 25 2 v) := rfl
theorem sF_25_3 (ad : Nat → Nat) (σ : S2) (v : Int32) (cI cP : ClassId) : (wd ad cI cP σ).set 25 (ad 25, .inr (1, (o_25 ad σ).set 3 (.int v))) = wd ad cI cP (wr σ 25 3 v) := rfl
theorem sF_26_1 (ad : Nat → Nat) (σ : S2) (v : Int32) (cI cP : ClassId) : (wd ad cI cP σ).set 26 (ad 26, .inr (2, (o_26 ad σ).set 1 (.int v))) = wd ad cI cP (wr σ 26 1 v) := rfl
theorem sA_27 (ad : Nat → Nat) (σ : S2) (f : Nat → Int32) (cI cP : ClassId) : (wd ad cI cP σ).set 27 (ad 27, .inl (cI, 48, .inl f)) = wd ad cI cP (va_up σ 27 f) := rfl
theorem sF_28_3 (ad : Nat → Nat) (σ : S2) (v : Int32) (cI cP : ClassId) : (wd ad cI cP σ).set 28 (ad 28, .inr (9, (o_28 ad σ).set 3 (.int v))) = wd ad cI cP (wr σ 28 3 v) := rfl
theorem sA_29 (ad : Nat → Nat) (σ : S2) (f : Nat → Int32) (cI cP : ClassId) : (wd ad cI cP σ).set 29 (ad 29, .inl (cI, 8, .inl f)) = wd ad cI cP (va_up σ 29 f) := rfl
theorem sA_30 (ad : Nat → Nat) (σ : S2) (f : Nat → Int32) (cI cP : ClassId) : (wd ad cI cP σ).set 30 (ad 30, .inl (cI, 8, .inl f)) = wd ad cI cP (va_up σ 30 f) := rfl
theorem sA_31 (ad : Nat → Nat) (σ : S2) (f : Nat → Int32) (cI cP : ClassId) : (wd ad cI cP σ).set 31 (ad 31, .inl (cI, 8, .inl f)) = wd ad cI cP (va_up σ 31 f) := rfl
theorem sF_32_2 (ad : Nat → Nat) (σ : S2) (v : Int32) (cI cP : ClassId) : (wd ad cI cP σ).set 32 (ad 32, .inr (10, (o_32 ad σ).set 2 (.int v))) = wd ad cI cP (wr σ 32 2 v) := rfl
theorem sF_32_7 (ad : Nat → Nat) (σ : S2) (v : Int32) (cI cP : ClassId) : (wd ad cI cP σ).set 32 (ad 32, .inr (10, (o_32 ad σ).set 7 (.int v))) = wd ad cI cP (wr σ 32 7 v) := rfl
theorem sF_32_8 (ad : Nat → Nat) (σ : S2) (v : Int32) (cI cP : ClassId) : (wd ad cI cP σ).set 32 (ad 32, .inr (10, (o_32 ad σ).set 8 (.int v))) = wd ad cI cP (wr σ 32 8 v) := rfl
theorem sA_33 (ad : Nat → Nat) (σ : S2) (f : Nat → Int32) (cI cP : ClassId) : (wd ad cI cP σ).set 33 (ad 33, .inl (cI, 10, .inl f)) = wd ad cI cP (va_up σ 33 f) := rfl
theorem sA_34 (ad : Nat → Nat) (σ : S2) (f : Nat → Int32) (cI cP : ClassId) : (wd ad cI cP σ).set 34 (ad 34, .inl (cI, 10, .inl f)) = wd ad cI cP (va_up σ 34 f) := rfl
theorem sA_35 (ad : Nat → Nat) (σ : S2) (f : Nat → Int32) (cI cP : ClassId) : (wd ad cI cP σ).set 35 (ad 35, .inl (cI, 61, .inl f)) = wd ad cI cP (va_up σ 35 f) := rfl
theorem sA_36 (ad : Nat → Nat) (σ : S2) (f : Nat → Int32) (cI cP : ClassId) : (wd ad cI cP σ).set 36 (ad 36, .inl (cI, 61, .inl f)) = wd ad cI cP (va_up σ 36 f) := rfl
theorem sA_37 (ad : Nat → Nat) (σ : S2) (f : Nat → Int32) (cI cP : ClassId) : (wd ad cI cP σ).set 37 (ad 37, .inl (cI, 61, .inl f)) = wd ad cI cP (va_up σ 37 f) := rfl
theorem sF_38_5 (ad : Nat → Nat) (σ : S2) (v : Int32) (cI cP : ClassId) : (wd ad cI cP σ).set 38 (ad 38, .inr (12, (o_38 ad σ).set 5 (.int v))) = wd ad cI cP (wr σ 38 5 v) := rfl
theorem sF_38_16 (ad : Nat → Nat) (σ : S2) (v : Int32) (cI cP : ClassId) : (wd ad cI cP σ).set 38 (ad 38, .inr (12, (o_38 ad σ).set 16 (.int v))) = wd ad cI cP (wr σ 38 16 v) := rfl
theorem sF_38_19 (ad : Nat → Nat) (σ : S2) (v : Int32) (cI cP : ClassId) : (wd ad cI cP σ).set 38 (ad 38, .inr (12, (o_38 ad σ).set 19 (.int v))) = wd ad cI cP (wr σ 38 19 v) := rfl
theorem sF_38_20 (ad : Nat → Nat) (σ : S2) (v : Int32) (cI cP : ClassId) : (wd ad cI cP σ).set 38 (ad 38, .inr (12, (o_38 ad σ).set 20 (.int v))) = wd ad cI cP (wr σ 38 20 v) := rfl
theorem sF_38_22 (ad : Nat → Nat) (σ : S2) (v : Int32) (cI cP : ClassId) : (wd ad cI cP σ).set 38 (ad 38, .inr (12, (o_38 ad σ).set 22 (.int v))) = wd ad cI cP (wr σ 38 22 v) := rfl
theorem sF_38_25 (ad : Nat → Nat) (σ : S2) (v : Int32) (cI cP : ClassId) : (wd ad cI cP σ).set 38 (ad 38, .inr (12, (o_38 ad σ).set 25 (.int v))) = wd ad cI cP (wr σ 38 25 v) := rfl
theorem sF_38_28 (ad : Nat → Nat) (σ : S2) (v : Int32) (cI cP : ClassId) : (wd ad cI cP σ).set 38 (ad 38, .inr (12, (o_38 ad σ).set 28 (.int v))) = wd ad cI cP (wr σ 38 28 v) := rfl
theorem sF_38_29 (ad : Nat → Nat) (σ : S2) (v : Int32) (cI cP : ClassId) : (wd ad cI cP σ).set 38 (ad 38, .inr (12, (o_38 ad σ).set 29 (.int v))) = wd ad cI cP (wr σ 38 29 v) := rfl
theorem sF_38_30 (ad : Nat → Nat) (σ : S2) (v : Int32) (cI cP : ClassId) : (wd ad cI cP σ).set 38 (ad 38, .inr (12, (o_38 ad σ).set 30 (.int v))) = wd ad cI cP (wr σ 38 30 v) := rfl
theorem sF_38_31 (ad : Nat → Nat) (σ : S2) (v : Int32) (cI cP : ClassId) : (wd ad cI cP σ).set 38 (ad 38, .inr (12, (o_38 ad σ).set 31 (.int v))) = wd ad cI cP (wr σ 38 31 v) := rfl
theorem sF_38_33 (ad : Nat → Nat) (σ : S2) (v : Int32) (cI cP : ClassId) : (wd ad cI cP σ).set 38 (ad 38, .inr (12, (o_38 ad σ).set 33 (.int v))) = wd ad cI cP (wr σ 38 33 v) := rfl
theorem sF_38_34 (ad : Nat → Nat) (σ : S2) (v : Int32) (cI cP : ClassId) : (wd ad cI cP σ).set 38 (ad 38, .inr (12, (o_38 ad σ).set 34 (.int v))) = wd ad cI cP (wr σ 38 34 v) := rfl
theorem sA_39 (ad : Nat → Nat) (σ : S2) (f : Nat → Int32) (cI cP : ClassId) : (wd ad cI cP σ).set 39 (ad 39, .inl (cI, 8, .inl f)) = wd ad cI cP (va_up σ 39 f) := rfl
theorem sA_40 (ad : Nat → Nat) (σ : S2) (f : Nat → Int32) (cI cP : ClassId) : (wd ad cI cP σ).set 40 (ad 40, .inl (cI, 2, .inl f)) = wd ad cI cP (va_up σ 40 f) := rfl
theorem sA_41 (ad : Nat → Nat) (σ : S2) (f : Nat → Int32) (cI cP : ClassId) : (wd ad cI cP σ).set 41 (ad 41, .inl (cI, 2, .inl f)) = wd ad cI cP (va_up σ 41 f) := rfl
theorem sA_42 (ad : Nat → Nat) (σ : S2) (f : Nat → Int32) (cI cP : ClassId) : (wd ad cI cP σ).set 42 (ad 42, .inl (cI, 2, .inl f)) = wd ad cI cP (va_up σ 42 f) := rfl
theorem sA_43 (ad : Nat → Nat) (σ : S2) (f : Nat → Int32) (cI cP : ClassId) : (wd ad cI cP σ).set 43 (ad 43, .inl (cI, 24, .inl f)) = wd ad cI cP (va_up σ 43 f) := rfl
theorem sA_44 (ad : Nat → Nat) (σ : S2) (f : Nat → Int32) (cI cP : ClassId) : (wd ad cI cP σ).set 44 (ad 44, .inl (cI, 3, .inl f)) = wd ad cI cP (va_up σ 44 f) := rfl
theorem sA_45 (ad : Nat → Nat) (σ : S2) (f : Nat → Int32) (cI cP : ClassId) : (wd ad cI cP σ).set 45 (ad 45, .inl (cI, 3, .inl f)) = wd ad cI cP (va_up σ 45 f) := rfl
theorem sA_46 (ad : Nat → Nat) (σ : S2) (f : Nat → Int32) (cI cP : ClassId) : (wd ad cI cP σ).set 46 (ad 46, .inl (cI, 3, .inl f)) = wd ad cI cP (va_up σ 46 f) := rfl
theorem sA_47 (ad : Nat → Nat) (σ : S2) (f : Nat → Int32) (cI cP : ClassId) : (wd ad cI cP σ).set 47 (ad 47, .inl (cI, 3, .inl f)) = wd ad cI cP (va_up σ 47 f) := rfl
theorem sA_48 (ad : Nat → Nat) (σ : S2) (f : Nat → Int32) (cI cP : ClassId) : (wd ad cI cP σ).set 48 (ad 48, .inl (cI, 6, .inl f)) = wd ad cI cP (va_up σ 48 f) := rfl
theorem sA_49 (ad : Nat → Nat) (σ : S2) (f : Nat → Int32) (cI cP : ClassId) : (wd ad cI cP σ).set 49 (ad 49, .inl (cI, 6, .inl f)) = wd ad cI cP (va_up σ 49 f) := rfl
theorem sA_50 (ad : Nat → Nat) (σ : S2) (f : Nat → Int32) (cI cP : ClassId) : (wd ad cI cP σ).set 50 (ad 50, .inl (cI, 3, .inl f)) = wd ad cI cP (va_up σ 50 f) := rfl
theorem sA_51 (ad : Nat → Nat) (σ : S2) (f : Nat → Int32) (cI cP : ClassId) : (wd ad cI cP σ).set 51 (ad 51, .inl (cI, 3, .inl f)) = wd ad cI cP (va_up σ 51 f) := rfl
theorem sA_52 (ad : Nat → Nat) (σ : S2) (f : Nat → Int32) (cI cP : ClassId) : (wd ad cI cP σ).set 52 (ad 52, .inl (cI, 8, .inl f)) = wd ad cI cP (va_up σ 52 f) := rfl
theorem sA_53 (ad : Nat → Nat) (σ : S2) (f : Nat → Int32) (cI cP : ClassId) : (wd ad cI cP σ).set 53 (ad 53, .inl (cI, 160, .inl f)) = wd ad cI cP (va_up σ 53 f) := rfl
theorem sA_54 (ad : Nat → Nat) (σ : S2) (f : Nat → Int32) (cI cP : ClassId) : (wd ad cI cP σ).set 54 (ad 54, .inl (cI, 6, .inl f)) = wd ad cI cP (va_up σ 54 f) := rfl
theorem sA_55 (ad : Nat → Nat) (σ : S2) (f : Nat → Int32) (cI cP : ClassId) : (wd ad cI cP σ).set 55 (ad 55, .inl (cI, 6, .inl f)) = wd ad cI cP (va_up σ 55 f) := rfl
theorem sA_56 (ad : Nat → Nat) (σ : S2) (f : Nat → Int32) (cI cP : ClassId) : (wd ad cI cP σ).set 56 (ad 56, .inl (cI, 48, .inl f)) = wd ad cI cP (va_up σ 56 f) := rfl
theorem sA_57 (ad : Nat → Nat) (σ : S2) (f : Nat → Int32) (cI cP : ClassId) : (wd ad cI cP σ).set 57 (ad 57, .inl (cI, 24, .inl f)) = wd ad cI cP (va_up σ 57 f) := rfl
theorem sA_58 (ad : Nat → Nat) (σ : S2) (f : Nat → Int32) (cI cP : ClassId) : (wd ad cI cP σ).set 58 (ad 58, .inl (cI, 24, .inl f)) = wd ad cI cP (va_up σ 58 f) := rfl
theorem sA_59 (ad : Nat → Nat) (σ : S2) (f : Nat → Int32) (cI cP : ClassId) : (wd ad cI cP σ).set 59 (ad 59, .inl (cI, 10, .inl f)) = wd ad cI cP (va_up σ 59 f) := rfl
theorem sA_60 (ad : Nat → Nat) (σ : S2) (f : Nat → Int32) (cI cP : ClassId) : (wd ad cI cP σ).set 60 (ad 60, .inl (cI, 10, .inl f)) = wd ad cI cP (va_up σ 60 f) := rfl
theorem sA_61 (ad : Nat → Nat) (σ : S2) (f : Nat → Int32) (cI cP : ClassId) : (wd ad cI cP σ).set 61 (ad 61, .inl (cI, 601, .inl f)) = wd ad cI cP (va_up σ 61 f) := rfl
theorem sA_62 (ad : Nat → Nat) (σ : S2) (f : Nat → Int32) (cI cP : ClassId) : (wd ad cI cP σ).set 62 (ad 62, .inl (cI, 61, .inl f)) = wd ad cI cP (va_up σ 62 f) := rfl
theorem sA_63 (ad : Nat → Nat) (σ : S2) (f : Nat → Int32) (cI cP : ClassId) : (wd ad cI cP σ).set 63 (ad 63, .inl (cI, 61, .inl f)) = wd ad cI cP (va_up σ 63 f) := rfl
theorem pt_cases {P : Nat → Prop} {k : Nat} (h1 : 10 ≤ k) (h2 : k < 18) (h : P 10 ∧ P 11 ∧ P 12 ∧ P 13 ∧ P 14 ∧ P 15 ∧ P 16 ∧ P 17) : P k := by
  obtain ⟨a, b, c, d, e, f, g, i⟩ := h
  rcases (show k = 10 ∨ k = 11 ∨ k = 12 ∨ k = 13 ∨ k = 14 ∨ k = 15 ∨ k = 16 ∨ k = 17 by omega) with rfl | rfl | rfl | rfl | rfl | rfl | rfl | rfl <;> assumption
theorem wd_P (ad : Nat → Nat) (σ : S2) {k : Nat} (h1 : 10 ≤ k) (h2 : k < 18) (cI cP : ClassId) : (wd ad cI cP σ)[k]? = some (ad k, .inr (4, o_P σ k)) := by
  revert cI cP
  exact pt_cases (P := fun k => ∀ (cI cP : ClassId), (wd ad cI cP σ)[k]? = some (ad k, .inr (4, o_P σ k))) h1 h2 ⟨fun _ _ => rfl, fun _ _ => rfl, fun _ _ => rfl, fun _ _ => rfl, fun _ _ => rfl, fun _ _ => rfl, fun _ _ => rfl, fun _ _ => rfl⟩
theorem sP_0 (ad : Nat → Nat) (σ : S2) {k : Nat} (h1 : 10 ≤ k) (h2 : k < 18) (v : Int32) (cI cP : ClassId) : (wd ad cI cP σ).set k (ad k, .inr (4, (o_P σ k).set 0 (.int v))) = wd ad cI cP (wr σ k 0 v) := by
  revert cI cP
  exact pt_cases (P := fun k => ∀ (cI cP : ClassId), (wd ad cI cP σ).set k (ad k, .inr (4, (o_P σ k).set 0 (.int v))) = wd ad cI cP (wr σ k 0 v)) h1 h2 ⟨fun _ _ => rfl, fun _ _ => rfl, fun _ _ => rfl, fun _ _ => rfl, fun _ _ => rfl, fun _ _ => rfl, fun _ _ => rfl, fun _ _ => rfl⟩
theorem sP_1 (ad : Nat → Nat) (σ : S2) {k : Nat} (h1 : 10 ≤ k) (h2 : k < 18) (v : Int32) (cI cP : ClassId) : (wd ad cI cP σ).set k (ad k, .inr (4, (o_P σ k).set 1 (.int v))) = wd ad cI cP (wr σ k 1 v) := by
  revert cI cP
  exact pt_cases (P := fun k => ∀ (cI cP : ClassId), (wd ad cI cP σ).set k (ad k, .inr (4, (o_P σ k).set 1 (.int v))) = wd ad cI cP (wr σ k 1 v)) h1 h2 ⟨fun _ _ => rfl, fun _ _ => rfl, fun _ _ => rfl, fun _ _ => rfl, fun _ _ => rfl, fun _ _ => rfl, fun _ _ => rfl, fun _ _ => rfl⟩
theorem sP_2 (ad : Nat → Nat) (σ : S2) {k : Nat} (h1 : 10 ≤ k) (h2 : k < 18) (v : Int32) (cI cP : ClassId) : (wd ad cI cP σ).set k (ad k, .inr (4, (o_P σ k).set 2 (.int v))) = wd ad cI cP (wr σ k 2 v) := by
  revert cI cP
  exact pt_cases (P := fun k => ∀ (cI cP : ClassId), (wd ad cI cP σ).set k (ad k, .inr (4, (o_P σ k).set 2 (.int v))) = wd ad cI cP (wr σ k 2 v)) h1 h2 ⟨fun _ _ => rfl, fun _ _ => rfl, fun _ _ => rfl, fun _ _ => rfl, fun _ _ => rfl, fun _ _ => rfl, fun _ _ => rfl, fun _ _ => rfl⟩
theorem sP_3 (ad : Nat → Nat) (σ : S2) {k : Nat} (h1 : 10 ≤ k) (h2 : k < 18) (v : Int32) (cI cP : ClassId) : (wd ad cI cP σ).set k (ad k, .inr (4, (o_P σ k).set 3 (.int v))) = wd ad cI cP (wr σ k 3 v) := by
  revert cI cP
  exact pt_cases (P := fun k => ∀ (cI cP : ClassId), (wd ad cI cP σ).set k (ad k, .inr (4, (o_P σ k).set 3 (.int v))) = wd ad cI cP (wr σ k 3 v)) h1 h2 ⟨fun _ _ => rfl, fun _ _ => rfl, fun _ _ => rfl, fun _ _ => rfl, fun _ _ => rfl, fun _ _ => rfl, fun _ _ => rfl, fun _ _ => rfl⟩
theorem sP_4 (ad : Nat → Nat) (σ : S2) {k : Nat} (h1 : 10 ≤ k) (h2 : k < 18) (v : Int32) (cI cP : ClassId) : (wd ad cI cP σ).set k (ad k, .inr (4, (o_P σ k).set 4 (.int v))) = wd ad cI cP (wr σ k 4 v) := by
  revert cI cP
  exact pt_cases (P := fun k => ∀ (cI cP : ClassId), (wd ad cI cP σ).set k (ad k, .inr (4, (o_P σ k).set 4 (.int v))) = wd ad cI cP (wr σ k 4 v)) h1 h2 ⟨fun _ _ => rfl, fun _ _ => rfl, fun _ _ => rfl, fun _ _ => rfl, fun _ _ => rfl, fun _ _ => rfl, fun _ _ => rfl, fun _ _ => rfl⟩
theorem sP_5 (ad : Nat → Nat) (σ : S2) {k : Nat} (h1 : 10 ≤ k) (h2 : k < 18) (v : Int32) (cI cP : ClassId) : (wd ad cI cP σ).set k (ad k, .inr (4, (o_P σ k).set 5 (.int v))) = wd ad cI cP (wr σ k 5 v) := by
  revert cI cP
  exact pt_cases (P := fun k => ∀ (cI cP : ClassId), (wd ad cI cP σ).set k (ad k, .inr (4, (o_P σ k).set 5 (.int v))) = wd ad cI cP (wr σ k 5 v)) h1 h2 ⟨fun _ _ => rfl, fun _ _ => rfl, fun _ _ => rfl, fun _ _ => rfl, fun _ _ => rfl, fun _ _ => rfl, fun _ _ => rfl, fun _ _ => rfl⟩
theorem sP_6 (ad : Nat → Nat) (σ : S2) {k : Nat} (h1 : 10 ≤ k) (h2 : k < 18) (v : Int32) (cI cP : ClassId) : (wd ad cI cP σ).set k (ad k, .inr (4, (o_P σ k).set 6 (.int v))) = wd ad cI cP (wr σ k 6 v) := by
  revert cI cP
  exact pt_cases (P := fun k => ∀ (cI cP : ClassId), (wd ad cI cP σ).set k (ad k, .inr (4, (o_P σ k).set 6 (.int v))) = wd ad cI cP (wr σ k 6 v)) h1 h2 ⟨fun _ _ => rfl, fun _ _ => rfl, fun _ _ => rfl, fun _ _ => rfl, fun _ _ => rfl, fun _ _ => rfl, fun _ _ => rfl, fun _ _ => rfl⟩
theorem sP_7 (ad : Nat → Nat) (σ : S2) {k : Nat} (h1 : 10 ≤ k) (h2 : k < 18) (v : Int32) (cI cP : ClassId) : (wd ad cI cP σ).set k (ad k, .inr (4, (o_P σ k).set 7 (.int v))) = wd ad cI cP (wr σ k 7 v) := by
  revert cI cP
  exact pt_cases (P := fun k => ∀ (cI cP : ClassId), (wd ad cI cP σ).set k (ad k, .inr (4, (o_P σ k).set 7 (.int v))) = wd ad cI cP (wr σ k 7 v)) h1 h2 ⟨fun _ _ => rfl, fun _ _ => rfl, fun _ _ => rfl, fun _ _ => rfl, fun _ _ => rfl, fun _ _ => rfl, fun _ _ => rfl, fun _ _ => rfl⟩
end
section
def aF (j : Nat) : Int32 := if j = 1 then 100 else if j = 3 then 35 else if j = 4 then 1 else 0
def aL (j : Nat) : Int32 := if j = 4 then 1 else 0
def aG (j : Nat) : Int32 := if j = 3 then 35 else if j = 4 then 99 else if j = 5 then 2 else 999
def lenS : List Nat := [4, 4, 4, 4, 5, 2]
def bytS : List (List Int32) := [[100, 101, 97, 100], [103, 97, 105, 110], [109, 101, 101, 116], [109, 111, 115, 116], [101, 118, 101, 114, 121], [98, 121]]
def St (ad : Nat → Nat) (A : Nat → Prop) (U : State) : Prop :=
  va_Z "NorthWheel$Script" "AT_FIRST" "[I" (.ref (ad 64)) A U U.heap ∧ va_T .int (ad 64) 6 (fun j => .int (aF j)) A U U.heap ∧
  va_Z "NorthWheel$Script" "LEAST" "[I" (.ref (ad 65)) A U U.heap ∧ va_T .int (ad 65) 6 (fun j => .int (aL j)) A U U.heap ∧
  va_Z "NorthWheel$Script" "GREATEST" "[I" (.ref (ad 66)) A U U.heap ∧ va_T .int (ad 66) 6 (fun j => .int (aG j)) A U U.heap ∧
  va_Z "java/lang/String" "COMPACT_STRINGS" "Z" (.int 1) A U U.heap ∧
  vk_S 6 lenS bytS (fun i => ad (70 + i)) (fun i => ad (80 + i)) A U U.heap ∧
  vk_R "NorthWheel$Script" 83 "dead" (ad 70) U ∧ vk_R "NorthWheel$Script" 85 "gain" (ad 71) U ∧ vk_R "NorthWheel$Script" 87 "meet" (ad 72) U ∧
  vk_R "NorthWheel$Script" 89 "most" (ad 73) U ∧ vk_R "NorthWheel$Script" 91 "every" (ad 74) U ∧ vk_R "NorthWheel$Script" 93 "by" (ad 75) U
theorem St.warm {ad : Nat → Nat} {A : Nat → Prop} {s U : State} {H : Heap} {locs : List Loc} (h : St ad A s) (hS : va_S A s.heap H locs) (hU : U.heap = H) (hW : s.WarmedH U.vm) : St ad A U := by
  obtain ⟨a1, a2, a3, a4, a5, a6, a7, a8, b0, b1, b2, b3, b4, b5⟩ := h
  subst hU
  have hk : ∀ a : Nat, a < s.heap.size → ¬ A a → U.heap[a]? = s.heap[a]? := hS.2.1
  have hv := hW.alike
  exact ⟨(a1.kept hk).moved hv, (a2.kept hk).moved hv, (a3.kept hk).moved hv, (a4.kept hk).moved hv, (a5.kept hk).moved hv, (a6.kept hk).moved hv, (a7.kept hk).moved hv, (a8.kept hk).moved hv, b0.warm hW, b1.warm hW, b2.warm hW, b3.warm hW, b4.warm hW, b5.warm hW⟩
theorem St.blind {ad : Nat → Nat} {A : Nat → Prop} {U : State} (g : JFrame) (mk : MethodId) (a : Array Value) (h : St ad A U) : St ad A (U.calling g mk a) := by
  obtain ⟨a1, a2, a3, a4, a5, a6, a7, a8, b0, b1, b2, b3, b4, b5⟩ := h
  have hv : U.vm.Alike (U.calling g mk a).vm := Vm.Alike.refl U.vm
  exact ⟨a1.moved hv, a2.moved hv, a3.moved hv, a4.moved hv, a5.moved hv, a6.moved hv, a7.moved hv, a8.moved hv, b0.same rfl, b1.same rfl, b2.same rfl, b3.same rfl, b4.same rfl, b5.same rfl⟩
theorem nest_on {w : Cond} (h : isNest w = true) : w.onTables = true := by
  cases w <;> first | rfl | (simp [isNest] at h)
theorem nest_warm {w : Cond} {s U : State} (h : isNest w = true) (hW : s.WarmedH U.vm) (hZ : va_Nw w s) : va_Nw w U := by
  cases w <;> first | exact va_Nw.warmF hW hZ | exact va_Nw.warmM hW hZ | (simp [isNest] at h)
def Ev (D : va_G) (ad : Nat → Nat) (cI cP : ClassId) (A : Nat → Prop) (U : State) : Prop :=
  va_K D vwCl [(cI, .int), (cP, .object "NorthWheel$Pointer")] U ∧ (∀ w ∈ tblN, va_Nw w U) ∧ (∀ σ : S2, va_D A (wd ad cI cP σ)) ∧ St ad A U
theorem Ev.warm {D : va_G} {ad : Nat → Nat} {cI cP : ClassId} {A : Nat → Prop} {s U : State} {H : Heap} {locs : List Loc} (h : Ev D ad cI cP A s) (hS : va_S A s.heap H locs) (hU : U.heap = H) (hW : s.WarmedH U.vm) : Ev D ad cI cP A U :=
  ⟨va_K.moved hW.alike h.1, fun w hw => nest_warm (List.mem_filter.mp hw).2 hW (h.2.1 w hw), h.2.2.1, h.2.2.2.warm hS hU hW⟩
theorem Ev.blind {D : va_G} {ad : Nat → Nat} {cI cP : ClassId} {A : Nat → Prop} {U : State} (g : JFrame) (mk : MethodId) (a : Array Value) (h : Ev D ad cI cP A U) : Ev D ad cI cP A (U.calling g mk a) :=
  ⟨va_K.moved (u := U) (U := U.calling g mk a) (Vm.Alike.refl U.vm) h.1, fun w hw => va_Nw.same (u := U) (U := U.calling g mk a) (nest_on (List.mem_filter.mp hw).2) rfl (h.2.1 w hw), h.2.2.1, h.2.2.2.blind g mk a⟩
abbrev Ctx : Type := Program × Launch × Env × Room × State × MethodId × Array Value × List Frame × Method × Code × (State → Prop) × va_G × ClassId × ClassId × (Nat → Prop)
def Cx (K : Ctx) (ad : Nat → Nat) (cc : ByteArray) (nL : Nat) (own : String) (ret : Option FieldType) : Prop := match K with
  | (p, _, _, _, s, m, args, _, meth, c, _, D, cI, cP, A) => p.tables.exec = Jvm.exec ∧ c.code = cc ∧ c.maxLocals = nL ∧ s.vm.findClass own = some m.cls ∧ (∀ w ∈ tblG, w.before args s = true) ∧ meth.sig.returnType = ret ∧ meth.locks = false ∧ Ev D ad cI cP A s
def Rm (K : Ctx) (fr lc : Nat) : Prop := match K with
  | (_, _, _, R, _, _, _, _, _, _, _, _, _, _, _) => fr ≤ R.frames ∧ lc ≤ R.locals
def RW (K : Ctx) (ad : Nat → Nat) (nL pc : Nat) (lv : List (Nat × Value)) (st : List Value) (σ : S2) : Prop := match K with
  | (p, l, e, R, s, m, args, below, meth, c, Q, D, cI, cP, A) => ∀ (H : Heap) (locs : List Loc) (ls : Array Slot), va_P D vwCl (wd ad cI cP σ) H → va_S A s.heap H locs → lv_has ls nL lv → W p l e R s m args below meth c H locs 0 0 Q (F0 m pc ls st)
def PW (D : va_G) (ad : Nat → Nat) (cI cP : ClassId) (A : Nat → Prop) (av : List Value) (σ : S2) : Array Value → State → Prop := va_Pc av (fun U => Ev D ad cI cP A U ∧ va_P D vwCl (wd ad cI cP σ) U.heap)
def QI (D : va_G) (ad : Nat → Nat) (cI cP : ClassId) (A : Nat → Prop) (r : Int32) (σ' : S2) : Array Value → State → Outcome → State → Prop := va_Qi (fun (r' : Int32) (u : S2) => r' = r ∧ u = σ') (fun u t => va_P D vwCl (wd ad cI cP u) t.heap) A
def QV (D : va_G) (ad : Nat → Nat) (cI cP : ClassId) (A : Nat → Prop) (σ' : S2) : Array Value → State → Outcome → State → Prop := va_Qv (fun (u : S2) => u = σ') (fun u t => va_P D vwCl (wd ad cI cP u) t.heap) A
def QQ (D : va_G) (ad : Nat → Nat) (cI cP : ClassId) (A : Nat → Prop) (r : Option Nat) (σ' : S2) : Array Value → State → Outcome → State → Prop := va_Qq (fun (r' : Option Nat) (u : S2) => r' = r.map ad ∧ u = σ') (fun u t => va_P D vwCl (wd ad cI cP u) t.heap) A
def EI (K : Ctx) (ad : Nat → Nat) (r : Int32) (σ' : S2) : Prop := match K with
  | (_, _, _, _, s, _, args, below, _, _, Q, D, cI, cP, A) => Q = MQ below (QI D ad cI cP A r σ') args s 0 0 A
def EV (K : Ctx) (ad : Nat → Nat) (σ' : S2) : Prop := match K with
  | (_, _, _, _, s, _, args, below, _, _, Q, D, cI, cP, A) => Q = MQ below (QV D ad cI cP A σ') args s 0 0 A
def EQ (K : Ctx) (ad : Nat → Nat) (r : Option Nat) (σ' : S2) : Prop := match K with
  | (_, _, _, _, s, _, args, below, _, _, Q, D, cI, cP, A) => Q = MQ below (QQ D ad cI cP A r σ') args s 0 0 A
def wsM (y : MethodName) (cc : ByteArray) (nL : Nat) (ret : Option FieldType) : List Cond := .code y cc nL ret :: tblG
def HI (y : MethodName) (cc : ByteArray) (nL : Nat) (ret : Option FieldType) (fr lc : Nat) (ad : Nat → Nat) (av : List Value) (σ : S2) (r : Int32) (σ' : S2) : Prop := ∀ (l : Launch) (D : va_G) (cI cP : ClassId) (A : Nat → Prop), Met l y (wsM y cc nL ret) { frames := fr, cells := 0, slots := 0, locals := lc } (PW D ad cI cP A av σ) (QI D ad cI cP A r σ') 0 0 A
def HV (y : MethodName) (cc : ByteArray) (nL : Nat) (ret : Option FieldType) (fr lc : Nat) (ad : Nat → Nat) (av : List Value) (σ : S2) (σ' : S2) : Prop := ∀ (l : Launch) (D : va_G) (cI cP : ClassId) (A : Nat → Prop), Met l y (wsM y cc nL ret) { frames := fr, cells := 0, slots := 0, locals := lc } (PW D ad cI cP A av σ) (QV D ad cI cP A σ') 0 0 A
def HQ (y : MethodName) (cc : ByteArray) (nL : Nat) (ret : Option FieldType) (fr lc : Nat) (ad : Nat → Nat) (av : List Value) (σ : S2) (r : Option Nat) (σ' : S2) : Prop := ∀ (l : Launch) (D : va_G) (cI cP : ClassId) (A : Nat → Prop), Met l y (wsM y cc nL ret) { frames := fr, cells := 0, slots := 0, locals := lc } (PW D ad cI cP A av σ) (QQ D ad cI cP A r σ') 0 0 A
theorem PW.blind {D : va_G} {ad : Nat → Nat} {cI cP : ClassId} {A : Nat → Prop} {av : List Value} {σ : S2} : FrameBlind (PW D ad cI cP A av σ) := fun a U g mk q => ⟨q.1, q.2.1.blind g mk a, q.2.2⟩
theorem gAll {c' : Cond} {Ts : List Cond} (hT : ∀ w ∈ tblG, w ∈ Ts) (hc : c' ∈ tblG) : GoodIn Ts (c' :: tblG) := by
  intro w hw
  have hm : w ∈ tblG := (List.mem_cons.mp hw).elim (fun e => e ▸ hc) id
  exact ⟨hT w hm, good_of_word (List.mem_filter.mp hm).2⟩
/-- pure words of the mirrored functions -/
def ck {α : Type} (b : Bool) (E : Option α) : Option α := match b with
  | true => E
  | false => none
def bd {α : Type} (o : Option (Int32 × S2)) (k : Int32 → S2 → Option α) : Option α := o.bind (fun q => k q.1 q.2)
def bv {α : Type} (o : Option S2) (k : S2 → Option α) : Option α := o.bind k
def bq {α : Type} (o : Option (Option Nat × S2)) (k : Option Nat → S2 → Option α) : Option α := o.bind (fun q => k q.1 q.2)
def nm {α β : Type} (e : α) (k : α → Option β) : Option β := k e
def inb (i : Int32) (n : Nat) : Bool := decide (0 ≤ i) && decide (i.toNatClampNeg < n)
def isB (x : Int32) : Bool := decide (x = 0) || decide (x = 1)
def nz (x : Int32) : Bool := !(decide (x = 0))
theorem ck_of {α : Type} {b : Bool} {E : Option α} {r : α} (h : ck b E = some r) : b = true ∧ E = some r := by
  cases b with
  | true => exact ⟨rfl, h⟩
  | false => cases h
theorem bd_of {α : Type} {o : Option (Int32 × S2)} {k : Int32 → S2 → Option α} {r : α} (h : bd o k = some r) : ∃ a b, o = some (a, b) ∧ k a b = some r := by
  cases o with
  | none => cases h
  | some q => exact ⟨q.1, q.2, rfl, h⟩
theorem bv_of {α : Type} {o : Option S2} {k : S2 → Option α} {r : α} (h : bv o k = some r) : ∃ b, o = some b ∧ k b = some r := by
  cases o with
  | none => cases h
  | some q => exact ⟨q, rfl, h⟩
theorem bq_of {α : Type} {o : Option (Option Nat × S2)} {k : Option Nat → S2 → Option α} {r : α} (h : bq o k = some r) : ∃ a b, o = some (a, b) ∧ k a b = some r := by
  cases o with
  | none => cases h
  | some q => exact ⟨q.1, q.2, rfl, h⟩
theorem nm_of {α β : Type} {e : α} {k : α → Option β} {r : β} (h : nm e k = some r) : ∃ x, x = e ∧ k x = some r := ⟨e, rfl, h⟩
theorem ifT {α : Type} {c : Prop} {i : Decidable c} {a b : Option α} {r : α} (h : c) (e : @ite _ c i a b = some r) : a = some r := by rwa [if_pos h] at e
theorem ifF {α : Type} {c : Prop} {i : Decidable c} {a b : Option α} {r : α} (h : ¬ c) (e : @ite _ c i a b = some r) : b = some r := by rwa [if_neg h] at e
theorem so_of {α : Type} {a b : α} (h : some a = some b) : a = b := Option.some.inj h
theorem inb_in {i : Int32} {n : Nat} (h : inb i n = true) : vp_in i n := by
  unfold inb at h
  rw [Bool.and_eq_true, decide_eq_true_eq, decide_eq_true_eq] at h
  intro q
  rcases q with q | q
  · exact absurd h.1 (Int32.not_le.mpr q)
  · omega
theorem isB_nar {x : Int32} (h : isB x = true) : narrow .boolean (.int x) = .int x := by
  unfold isB at h
  rw [Bool.or_eq_true, decide_eq_true_eq, decide_eq_true_eq] at h
  rcases h with rfl | rfl <;> rfl
theorem nz_ne {x : Int32} (h : nz x = true) : ¬ x = 0 := by
  unfold nz at h
  intro q
  rw [q] at h
  cases h
section RWs
variable {K : Ctx} {ad : Nat → Nat} {cc : ByteArray} {nL pc : Nat} {own : String} {ret : Option FieldType} {lv : List (Nat × Value)} {st : List Value} {σ : S2}
theorem r_iconst (n : Nat) (C : Cx K ad cc nL own ret) {i : Int} {v : Int32} (hd : decode cc pc = .ok (.iconst i, 1)) (hv : Int32.ofInt i = v) (hn : pc + 1 = n) (k : RW K ad nL n lv (.int v :: st) σ) : RW K ad nL pc lv (st) σ := by
  obtain ⟨p, l, e, R, s, m, args, below, meth, c, Q, D, cI, cP, A⟩ := K
  obtain ⟨hx, hb, hml, hown, hts, hr, hlk, hE⟩ := C
  subst hn
  exact fun H locs ls hP hS hl => lv_iconst hx hb hd hv (k H locs ls hP hS hl)
theorem r_bipush (n : Nat) (C : Cx K ad cc nL own ret) {i : Int} {v : Int32} (hd : decode cc pc = .ok (.bipush i, 2)) (hv : (Int8.ofInt i).toInt32 = v) (hn : pc + 2 = n) (k : RW K ad nL n lv (.int v :: st) σ) : RW K ad nL pc lv (st) σ := by
  obtain ⟨p, l, e, R, s, m, args, below, meth, c, Q, D, cI, cP, A⟩ := K
  obtain ⟨hx, hb, hml, hown, hts, hr, hlk, hE⟩ := C
  subst hn
  exact fun H locs ls hP hS hl => lv_bipush hx hb hd hv (k H locs ls hP hS hl)
theorem r_sipush (n : Nat) (C : Cx K ad cc nL own ret) {i : Int} {v : Int32} (hd : decode cc pc = .ok (.sipush i, 3)) (hv : (Int16.ofInt i).toInt32 = v) (hn : pc + 3 = n) (k : RW K ad nL n lv (.int v :: st) σ) : RW K ad nL pc lv (st) σ := by
  obtain ⟨p, l, e, R, s, m, args, below, meth, c, Q, D, cI, cP, A⟩ := K
  obtain ⟨hx, hb, hml, hown, hts, hr, hlk, hE⟩ := C
  subst hn
  exact fun H locs ls hP hS hl => lv_sipush hx hb hd hv (k H locs ls hP hS hl)
theorem r_lconst (n : Nat) (C : Cx K ad cc nL own ret) {i : Fin 2} {v : Int64} (hd : decode cc pc = .ok (.lconst i, 1)) (hv : Int64.ofNat (i : Nat) = v) (hn : pc + 1 = n) (k : RW K ad nL n lv (.long v :: st) σ) : RW K ad nL pc lv (st) σ := by
  obtain ⟨p, l, e, R, s, m, args, below, meth, c, Q, D, cI, cP, A⟩ := K
  obtain ⟨hx, hb, hml, hown, hts, hr, hlk, hE⟩ := C
  subst hn
  exact fun H locs ls hP hS hl => lv_lconst hx hb hd hv (k H locs ls hP hS hl)
theorem r_iadd (n : Nat) (C : Cx K ad cc nL own ret) {x y : Int32} (hd : decode cc pc = .ok (.iadd, 1)) (hn : pc + 1 = n) (k : RW K ad nL n lv (.int (x + y) :: st) σ) : RW K ad nL pc lv (.int y :: .int x :: st) σ := by
  obtain ⟨p, l, e, R, s, m, args, below, meth, c, Q, D, cI, cP, A⟩ := K
  obtain ⟨hx, hb, hml, hown, hts, hr, hlk, hE⟩ := C
  subst hn
  exact fun H locs ls hP hS hl => lv_iadd hx hb hd (k H locs ls hP hS hl)
theorem r_isub (n : Nat) (C : Cx K ad cc nL own ret) {x y : Int32} (hd : decode cc pc = .ok (.isub, 1)) (hn : pc + 1 = n) (k : RW K ad nL n lv (.int (x - y) :: st) σ) : RW K ad nL pc lv (.int y :: .int x :: st) σ := by
  obtain ⟨p, l, e, R, s, m, args, below, meth, c, Q, D, cI, cP, A⟩ := K
  obtain ⟨hx, hb, hml, hown, hts, hr, hlk, hE⟩ := C
  subst hn
  exact fun H locs ls hP hS hl => lv_isub hx hb hd (k H locs ls hP hS hl)
theorem r_imul (n : Nat) (C : Cx K ad cc nL own ret) {x y : Int32} (hd : decode cc pc = .ok (.imul, 1)) (hn : pc + 1 = n) (k : RW K ad nL n lv (.int (x * y) :: st) σ) : RW K ad nL pc lv (.int y :: .int x :: st) σ := by
  obtain ⟨p, l, e, R, s, m, args, below, meth, c, Q, D, cI, cP, A⟩ := K
  obtain ⟨hx, hb, hml, hown, hts, hr, hlk, hE⟩ := C
  subst hn
  exact fun H locs ls hP hS hl => lv_imul hx hb hd (k H locs ls hP hS hl)
theorem r_iand (n : Nat) (C : Cx K ad cc nL own ret) {x y : Int32} (hd : decode cc pc = .ok (.iand, 1)) (hn : pc + 1 = n) (k : RW K ad nL n lv (.int (x &&& y) :: st) σ) : RW K ad nL pc lv (.int y :: .int x :: st) σ := by
  obtain ⟨p, l, e, R, s, m, args, below, meth, c, Q, D, cI, cP, A⟩ := K
  obtain ⟨hx, hb, hml, hown, hts, hr, hlk, hE⟩ := C
  subst hn
  exact fun H locs ls hP hS hl => lv_iand hx hb hd (k H locs ls hP hS hl)
theorem r_ior (n : Nat) (C : Cx K ad cc nL own ret) {x y : Int32} (hd : decode cc pc = .ok (.ior, 1)) (hn : pc + 1 = n) (k : RW K ad nL n lv (.int (x ||| y) :: st) σ) : RW K ad nL pc lv (.int y :: .int x :: st) σ := by
  obtain ⟨p, l, e, R, s, m, args, below, meth, c, Q, D, cI, cP, A⟩ := K
  obtain ⟨hx, hb, hml, hown, hts, hr, hlk, hE⟩ := C
  subst hn
  exact fun H locs ls hP hS hl => lv_ior hx hb hd (k H locs ls hP hS hl)
theorem r_ixor (n : Nat) (C : Cx K ad cc nL own ret) {x y : Int32} (hd : decode cc pc = .ok (.ixor, 1)) (hn : pc + 1 = n) (k : RW K ad nL n lv (.int (x ^^^ y) :: st) σ) : RW K ad nL pc lv (.int y :: .int x :: st) σ := by
  obtain ⟨p, l, e, R, s, m, args, below, meth, c, Q, D, cI, cP, A⟩ := K
  obtain ⟨hx, hb, hml, hown, hts, hr, hlk, hE⟩ := C
  subst hn
  exact fun H locs ls hP hS hl => lv_ixor hx hb hd (k H locs ls hP hS hl)
theorem r_idiv (n : Nat) (C : Cx K ad cc nL own ret) {x y : Int32} (hd : decode cc pc = .ok (.idiv, 1)) (hz : ¬ y = 0) (hn : pc + 1 = n) (k : RW K ad nL n lv (.int (x / y) :: st) σ) : RW K ad nL pc lv (.int y :: .int x :: st) σ := by
  obtain ⟨p, l, e, R, s, m, args, below, meth, c, Q, D, cI, cP, A⟩ := K
  obtain ⟨hx, hb, hml, hown, hts, hr, hlk, hE⟩ := C
  subst hn
  exact fun H locs ls hP hS hl => lv_idiv hx hb hd hz (k H locs ls hP hS hl)
theorem r_irem (n : Nat) (C : Cx K ad cc nL own ret) {x y : Int32} (hd : decode cc pc = .ok (.irem, 1)) (hz : ¬ y = 0) (hn : pc + 1 = n) (k : RW K ad nL n lv (.int (x - x / y * y) :: st) σ) : RW K ad nL pc lv (.int y :: .int x :: st) σ := by
  obtain ⟨p, l, e, R, s, m, args, below, meth, c, Q, D, cI, cP, A⟩ := K
  obtain ⟨hx, hb, hml, hown, hts, hr, hlk, hE⟩ := C
  subst hn
  exact fun H locs ls hP hS hl => lv_irem hx hb hd hz (k H locs ls hP hS hl)
theorem r_ineg (n : Nat) (C : Cx K ad cc nL own ret) {x : Int32} (hd : decode cc pc = .ok (.ineg, 1)) (hn : pc + 1 = n) (k : RW K ad nL n lv (.int (-x) :: st) σ) : RW K ad nL pc lv (.int x :: st) σ := by
  obtain ⟨p, l, e, R, s, m, args, below, meth, c, Q, D, cI, cP, A⟩ := K
  obtain ⟨hx, hb, hml, hown, hts, hr, hlk, hE⟩ := C
  subst hn
  exact fun H locs ls hP hS hl => lv_ineg hx hb hd (k H locs ls hP hS hl)
theorem r_ishl (n : Nat) (C : Cx K ad cc nL own ret) {x y : Int32} (hd : decode cc pc = .ok (.ishl, 1)) (hn : pc + 1 = n) (k : RW K ad nL n lv (.int (x <<< (y &&& 31)) :: st) σ) : RW K ad nL pc lv (.int y :: .int x :: st) σ := by
  obtain ⟨p, l, e, R, s, m, args, below, meth, c, Q, D, cI, cP, A⟩ := K
  obtain ⟨hx, hb, hml, hown, hts, hr, hlk, hE⟩ := C
  subst hn
  exact fun H locs ls hP hS hl => lv_ishl hx hb hd (k H locs ls hP hS hl)
theorem r_ishr (n : Nat) (C : Cx K ad cc nL own ret) {x y : Int32} (hd : decode cc pc = .ok (.ishr, 1)) (hn : pc + 1 = n) (k : RW K ad nL n lv (.int (x >>> (y &&& 31)) :: st) σ) : RW K ad nL pc lv (.int y :: .int x :: st) σ := by
  obtain ⟨p, l, e, R, s, m, args, below, meth, c, Q, D, cI, cP, A⟩ := K
  obtain ⟨hx, hb, hml, hown, hts, hr, hlk, hE⟩ := C
  subst hn
  exact fun H locs ls hP hS hl => lv_ishr hx hb hd (k H locs ls hP hS hl)
theorem r_i2l (n : Nat) (C : Cx K ad cc nL own ret) {x : Int32} (hd : decode cc pc = .ok (.i2l, 1)) (hn : pc + 1 = n) (k : RW K ad nL n lv (.long x.toInt64 :: st) σ) : RW K ad nL pc lv (.int x :: st) σ := by
  obtain ⟨p, l, e, R, s, m, args, below, meth, c, Q, D, cI, cP, A⟩ := K
  obtain ⟨hx, hb, hml, hown, hts, hr, hlk, hE⟩ := C
  subst hn
  exact fun H locs ls hP hS hl => lv_i2l hx hb hd rfl (k H locs ls hP hS hl)
theorem r_l2i (n : Nat) (C : Cx K ad cc nL own ret) {x : Int64} (hd : decode cc pc = .ok (.l2i, 1)) (hn : pc + 1 = n) (k : RW K ad nL n lv (.int x.toInt32 :: st) σ) : RW K ad nL pc lv (.long x :: st) σ := by
  obtain ⟨p, l, e, R, s, m, args, below, meth, c, Q, D, cI, cP, A⟩ := K
  obtain ⟨hx, hb, hml, hown, hts, hr, hlk, hE⟩ := C
  subst hn
  exact fun H locs ls hP hS hl => lv_l2i hx hb hd rfl (k H locs ls hP hS hl)
theorem r_land (n : Nat) (C : Cx K ad cc nL own ret) {x y : Int64} (hd : decode cc pc = .ok (.land, 1)) (hn : pc + 1 = n) (k : RW K ad nL n lv (.long (x &&& y) :: st) σ) : RW K ad nL pc lv (.long y :: .long x :: st) σ := by
  obtain ⟨p, l, e, R, s, m, args, below, meth, c, Q, D, cI, cP, A⟩ := K
  obtain ⟨hx, hb, hml, hown, hts, hr, hlk, hE⟩ := C
  subst hn
  exact fun H locs ls hP hS hl => lv_land hx hb hd (k H locs ls hP hS hl)
theorem r_lor (n : Nat) (C : Cx K ad cc nL own ret) {x y : Int64} (hd : decode cc pc = .ok (.lor, 1)) (hn : pc + 1 = n) (k : RW K ad nL n lv (.long (x ||| y) :: st) σ) : RW K ad nL pc lv (.long y :: .long x :: st) σ := by
  obtain ⟨p, l, e, R, s, m, args, below, meth, c, Q, D, cI, cP, A⟩ := K
  obtain ⟨hx, hb, hml, hown, hts, hr, hlk, hE⟩ := C
  subst hn
  exact fun H locs ls hP hS hl => lv_lor hx hb hd (k H locs ls hP hS hl)
theorem r_lshr (n : Nat) (C : Cx K ad cc nL own ret) {x : Int64} {y : Int32} (hd : decode cc pc = .ok (.lshr, 1)) (hn : pc + 1 = n) (k : RW K ad nL n lv (.long (x >>> (y.toInt64 &&& 63)) :: st) σ) : RW K ad nL pc lv (.int y :: .long x :: st) σ := by
  obtain ⟨p, l, e, R, s, m, args, below, meth, c, Q, D, cI, cP, A⟩ := K
  obtain ⟨hx, hb, hml, hown, hts, hr, hlk, hE⟩ := C
  subst hn
  exact fun H locs ls hP hS hl => lv_lshr hx hb hd rfl (k H locs ls hP hS hl)
theorem r_lshl (n : Nat) (C : Cx K ad cc nL own ret) {x : Int64} {y : Int32} (hd : decode cc pc = .ok (.lshl, 1)) (hn : pc + 1 = n) (k : RW K ad nL n lv (.long (x <<< (y.toInt64 &&& 63)) :: st) σ) : RW K ad nL pc lv (.int y :: .long x :: st) σ := by
  obtain ⟨p, l, e, R, s, m, args, below, meth, c, Q, D, cI, cP, A⟩ := K
  obtain ⟨hx, hb, hml, hown, hts, hr, hlk, hE⟩ := C
  subst hn
  exact fun H locs ls hP hS hl => lv_lshl hx hb hd rfl (k H locs ls hP hS hl)
theorem r_lcmp (n : Nat) (C : Cx K ad cc nL own ret) {x y : Int64} (hd : decode cc pc = .ok (.lcmp, 1)) (hn : pc + 1 = n) (k : RW K ad nL n lv (.int (lg_cmp x y) :: st) σ) : RW K ad nL pc lv (.long y :: .long x :: st) σ := by
  obtain ⟨p, l, e, R, s, m, args, below, meth, c, Q, D, cI, cP, A⟩ := K
  obtain ⟨hx, hb, hml, hown, hts, hr, hlk, hE⟩ := C
  subst hn
  exact fun H locs ls hP hS hl => W.lcmp hx hb hd (k H locs ls hP hS hl)
theorem r_dup (n : Nat) (C : Cx K ad cc nL own ret) {v : Value} (hd : decode cc pc = .ok (.dup, 1)) (hv : v.category = 1) (hn : pc + 1 = n) (k : RW K ad nL n lv (v :: v :: st) σ) : RW K ad nL pc lv (v :: st) σ := by
  obtain ⟨p, l, e, R, s, m, args, below, meth, c, Q, D, cI, cP, A⟩ := K
  obtain ⟨hx, hb, hml, hown, hts, hr, hlk, hE⟩ := C
  subst hn
  exact fun H locs ls hP hS hl => lv_dup hx hb hd hv (k H locs ls hP hS hl)
theorem r_pop (n : Nat) (C : Cx K ad cc nL own ret) {v : Value} (hd : decode cc pc = .ok (.pop, 1)) (hv : v.category = 1) (hn : pc + 1 = n) (k : RW K ad nL n lv (st) σ) : RW K ad nL pc lv (v :: st) σ := by
  obtain ⟨p, l, e, R, s, m, args, below, meth, c, Q, D, cI, cP, A⟩ := K
  obtain ⟨hx, hb, hml, hown, hts, hr, hlk, hE⟩ := C
  subst hn
  exact fun H locs ls hP hS hl => lv_pop hx hb hd hv (k H locs ls hP hS hl)
theorem r_dup_x1 (n : Nat) (C : Cx K ad cc nL own ret) {v w : Value} (hd : decode cc pc = .ok (.dup_x1, 1)) (hv : v.category = 1) (hw : w.category = 1) (hn : pc + 1 = n) (k : RW K ad nL n lv (v :: w :: v :: st) σ) : RW K ad nL pc lv (v :: w :: st) σ := by
  obtain ⟨p, l, e, R, s, m, args, below, meth, c, Q, D, cI, cP, A⟩ := K
  obtain ⟨hx, hb, hml, hown, hts, hr, hlk, hE⟩ := C
  subst hn
  exact fun H locs ls hP hS hl => lv_dup_x1 hx hb hd hv hw (k H locs ls hP hS hl)
theorem r_dup2 (n : Nat) (C : Cx K ad cc nL own ret) {v w : Value} (hd : decode cc pc = .ok (.dup2, 1)) (hv : v.category = 1) (hw : w.category = 1) (hn : pc + 1 = n) (k : RW K ad nL n lv (v :: w :: v :: w :: st) σ) : RW K ad nL pc lv (v :: w :: st) σ := by
  obtain ⟨p, l, e, R, s, m, args, below, meth, c, Q, D, cI, cP, A⟩ := K
  obtain ⟨hx, hb, hml, hown, hts, hr, hlk, hE⟩ := C
  subst hn
  exact fun H locs ls hP hS hl => lv_dup2_11 hx hb hd hv hw (k H locs ls hP hS hl)
theorem r_ldc (n : Nat) (C : Cx K ad cc nL own ret) {index : Nat} {v : Int32} (hw : Cond.constant own index v ∈ tblG) (hd : decode cc pc = .ok (.ldc index, 2)) (hn : pc + 2 = n) (k : RW K ad nL n lv (.int v :: st) σ) : RW K ad nL pc lv st σ := by
  obtain ⟨p, l, e, R, s, m, args, below, meth, c, Q, D, cI, cP, A⟩ := K
  obtain ⟨hx, hb, hml, hown, hts, hr, hlk, hE⟩ := C
  subst hn
  exact fun H locs ls hP hS hl => lv_ldc hx hb hown (hts _ hw) hd (k H locs ls hP hS hl)
theorem r_ldcw (n : Nat) (C : Cx K ad cc nL own ret) {index : Nat} {v : Int32} (hw : Cond.constant own index v ∈ tblG) (hd : decode cc pc = .ok (.ldc_w index, 3)) (hn : pc + 3 = n) (k : RW K ad nL n lv (.int v :: st) σ) : RW K ad nL pc lv st σ := by
  obtain ⟨p, l, e, R, s, m, args, below, meth, c, Q, D, cI, cP, A⟩ := K
  obtain ⟨hx, hb, hml, hown, hts, hr, hlk, hE⟩ := C
  subst hn
  exact fun H locs ls hP hS hl => lv_ldcw hx hb hown (hts _ hw) hd (k H locs ls hP hS hl)
theorem r_ldc2 (n : Nat) (C : Cx K ad cc nL own ret) {index : Nat} {v : Int64} (hw : Cond.constantLong own index v ∈ tblG) (hd : decode cc pc = .ok (.ldc2_w index, 3)) (hn : pc + 3 = n) (k : RW K ad nL n lv (.long v :: st) σ) : RW K ad nL pc lv st σ := by
  obtain ⟨p, l, e, R, s, m, args, below, meth, c, Q, D, cI, cP, A⟩ := K
  obtain ⟨hx, hb, hml, hown, hts, hr, hlk, hE⟩ := C
  subst hn
  exact fun H locs ls hP hS hl => lv_ldc2 hx hb hown (hts _ hw) hd (k H locs ls hP hS hl)
theorem r_iload_n (n q : Nat) (C : Cx K ad cc nL own ret) {j : Fin 4} {i : Nat} {x : Int32} (hd : decode cc pc = .ok (.iload_n j, 1)) (hi : (j : Nat) = i) (hq : lv[q]? = some (i, .int x)) (hn : pc + 1 = n) (k : RW K ad nL n lv (.int x :: st) σ) : RW K ad nL pc lv st σ := by
  obtain ⟨p, l, e, R, s, m, args, below, meth, c, Q, D, cI, cP, A⟩ := K
  obtain ⟨hx, hb, hml, hown, hts, hr, hlk, hE⟩ := C
  subst hn
  exact fun H locs ls hP hS hl => lv_iload_n hx hb hd hi (lv_at hl q hq) (k H locs ls hP hS hl)
theorem r_iload (n q : Nat) (C : Cx K ad cc nL own ret) {i : Nat} {x : Int32} (hd : decode cc pc = .ok (.iload i, 2)) (hq : lv[q]? = some (i, .int x)) (hn : pc + 2 = n) (k : RW K ad nL n lv (.int x :: st) σ) : RW K ad nL pc lv st σ := by
  obtain ⟨p, l, e, R, s, m, args, below, meth, c, Q, D, cI, cP, A⟩ := K
  obtain ⟨hx, hb, hml, hown, hts, hr, hlk, hE⟩ := C
  subst hn
  exact fun H locs ls hP hS hl => lv_iload hx hb hd (lv_at hl q hq) (k H locs ls hP hS hl)
theorem r_lload_n (n q : Nat) (C : Cx K ad cc nL own ret) {j : Fin 4} {i : Nat} {x : Int64} (hd : decode cc pc = .ok (.lload_n j, 1)) (hi : (j : Nat) = i) (hq : lv[q]? = some (i, .long x)) (hn : pc + 1 = n) (k : RW K ad nL n lv (.long x :: st) σ) : RW K ad nL pc lv st σ := by
  obtain ⟨p, l, e, R, s, m, args, below, meth, c, Q, D, cI, cP, A⟩ := K
  obtain ⟨hx, hb, hml, hown, hts, hr, hlk, hE⟩ := C
  subst hn
  exact fun H locs ls hP hS hl => lv_lload_n hx hb hd hi (lv_at hl q hq) (k H locs ls hP hS hl)
theorem r_lload (n q : Nat) (C : Cx K ad cc nL own ret) {i : Nat} {x : Int64} (hd : decode cc pc = .ok (.lload i, 2)) (hq : lv[q]? = some (i, .long x)) (hn : pc + 2 = n) (k : RW K ad nL n lv (.long x :: st) σ) : RW K ad nL pc lv st σ := by
  obtain ⟨p, l, e, R, s, m, args, below, meth, c, Q, D, cI, cP, A⟩ := K
  obtain ⟨hx, hb, hml, hown, hts, hr, hlk, hE⟩ := C
  subst hn
  exact fun H locs ls hP hS hl => lv_lload hx hb hd (lv_at hl q hq) (k H locs ls hP hS hl)
theorem r_aload_n (n q : Nat) (C : Cx K ad cc nL own ret) {j : Fin 4} {i : Nat} {x : Nat} (hd : decode cc pc = .ok (.aload_n j, 1)) (hi : (j : Nat) = i) (hq : lv[q]? = some (i, .ref x)) (hn : pc + 1 = n) (k : RW K ad nL n lv (.ref x :: st) σ) : RW K ad nL pc lv st σ := by
  obtain ⟨p, l, e, R, s, m, args, below, meth, c, Q, D, cI, cP, A⟩ := K
  obtain ⟨hx, hb, hml, hown, hts, hr, hlk, hE⟩ := C
  subst hn
  exact fun H locs ls hP hS hl => lv_aload_n hx hb hd hi (lv_at hl q hq) (k H locs ls hP hS hl)
theorem r_aload (n q : Nat) (C : Cx K ad cc nL own ret) {i : Nat} {x : Nat} (hd : decode cc pc = .ok (.aload i, 2)) (hq : lv[q]? = some (i, .ref x)) (hn : pc + 2 = n) (k : RW K ad nL n lv (.ref x :: st) σ) : RW K ad nL pc lv st σ := by
  obtain ⟨p, l, e, R, s, m, args, below, meth, c, Q, D, cI, cP, A⟩ := K
  obtain ⟨hx, hb, hml, hown, hts, hr, hlk, hE⟩ := C
  subst hn
  exact fun H locs ls hP hS hl => lv_aload hx hb hd (lv_at hl q hq) (k H locs ls hP hS hl)
theorem r_istore_n (n : Nat) (lv' : List (Nat × Value)) (ks : List Nat) (C : Cx K ad cc nL own ret) {j : Fin 4} {i : Nat} {x : Int32} (hd : decode cc pc = .ok (.istore_n j, 1)) (hi : (j : Nat) = i) (hi2 : i < nL) (hv : lv_pick ((i, Value.int x) :: lv.filter (fun q => !(q.1 == i) && !(q.1 + 1 == i && q.2.category == 2))) ks = lv') (hn : pc + 1 = n) (k : RW K ad nL n lv' st σ) : RW K ad nL pc lv (.int x :: st) σ := by
  obtain ⟨p, l, e, R, s, m, args, below, meth, c, Q, D, cI, cP, A⟩ := K
  obtain ⟨hx, hb, hml, hown, hts, hr, hlk, hE⟩ := C
  subst hn
  exact fun H locs ls hP hS hl => lv_istore_n hx hb hd hi hl hi2 rfl (fun ls' hl' => k H locs ls' hP hS (lv_sub hl' ks hv))
theorem r_istore (n : Nat) (lv' : List (Nat × Value)) (ks : List Nat) (C : Cx K ad cc nL own ret) {i : Nat} {x : Int32} (hd : decode cc pc = .ok (.istore i, 2)) (hi2 : i < nL) (hv : lv_pick ((i, Value.int x) :: lv.filter (fun q => !(q.1 == i) && !(q.1 + 1 == i && q.2.category == 2))) ks = lv') (hn : pc + 2 = n) (k : RW K ad nL n lv' st σ) : RW K ad nL pc lv (.int x :: st) σ := by
  obtain ⟨p, l, e, R, s, m, args, below, meth, c, Q, D, cI, cP, A⟩ := K
  obtain ⟨hx, hb, hml, hown, hts, hr, hlk, hE⟩ := C
  subst hn
  exact fun H locs ls hP hS hl => lv_istore hx hb hd hl hi2 rfl (fun ls' hl' => k H locs ls' hP hS (lv_sub hl' ks hv))
theorem r_astore_n (n : Nat) (lv' : List (Nat × Value)) (ks : List Nat) (C : Cx K ad cc nL own ret) {j : Fin 4} {i : Nat} {x : Nat} (hd : decode cc pc = .ok (.astore_n j, 1)) (hi : (j : Nat) = i) (hi2 : i < nL) (hv : lv_pick ((i, Value.ref x) :: lv.filter (fun q => !(q.1 == i) && !(q.1 + 1 == i && q.2.category == 2))) ks = lv') (hn : pc + 1 = n) (k : RW K ad nL n lv' st σ) : RW K ad nL pc lv (.ref x :: st) σ := by
  obtain ⟨p, l, e, R, s, m, args, below, meth, c, Q, D, cI, cP, A⟩ := K
  obtain ⟨hx, hb, hml, hown, hts, hr, hlk, hE⟩ := C
  subst hn
  exact fun H locs ls hP hS hl => lv_astore_n hx hb hd hi hl hi2 rfl (fun ls' hl' => k H locs ls' hP hS (lv_sub hl' ks hv))
theorem r_astore (n : Nat) (lv' : List (Nat × Value)) (ks : List Nat) (C : Cx K ad cc nL own ret) {i : Nat} {x : Nat} (hd : decode cc pc = .ok (.astore i, 2)) (hi2 : i < nL) (hv : lv_pick ((i, Value.ref x) :: lv.filter (fun q => !(q.1 == i) && !(q.1 + 1 == i && q.2.category == 2))) ks = lv') (hn : pc + 2 = n) (k : RW K ad nL n lv' st σ) : RW K ad nL pc lv (.ref x :: st) σ := by
  obtain ⟨p, l, e, R, s, m, args, below, meth, c, Q, D, cI, cP, A⟩ := K
  obtain ⟨hx, hb, hml, hown, hts, hr, hlk, hE⟩ := C
  subst hn
  exact fun H locs ls hP hS hl => lv_astore hx hb hd hl hi2 rfl (fun ls' hl' => k H locs ls' hP hS (lv_sub hl' ks hv))
theorem r_iinc (n q : Nat) (lv' : List (Nat × Value)) (ks : List Nat) (C : Cx K ad cc nL own ret) {i : Nat} {d : Int} {x v : Int32} (hd : decode cc pc = .ok (.iinc i d, 3)) (hq : lv[q]? = some (i, .int x)) (he : x + Int32.ofInt d = v) (hi2 : i < nL) (hv : lv_pick ((i, Value.int v) :: lv.filter (fun q => !(q.1 == i) && !(q.1 + 1 == i && q.2.category == 2))) ks = lv') (hn : pc + 3 = n) (k : RW K ad nL n lv' st σ) : RW K ad nL pc lv st σ := by
  obtain ⟨p, l, e, R, s, m, args, below, meth, c, Q, D, cI, cP, A⟩ := K
  obtain ⟨hx, hb, hml, hown, hts, hr, hlk, hE⟩ := C
  subst hn
  exact fun H locs ls hP hS hl => lv_iinc hx hb hd hl hq he hi2 rfl (fun ls' hl' => k H locs ls' hP hS (lv_sub hl' ks hv))
theorem r_icmp_eq (n tgt : Nat) (C : Cx K ad cc nL own ret) {x y : Int32} {off : Int} (hd : decode cc pc = .ok (.if_icmp .eq off, 3)) (ht : (pc : Int) + off = (tgt : Int)) (hn : pc + 3 = n) (kt : x = y → RW K ad nL tgt lv st σ) (kf : ¬ x = y → RW K ad nL n lv st σ) : RW K ad nL pc lv (.int y :: .int x :: st) σ := by
  obtain ⟨p, l, e, R, s, m, args, below, meth, c, Q, D, cI, cP, A⟩ := K
  obtain ⟨hx, hb, hml, hown, hts, hr, hlk, hE⟩ := C
  subst hn
  exact fun H locs ls hP hS hl => lv_icmp_eq hx hb hd ht (fun h => kt h H locs ls hP hS hl) (fun h => kf h H locs ls hP hS hl)
theorem r_if_eq (n tgt : Nat) (C : Cx K ad cc nL own ret) {x : Int32} {off : Int} (hd : decode cc pc = .ok (.ifCond .eq off, 3)) (ht : (pc : Int) + off = (tgt : Int)) (hn : pc + 3 = n) (kt : x = 0 → RW K ad nL tgt lv st σ) (kf : ¬ x = 0 → RW K ad nL n lv st σ) : RW K ad nL pc lv (.int x :: st) σ := by
  obtain ⟨p, l, e, R, s, m, args, below, meth, c, Q, D, cI, cP, A⟩ := K
  obtain ⟨hx, hb, hml, hown, hts, hr, hlk, hE⟩ := C
  subst hn
  exact fun H locs ls hP hS hl => lv_if_eq hx hb hd ht (fun h => kt h H locs ls hP hS hl) (fun h => kf h H locs ls hP hS hl)
theorem r_icmp_ne (n tgt : Nat) (C : Cx K ad cc nL own ret) {x y : Int32} {off : Int} (hd : decode cc pc = .ok (.if_icmp .ne off, 3)) (ht : (pc : Int) + off = (tgt : Int)) (hn : pc + 3 = n) (kt : ¬ x = y → RW K ad nL tgt lv st σ) (kf : x = y → RW K ad nL n lv st σ) : RW K ad nL pc lv (.int y :: .int x :: st) σ := by
  obtain ⟨p, l, e, R, s, m, args, below, meth, c, Q, D, cI, cP, A⟩ := K
  obtain ⟨hx, hb, hml, hown, hts, hr, hlk, hE⟩ := C
  subst hn
  exact fun H locs ls hP hS hl => lv_icmp_ne hx hb hd ht (fun h => kt h H locs ls hP hS hl) (fun h => kf h H locs ls hP hS hl)
theorem r_if_ne (n tgt : Nat) (C : Cx K ad cc nL own ret) {x : Int32} {off : Int} (hd : decode cc pc = .ok (.ifCond .ne off, 3)) (ht : (pc : Int) + off = (tgt : Int)) (hn : pc + 3 = n) (kt : ¬ x = 0 → RW K ad nL tgt lv st σ) (kf : x = 0 → RW K ad nL n lv st σ) : RW K ad nL pc lv (.int x :: st) σ := by
  obtain ⟨p, l, e, R, s, m, args, below, meth, c, Q, D, cI, cP, A⟩ := K
  obtain ⟨hx, hb, hml, hown, hts, hr, hlk, hE⟩ := C
  subst hn
  exact fun H locs ls hP hS hl => lv_if_ne hx hb hd ht (fun h => kt h H locs ls hP hS hl) (fun h => kf h H locs ls hP hS hl)
theorem r_icmp_lt (n tgt : Nat) (C : Cx K ad cc nL own ret) {x y : Int32} {off : Int} (hd : decode cc pc = .ok (.if_icmp .lt off, 3)) (ht : (pc : Int) + off = (tgt : Int)) (hn : pc + 3 = n) (kt : x < y → RW K ad nL tgt lv st σ) (kf : ¬ x < y → RW K ad nL n lv st σ) : RW K ad nL pc lv (.int y :: .int x :: st) σ := by
  obtain ⟨p, l, e, R, s, m, args, below, meth, c, Q, D, cI, cP, A⟩ := K
  obtain ⟨hx, hb, hml, hown, hts, hr, hlk, hE⟩ := C
  subst hn
  exact fun H locs ls hP hS hl => lv_icmp_lt hx hb hd ht (fun h => kt h H locs ls hP hS hl) (fun h => kf h H locs ls hP hS hl)
theorem r_if_lt (n tgt : Nat) (C : Cx K ad cc nL own ret) {x : Int32} {off : Int} (hd : decode cc pc = .ok (.ifCond .lt off, 3)) (ht : (pc : Int) + off = (tgt : Int)) (hn : pc + 3 = n) (kt : x < 0 → RW K ad nL tgt lv st σ) (kf : ¬ x < 0 → RW K ad nL n lv st σ) : RW K ad nL pc lv (.int x :: st) σ := by
  obtain ⟨p, l, e, R, s, m, args, below, meth, c, Q, D, cI, cP, A⟩ := K
  obtain ⟨hx, hb, hml, hown, hts, hr, hlk, hE⟩ := C
  subst hn
  exact fun H locs ls hP hS hl => lv_if_lt hx hb hd ht (fun h => kt h H locs ls hP hS hl) (fun h => kf h H locs ls hP hS hl)
theorem r_icmp_ge (n tgt : Nat) (C : Cx K ad cc nL own ret) {x y : Int32} {off : Int} (hd : decode cc pc = .ok (.if_icmp .ge off, 3)) (ht : (pc : Int) + off = (tgt : Int)) (hn : pc + 3 = n) (kt : y ≤ x → RW K ad nL tgt lv st σ) (kf : ¬ y ≤ x → RW K ad nL n lv st σ) : RW K ad nL pc lv (.int y :: .int x :: st) σ := by
  obtain ⟨p, l, e, R, s, m, args, below, meth, c, Q, D, cI, cP, A⟩ := K
  obtain ⟨hx, hb, hml, hown, hts, hr, hlk, hE⟩ := C
  subst hn
  exact fun H locs ls hP hS hl => lv_icmp_ge hx hb hd ht (fun h => kt h H locs ls hP hS hl) (fun h => kf h H locs ls hP hS hl)
theorem r_if_ge (n tgt : Nat) (C : Cx K ad cc nL own ret) {x : Int32} {off : Int} (hd : decode cc pc = .ok (.ifCond .ge off, 3)) (ht : (pc : Int) + off = (tgt : Int)) (hn : pc + 3 = n) (kt : 0 ≤ x → RW K ad nL tgt lv st σ) (kf : ¬ 0 ≤ x → RW K ad nL n lv st σ) : RW K ad nL pc lv (.int x :: st) σ := by
  obtain ⟨p, l, e, R, s, m, args, below, meth, c, Q, D, cI, cP, A⟩ := K
  obtain ⟨hx, hb, hml, hown, hts, hr, hlk, hE⟩ := C
  subst hn
  exact fun H locs ls hP hS hl => lv_if_ge hx hb hd ht (fun h => kt h H locs ls hP hS hl) (fun h => kf h H locs ls hP hS hl)
theorem r_icmp_gt (n tgt : Nat) (C : Cx K ad cc nL own ret) {x y : Int32} {off : Int} (hd : decode cc pc = .ok (.if_icmp .gt off, 3)) (ht : (pc : Int) + off = (tgt : Int)) (hn : pc + 3 = n) (kt : y < x → RW K ad nL tgt lv st σ) (kf : ¬ y < x → RW K ad nL n lv st σ) : RW K ad nL pc lv (.int y :: .int x :: st) σ := by
  obtain ⟨p, l, e, R, s, m, args, below, meth, c, Q, D, cI, cP, A⟩ := K
  obtain ⟨hx, hb, hml, hown, hts, hr, hlk, hE⟩ := C
  subst hn
  exact fun H locs ls hP hS hl => lv_icmp_gt hx hb hd ht (fun h => kt h H locs ls hP hS hl) (fun h => kf h H locs ls hP hS hl)
theorem r_if_gt (n tgt : Nat) (C : Cx K ad cc nL own ret) {x : Int32} {off : Int} (hd : decode cc pc = .ok (.ifCond .gt off, 3)) (ht : (pc : Int) + off = (tgt : Int)) (hn : pc + 3 = n) (kt : 0 < x → RW K ad nL tgt lv st σ) (kf : ¬ 0 < x → RW K ad nL n lv st σ) : RW K ad nL pc lv (.int x :: st) σ := by
  obtain ⟨p, l, e, R, s, m, args, below, meth, c, Q, D, cI, cP, A⟩ := K
  obtain ⟨hx, hb, hml, hown, hts, hr, hlk, hE⟩ := C
  subst hn
  exact fun H locs ls hP hS hl => lv_if_gt hx hb hd ht (fun h => kt h H locs ls hP hS hl) (fun h => kf h H locs ls hP hS hl)
theorem r_icmp_le (n tgt : Nat) (C : Cx K ad cc nL own ret) {x y : Int32} {off : Int} (hd : decode cc pc = .ok (.if_icmp .le off, 3)) (ht : (pc : Int) + off = (tgt : Int)) (hn : pc + 3 = n) (kt : x ≤ y → RW K ad nL tgt lv st σ) (kf : ¬ x ≤ y → RW K ad nL n lv st σ) : RW K ad nL pc lv (.int y :: .int x :: st) σ := by
  obtain ⟨p, l, e, R, s, m, args, below, meth, c, Q, D, cI, cP, A⟩ := K
  obtain ⟨hx, hb, hml, hown, hts, hr, hlk, hE⟩ := C
  subst hn
  exact fun H locs ls hP hS hl => lv_icmp_le hx hb hd ht (fun h => kt h H locs ls hP hS hl) (fun h => kf h H locs ls hP hS hl)
theorem r_if_le (n tgt : Nat) (C : Cx K ad cc nL own ret) {x : Int32} {off : Int} (hd : decode cc pc = .ok (.ifCond .le off, 3)) (ht : (pc : Int) + off = (tgt : Int)) (hn : pc + 3 = n) (kt : x ≤ 0 → RW K ad nL tgt lv st σ) (kf : ¬ x ≤ 0 → RW K ad nL n lv st σ) : RW K ad nL pc lv (.int x :: st) σ := by
  obtain ⟨p, l, e, R, s, m, args, below, meth, c, Q, D, cI, cP, A⟩ := K
  obtain ⟨hx, hb, hml, hown, hts, hr, hlk, hE⟩ := C
  subst hn
  exact fun H locs ls hP hS hl => lv_if_le hx hb hd ht (fun h => kt h H locs ls hP hS hl) (fun h => kf h H locs ls hP hS hl)
theorem r_goto (tgt : Nat) (C : Cx K ad cc nL own ret) {off : Int} (hd : decode cc pc = .ok (.goto off, 3)) (ht : (pc : Int) + off = (tgt : Int)) (k : RW K ad nL tgt lv st σ) : RW K ad nL pc lv st σ := by
  obtain ⟨p, l, e, R, s, m, args, below, meth, c, Q, D, cI, cP, A⟩ := K
  obtain ⟨hx, hb, hml, hown, hts, hr, hlk, hE⟩ := C
  exact fun H locs ls hP hS hl => lv_goto hx hb hd ht (k H locs ls hP hS hl)
theorem r_ifnonnull (tgt : Nat) (C : Cx K ad cc nL own ret) {x : Nat} {off : Int} (hd : decode cc pc = .ok (.ifnonnull off, 3)) (ht : (pc : Int) + off = (tgt : Int)) (k : RW K ad nL tgt lv st σ) : RW K ad nL pc lv (.ref x :: st) σ := by
  obtain ⟨p, l, e, R, s, m, args, below, meth, c, Q, D, cI, cP, A⟩ := K
  obtain ⟨hx, hb, hml, hown, hts, hr, hlk, hE⟩ := C
  exact fun H locs ls hP hS hl => lv_ifnonnull hx hb hd ht (k H locs ls hP hS hl)
theorem r_ifnonnullN (n : Nat) (C : Cx K ad cc nL own ret) {off : Int} (hd : decode cc pc = .ok (.ifnonnull off, 3)) (hn : pc + 3 = n) (k : RW K ad nL n lv st σ) : RW K ad nL pc lv (.null :: st) σ := by
  obtain ⟨p, l, e, R, s, m, args, below, meth, c, Q, D, cI, cP, A⟩ := K
  obtain ⟨hx, hb, hml, hown, hts, hr, hlk, hE⟩ := C
  subst hn
  exact fun H locs ls hP hS hl => lv_ifnonnullN hx hb hd (k H locs ls hP hS hl)
theorem r_nm {x y : Int32} (e : x = y) (k : RW K ad nL pc lv (.int x :: st) σ) : RW K ad nL pc lv (.int y :: st) σ := e ▸ k
theorem r_st {σ' : S2} (e : σ' = σ) (k : RW K ad nL pc lv st σ') : RW K ad nL pc lv st σ := e ▸ k
theorem r_sub (lv' : List (Nat × Value)) (ks : List Nat) (hv : lv_pick lv ks = lv') (k : RW K ad nL pc lv' st σ) : RW K ad nL pc lv st σ := by
  obtain ⟨p, l, e, R, s, m, args, below, meth, c, Q, D, cI, cP, A⟩ := K
  exact fun H locs ls hP hS hl => k H locs ls hP hS (lv_sub hl ks hv)
theorem r_get (n k0 j : Nat) (C : Cx K ad cc nL own ret) {Cn ref : String} {T : u_T} {N ci index : Nat} {fs : List Value} {v : Value} (hin : ∀ w ∈ u_ws Cn T N, w ∈ tblG) (he : ∀ cI cP : ClassId, (wd ad cI cP σ)[k0]? = some (ad k0, .inr (ci, fs))) (hc : vwCl[ci]? = some (Cn, T, N)) (hj : j < N) (hw : Cond.fieldLink own index ref (T j).2.1 (T j).2.2.1 ∈ tblG) (hs : (T j).1 = ref) (hv : fs[j]? = some v) (hd : decode cc pc = .ok (.getfield index, 3)) (hn : pc + 3 = n) (k : RW K ad nL n lv (v :: st) σ) : RW K ad nL pc lv (.ref (ad k0) :: st) σ := by
  obtain ⟨p, l, e, R, s, m, args, below, meth, c, Q, D, cI, cP, A⟩ := K
  obtain ⟨hx, hb, hml, hown, hts, hr, hlk, hE⟩ := C
  subst hn
  subst hs
  exact fun H locs ls hP hS hl => va_get hx hb hts hin hown hE.1 hP k0 (he cI cP) hc j hj (hts _ hw) (fun _ h => h) hv hd (k H locs ls hP hS hl)
theorem r_put (n k0 j : Nat) (C : Cx K ad cc nL own ret) {Cn ref : String} {T : u_T} {N ci index : Nat} {fs : List Value} {ty0 : Nat → FieldType} {ty : FieldType} {v : Int32} {σ' : S2} (hin : ∀ w ∈ u_ws Cn T N, w ∈ tblG) (hty : ∀ k, k < N → parseFieldDescriptor (T k).2.2.1 = some (ty0 k)) (hnm : ∀ a, a < N → ∀ b, b < N → a ≠ b → (T a).2.1 ≠ (T b).2.1) (he : ∀ cI cP : ClassId, (wd ad cI cP σ)[k0]? = some (ad k0, .inr (ci, fs))) (hset : ∀ cI cP : ClassId, (wd ad cI cP σ).set k0 (ad k0, .inr (ci, fs.set j (.int v))) = wd ad cI cP σ') (hc : vwCl[ci]? = some (Cn, T, N)) (hj : j < N) (hw : Cond.fieldLink own index ref (T j).2.1 (T j).2.2.1 ∈ tblG) (hs : (T j).1 = ref) (hfin : (T j).2.2.2 = false) (hdd : parseFieldDescriptor (T j).2.2.1 = some ty) (hnr : narrow ty (.int v) = .int v) (hft : fits ty (.int v) = true) (hlen : j < fs.length) (hd : decode cc pc = .ok (.putfield index, 3)) (hn : pc + 3 = n) (k : RW K ad nL n lv st σ') : RW K ad nL pc lv (.int v :: .ref (ad k0) :: st) σ := by
  obtain ⟨p, l, e, R, s, m, args, below, meth, c, Q, D, cI, cP, A⟩ := K
  obtain ⟨hx, hb, hml, hown, hts, hr, hlk, hE⟩ := C
  subst hn
  subst hs
  exact fun H locs ls hP hS hl => va_put hx hb hts hin ty0 hty hnm hown hE.1 hP (hE.2.2.1 σ) hS k0 (he cI cP) hc j hj (hts _ hw) (fun _ h => h) hfin hdd hnr hft hlen hd (fun H1 locs1 hP1 _ hS1 => k H1 locs1 ls (by rw [← hset]; exact hP1) hS1 hl)
theorem r_getN (n k0 j : Nat) (C : Cx K ad cc nL own ret) {Cn ref : String} {T : u_T} {N ci index : Nat} {fs : List Value} {host : String} {v : Value} (hin : ∀ w ∈ u_ws Cn T N, w ∈ tblG) (he : ∀ cI cP : ClassId, (wd ad cI cP σ)[k0]? = some (ad k0, .inr (ci, fs))) (hc : vwCl[ci]? = some (Cn, T, N)) (hj : j < N) (hw : Cond.fieldLinkNest own index ref (T j).2.1 (T j).2.2.1 host ∈ tblN) (hs : (T j).1 = ref) (hv : fs[j]? = some v) (hd : decode cc pc = .ok (.getfield index, 3)) (hn : pc + 3 = n) (k : RW K ad nL n lv (v :: st) σ) : RW K ad nL pc lv (.ref (ad k0) :: st) σ := by
  obtain ⟨p, l, e, R, s, m, args, below, meth, c, Q, D, cI, cP, A⟩ := K
  obtain ⟨hx, hb, hml, hown, hts, hr, hlk, hE⟩ := C
  subst hn
  subst hs
  exact fun H locs ls hP hS hl => va_getN hx hb hts hin hown hE.1 hP k0 (he cI cP) hc j hj (va_Nw.use rfl (hE.2.1 _ hw)) (fun _ h => h) hv hd (k H locs ls hP hS hl)
theorem r_putN (n k0 j : Nat) (C : Cx K ad cc nL own ret) {Cn ref : String} {T : u_T} {N ci index : Nat} {fs : List Value} {host : String} {ty0 : Nat → FieldType} {ty : FieldType} {v : Int32} {σ' : S2} (hin : ∀ w ∈ u_ws Cn T N, w ∈ tblG) (hty : ∀ k, k < N → parseFieldDescriptor (T k).2.2.1 = some (ty0 k)) (hnm : ∀ a, a < N → ∀ b, b < N → a ≠ b → (T a).2.1 ≠ (T b).2.1) (he : ∀ cI cP : ClassId, (wd ad cI cP σ)[k0]? = some (ad k0, .inr (ci, fs))) (hset : ∀ cI cP : ClassId, (wd ad cI cP σ).set k0 (ad k0, .inr (ci, fs.set j (.int v))) = wd ad cI cP σ') (hc : vwCl[ci]? = some (Cn, T, N)) (hj : j < N) (hw : Cond.fieldLinkNest own index ref (T j).2.1 (T j).2.2.1 host ∈ tblN) (hs : (T j).1 = ref) (hfin : (T j).2.2.2 = false) (hdd : parseFieldDescriptor (T j).2.2.1 = some ty) (hnr : narrow ty (.int v) = .int v) (hft : fits ty (.int v) = true) (hlen : j < fs.length) (hd : decode cc pc = .ok (.putfield index, 3)) (hn : pc + 3 = n) (k : RW K ad nL n lv st σ') : RW K ad nL pc lv (.int v :: .ref (ad k0) :: st) σ := by
  obtain ⟨p, l, e, R, s, m, args, below, meth, c, Q, D, cI, cP, A⟩ := K
  obtain ⟨hx, hb, hml, hown, hts, hr, hlk, hE⟩ := C
  subst hn
  subst hs
  exact fun H locs ls hP hS hl => va_putN hx hb hts hin ty0 hty hnm hown hE.1 hP (hE.2.2.1 σ) hS k0 (he cI cP) hc j hj (va_Nw.use rfl (hE.2.1 _ hw)) (fun _ h => h) hfin hdd hnr hft hlen hd (fun H1 locs1 hP1 _ hS1 => k H1 locs1 ls (by rw [← hset]; exact hP1) hS1 hl)
theorem r_iaload (n k0 N : Nat) (C : Cx K ad cc nL own ret) {i : Int32} (he : ∀ cI cP : ClassId, (wd ad cI cP σ)[k0]? = some (ad k0, .inl (cI, N, .inl (σ k0)))) (hi : inb i N = true) (hd : decode cc pc = .ok (.iaload, 1)) (hn : pc + 1 = n) (k : RW K ad nL n lv (.int (σ k0 i.toNatClampNeg) :: st) σ) : RW K ad nL pc lv (.int i :: .ref (ad k0) :: st) σ := by
  obtain ⟨p, l, e, R, s, m, args, below, meth, c, Q, D, cI, cP, A⟩ := K
  obtain ⟨hx, hb, hml, hown, hts, hr, hlk, hE⟩ := C
  subst hn
  exact fun H locs ls hP hS hl => va_iald hx hb hE.1 hP k0 0 (he cI cP) rfl (inb_in hi) hd (k H locs ls hP hS hl)
theorem r_iastore (n k0 N : Nat) (C : Cx K ad cc nL own ret) {i x : Int32} (he : ∀ cI cP : ClassId, (wd ad cI cP σ)[k0]? = some (ad k0, .inl (cI, N, .inl (σ k0)))) (hset : ∀ (f : Nat → Int32) (cI cP : ClassId), (wd ad cI cP σ).set k0 (ad k0, .inl (cI, N, .inl f)) = wd ad cI cP (va_up σ k0 f)) (hi : inb i N = true) (hd : decode cc pc = .ok (.iastore, 1)) (hn : pc + 1 = n) (k : RW K ad nL n lv st (wr σ k0 i.toNatClampNeg x)) : RW K ad nL pc lv (.int x :: .int i :: .ref (ad k0) :: st) σ := by
  obtain ⟨p, l, e, R, s, m, args, below, meth, c, Q, D, cI, cP, A⟩ := K
  obtain ⟨hx, hb, hml, hown, hts, hr, hlk, hE⟩ := C
  subst hn
  exact fun H locs ls hP hS hl => va_iast hx hb hE.1 hP (hE.2.2.1 σ) hS k0 0 (he cI cP) rfl (inb_in hi) hd (fun H1 locs1 hP1 _ hS1 => k H1 locs1 ls (by unfold wr; rw [← hset]; exact hP1) hS1 hl)
theorem r_mabs (n : Nat) (C : Cx K ad cc nL own ret) {fr lc index : Nat} (hR : Rm K fr lc) {x : Int32} (hw : Cond.methodLink own index Lib.Math.abs.name ∈ tblG) (h1 : Cond.static Lib.Math.abs.name ∈ tblG) (h2 : Cond.initialized "java/lang/Math" ∈ tblG) (h3 : Cond.code Lib.Math.abs.name Lib.Math.abs.code 1 (some .int) ∈ tblG) (hf : 1 ≤ fr) (hlo : (st.map fun v => v.category).sum + 13 ≤ lc) (hd : decode cc pc = .ok (.invokestatic index, 3)) (hn : pc + 3 = n) (k : RW K ad nL n lv (.int (if 0 ≤ x then x else 0 - x) :: st) σ) : RW K ad nL pc lv (.int x :: st) σ := by
  obtain ⟨p, l, e, R, s, m, args, below, meth, c, Q, D, cI, cP, A⟩ := K
  obtain ⟨hx, hb, hml, hown, hts, hr, hlk, hE⟩ := C
  subst hn
  exact fun H locs ls hP hS hl => va_mabs hx hb (hml.trans hl.1.symm) hown (hts _ hw) (hts _ h1) (hts _ h2) (hts _ h3) (Nat.le_trans hf hR.1) (Nat.le_trans hlo hR.2) (Nat.zero_le _) (Nat.zero_le _) hd (k H locs ls hP hS hl)
theorem r_mmax (n : Nat) (C : Cx K ad cc nL own ret) {fr lc index : Nat} (hR : Rm K fr lc) {x y : Int32} (hw : Cond.methodLink own index Lib.Math.max.name ∈ tblG) (h1 : Cond.static Lib.Math.max.name ∈ tblG) (h2 : Cond.initialized "java/lang/Math" ∈ tblG) (h3 : Cond.code Lib.Math.max.name Lib.Math.max.code 2 (some .int) ∈ tblG) (hf : 1 ≤ fr) (hlo : (st.map fun v => v.category).sum + 13 ≤ lc) (hd : decode cc pc = .ok (.invokestatic index, 3)) (hn : pc + 3 = n) (k : RW K ad nL n lv (.int (if x < y then y else x) :: st) σ) : RW K ad nL pc lv (.int y :: .int x :: st) σ := by
  obtain ⟨p, l, e, R, s, m, args, below, meth, c, Q, D, cI, cP, A⟩ := K
  obtain ⟨hx, hb, hml, hown, hts, hr, hlk, hE⟩ := C
  subst hn
  exact fun H locs ls hP hS hl => va_mmax hx hb (hml.trans hl.1.symm) hown (hts _ hw) (hts _ h1) (hts _ h2) (hts _ h3) (Nat.le_trans hf hR.1) (Nat.le_trans hlo hR.2) (Nat.zero_le _) (Nat.zero_le _) hd (k H locs ls hP hS hl)
theorem r_mmin (n : Nat) (C : Cx K ad cc nL own ret) {fr lc index : Nat} (hR : Rm K fr lc) {x y : Int32} (hw : Cond.methodLink own index Lib.Math.min.name ∈ tblG) (h1 : Cond.static Lib.Math.min.name ∈ tblG) (h2 : Cond.initialized "java/lang/Math" ∈ tblG) (h3 : Cond.code Lib.Math.min.name Lib.Math.min.code 2 (some .int) ∈ tblG) (hf : 1 ≤ fr) (hlo : (st.map fun v => v.category).sum + 13 ≤ lc) (hd : decode cc pc = .ok (.invokestatic index, 3)) (hn : pc + 3 = n) (k : RW K ad nL n lv (.int (if y < x then y else x) :: st) σ) : RW K ad nL pc lv (.int y :: .int x :: st) σ := by
  obtain ⟨p, l, e, R, s, m, args, below, meth, c, Q, D, cI, cP, A⟩ := K
  obtain ⟨hx, hb, hml, hown, hts, hr, hlk, hE⟩ := C
  subst hn
  exact fun H locs ls hP hS hl => va_mmin hx hb (hml.trans hl.1.symm) hown (hts _ hw) (hts _ h1) (hts _ h2) (hts _ h3) (Nat.le_trans hf hR.1) (Nat.le_trans hlo hR.2) (Nat.zero_le _) (Nat.zero_le _) hd (k H locs ls hP hS hl)
theorem r_iret {r v : Int32} {σ' : S2} (C : Cx K ad cc nL own (some .int)) (E : EI K ad r σ') (hv : v = r) (hs : σ = σ') (hd : decode cc pc = .ok (.ireturn, 1)) : RW K ad nL pc lv [.int v] σ := by
  obtain ⟨p, l, e, R, s, m, args, below, meth, c, Q, D, cI, cP, A⟩ := K
  obtain ⟨hx, hb, hml, hown, hts, hr, hlk, hE⟩ := C
  subst hv
  subst hs
  have hQ : Q = MQ below (QI D ad cI cP A v σ) args s 0 0 A := E
  subst hQ
  exact fun H locs ls hP hS hl => W.iret hx hb hr (fun t ht hW => ⟨⟨v, σ, rfl, ⟨rfl, rfl⟩, by subst ht; exact hP⟩, hS.F ht⟩) hS.2.2 hd hlk
theorem r_zret {r v : Int32} {σ' : S2} {ty : FieldType} (C : Cx K ad cc nL own (some ty)) (E : EI K ad r σ') (hnr : narrow ty (.int v) = .int v) (hv : v = r) (hs : σ = σ') (hd : decode cc pc = .ok (.ireturn, 1)) : RW K ad nL pc lv [.int v] σ := by
  obtain ⟨p, l, e, R, s, m, args, below, meth, c, Q, D, cI, cP, A⟩ := K
  obtain ⟨hx, hb, hml, hown, hts, hr, hlk, hE⟩ := C
  subst hv
  subst hs
  have hQ : Q = MQ below (QI D ad cI cP A v σ) args s 0 0 A := E
  subst hQ
  exact fun H locs ls hP hS hl => W.zret hx hb hr hnr (fun t ht hW => ⟨⟨v, σ, rfl, ⟨rfl, rfl⟩, by subst ht; exact hP⟩, hS.F ht⟩) hS.2.2 hd hlk
theorem r_vret {σ' : S2} (C : Cx K ad cc nL own none) (E : EV K ad σ') (hs : σ = σ') (hd : decode cc pc = .ok (.return_, 1)) : RW K ad nL pc lv [] σ := by
  obtain ⟨p, l, e, R, s, m, args, below, meth, c, Q, D, cI, cP, A⟩ := K
  obtain ⟨hx, hb, hml, hown, hts, hr, hlk, hE⟩ := C
  subst hs
  have hQ : Q = MQ below (QV D ad cI cP A σ) args s 0 0 A := E
  subst hQ
  exact fun H locs ls hP hS hl => W.vret hx hb hr (fun t ht hW => ⟨⟨σ, rfl, rfl, by subst ht; exact hP⟩, hS.F ht⟩) hS.2.2 hd hlk
theorem r_qret {r : Option Nat} {σ' : S2} {cn : String} (C : Cx K ad cc nL own (some (.object cn))) (E : EQ K ad r σ') (hs : σ = σ') {v : Value} (hv : v = va_rf (r.map ad)) (hd : decode cc pc = .ok (.areturn, 1)) : RW K ad nL pc lv [v] σ := by
  obtain ⟨p, l, e, R, s, m, args, below, meth, c, Q, D, cI, cP, A⟩ := K
  obtain ⟨hx, hb, hml, hown, hts, hr, hlk, hE⟩ := C
  subst hv
  subst hs
  have hQ : Q = MQ below (QQ D ad cI cP A r σ) args s 0 0 A := E
  subst hQ
  exact fun H locs ls hP hS hl => W.aret hx hb hr (Or.inl ⟨_, rfl⟩) (va_rf_or _) (fun t ht hW => ⟨⟨r.map ad, σ, rfl, ⟨rfl, rfl⟩, by subst ht; exact hP⟩, hS.F ht⟩) hS.2.2 hd hlk
/-- what the tables say of a method that is called -/
def Cal (y : MethodName) (cc : ByteArray) (nL : Nat) (ret : Option FieldType) (np : Nat) : Prop := Cond.code y cc nL ret ∈ tblG ∧ Cond.initialized y.cls ∈ tblG ∧ (y.cls ≠ "java/lang/invoke/MethodHandle" ∧ y.cls ≠ "java/lang/invoke/VarHandle" ∧ (parseMethodDescriptor y.desc).map (fun d => d.parameters.length) = some np)
theorem r_cVI (n : Nat) (As : List Value) (C : Cx K ad cc nL own ret) {fr lc fr' lc' : Nat} (hR : Rm K fr lc) {y : MethodName} {cb : ByteArray} {mL np index : Nat} {rt : Option FieldType} {r : Int32} {k0 : Nat} {σ' : S2} (hM : HI y cb mL rt fr' lc' ad (.ref (ad k0) :: As) σ r σ') (ca : Cal y cb mL rt np) (hw : Cond.methodLink own index y ∈ tblG) {ci : Nat} {q : vw_C} {fs : List Value} (he : ∀ cI cP : ClassId, (wd ad cI cP σ)[k0]? = some (ad k0, .inr (ci, fs))) (hc : vwCl[ci]? = some q) (hq : q.1 = y.cls) (h1 : Cond.instanceMethod y ∈ tblG) (h2 : Cond.selects y.cls y y ∈ tblG) (hf : fr' + 1 ≤ fr) (hlo : 8 + (mL + 11) + lc' ≤ lc) (hnp : As.length = np) {st0 : List Value} (hst : st0 = As.reverse ++ .ref (ad k0) :: st) (hcat : (st.map fun v => v.category).sum ≤ 8) (hd : decode cc pc = .ok (.invokevirtual index, 3)) (hn : pc + 3 = n) (k : RW K ad nL n lv (.int r :: st) σ') : RW K ad nL pc lv st0 σ := by
  obtain ⟨p, l, e, R, s, m, args, below, meth, c, Q, D, cI, cP, A⟩ := K
  obtain ⟨hx, hb, hml, hown, hts, hr, hlk, hE⟩ := C
  subst hn
  subst hst
  subst hnp
  intro H locs ls hP hS hl
  have hrc := va_recv hE.1 hP hc (he cI cP)
  rw [hq] at hrc
  refine va_calli (va_runV (As := As) (rest := st) ⟨hx, hb, hml, hown, hts⟩ (hM l D cI cP A) ⟨callB_of As.length hts (gAll (fun w h => h) ca.1) rfl rfl rfl (hts _ ca.2.1) (hts _ hw) ca.2.2 ⟨Nat.le_trans hf hR.1, Nat.le_trans hlo hR.2⟩, hts _ h1, hts _ h2⟩ ⟨PW.blind, hrc, fun U hU hW => ⟨rfl, hE.warm hS hU hW, by rw [hU]; exact hP⟩⟩ rfl rfl hl.1 rfl (lv_room hcat) hd ⟨Nat.zero_le _, Nat.zero_le _⟩) hS (fun q _ h => h) (fun q h => h) (fun r1 u t H1 locs1 ht hvm hw1 hB _ _ hS1 => ?_)
  obtain ⟨rfl, rfl⟩ := hw1
  exact k H1 locs1 ls (by rw [← ht]; exact hB) hS1 hl
theorem r_cVNI (n : Nat) (As : List Value) (C : Cx K ad cc nL own ret) {fr lc fr' lc' : Nat} (hR : Rm K fr lc) {y : MethodName} {cb : ByteArray} {mL np index : Nat} {rt : Option FieldType} {host : String} {r : Int32} {k0 : Nat} {σ' : S2} (hM : HI y cb mL rt fr' lc' ad (.ref (ad k0) :: As) σ r σ') (ca : Cal y cb mL rt np) (hw : Cond.methodLinkNest own index y host ∈ tblN) {ci : Nat} {q : vw_C} {fs : List Value} (he : ∀ cI cP : ClassId, (wd ad cI cP σ)[k0]? = some (ad k0, .inr (ci, fs))) (hc : vwCl[ci]? = some q) (hq : q.1 = y.cls) (h1 : Cond.instanceMethod y ∈ tblG) (h2 : Cond.selects y.cls y y ∈ tblG) (hf : fr' + 1 ≤ fr) (hlo : 8 + (mL + 11) + lc' ≤ lc) (hnp : As.length = np) {st0 : List Value} (hst : st0 = As.reverse ++ .ref (ad k0) :: st) (hcat : (st.map fun v => v.category).sum ≤ 8) (hd : decode cc pc = .ok (.invokevirtual index, 3)) (hn : pc + 3 = n) (k : RW K ad nL n lv (.int r :: st) σ') : RW K ad nL pc lv st0 σ := by
  obtain ⟨p, l, e, R, s, m, args, below, meth, c, Q, D, cI, cP, A⟩ := K
  obtain ⟨hx, hb, hml, hown, hts, hr, hlk, hE⟩ := C
  subst hn
  subst hst
  subst hnp
  intro H locs ls hP hS hl
  have hrc := va_recv hE.1 hP hc (he cI cP)
  rw [hq] at hrc
  refine va_calli (va_runVN (As := As) (rest := st) ⟨hx, hb, hml, hown, hts⟩ (hM l D cI cP A) ⟨va_cnB As.length hts (gAll (fun w h => h) ca.1) rfl rfl rfl (hE.2.1 _ hw) (hts _ ca.2.1) ca.2.2 ⟨Nat.le_trans hf hR.1, Nat.le_trans hlo hR.2⟩, hts _ h1, hts _ h2⟩ ⟨PW.blind, hrc, fun U hU hW => ⟨rfl, hE.warm hS hU hW, by rw [hU]; exact hP⟩⟩ rfl rfl hl.1 rfl (lv_room hcat) hd ⟨Nat.zero_le _, Nat.zero_le _⟩) hS (fun q _ h => h) (fun q h => h) (fun r1 u t H1 locs1 ht hvm hw1 hB _ _ hS1 => ?_)
  obtain ⟨rfl, rfl⟩ := hw1
  exact k H1 locs1 ls (by rw [← ht]; exact hB) hS1 hl
theorem r_cSI (n : Nat) (As : List Value) (C : Cx K ad cc nL own ret) {fr lc fr' lc' : Nat} (hR : Rm K fr lc) {y : MethodName} {cb : ByteArray} {mL np index : Nat} {rt : Option FieldType} {r : Int32} {σ' : S2} (hM : HI y cb mL rt fr' lc' ad As σ r σ') (ca : Cal y cb mL rt np) (hw : Cond.methodLink own index y ∈ tblG) (h1 : Cond.static y ∈ tblG) (hf : fr' + 1 ≤ fr) (hlo : 8 + (mL + 11) + lc' ≤ lc) (hnp : As.length = np) {st0 : List Value} (hst : st0 = As.reverse ++ st) (hcat : (st.map fun v => v.category).sum ≤ 8) (hd : decode cc pc = .ok (.invokestatic index, 3)) (hn : pc + 3 = n) (k : RW K ad nL n lv (.int r :: st) σ') : RW K ad nL pc lv st0 σ := by
  obtain ⟨p, l, e, R, s, m, args, below, meth, c, Q, D, cI, cP, A⟩ := K
  obtain ⟨hx, hb, hml, hown, hts, hr, hlk, hE⟩ := C
  subst hn
  subst hst
  subst hnp
  intro H locs ls hP hS hl
  refine va_calli (va_runS (As := As) (rest := st) ⟨hx, hb, hml, hown, hts⟩ (hM l D cI cP A) ⟨callB_of As.length hts (gAll (fun w h => h) ca.1) rfl rfl rfl (hts _ ca.2.1) (hts _ hw) ca.2.2 ⟨Nat.le_trans hf hR.1, Nat.le_trans hlo hR.2⟩, hts _ h1⟩ ⟨PW.blind, fun U hU hW => ⟨rfl, hE.warm hS hU hW, by rw [hU]; exact hP⟩⟩ rfl rfl hl.1 rfl (lv_room hcat) hd ⟨Nat.zero_le _, Nat.zero_le _⟩) hS (fun q _ h => h) (fun q h => h) (fun r1 u t H1 locs1 ht hvm hw1 hB _ _ hS1 => ?_)
  obtain ⟨rfl, rfl⟩ := hw1
  exact k H1 locs1 ls (by rw [← ht]; exact hB) hS1 hl
theorem r_cSNI (n : Nat) (As : List Value) (C : Cx K ad cc nL own ret) {fr lc fr' lc' : Nat} (hR : Rm K fr lc) {y : MethodName} {cb : ByteArray} {mL np index : Nat} {rt : Option FieldType} {host : String} {r : Int32} {σ' : S2} (hM : HI y cb mL rt fr' lc' ad As σ r σ') (ca : Cal y cb mL rt np) (hw : Cond.methodLinkNest own index y host ∈ tblN) (h1 : Cond.static y ∈ tblG) (hf : fr' + 1 ≤ fr) (hlo : 8 + (mL + 11) + lc' ≤ lc) (hnp : As.length = np) {st0 : List Value} (hst : st0 = As.reverse ++ st) (hcat : (st.map fun v => v.category).sum ≤ 8) (hd : decode cc pc = .ok (.invokestatic index, 3)) (hn : pc + 3 = n) (k : RW K ad nL n lv (.int r :: st) σ') : RW K ad nL pc lv st0 σ := by
  obtain ⟨p, l, e, R, s, m, args, below, meth, c, Q, D, cI, cP, A⟩ := K
  obtain ⟨hx, hb, hml, hown, hts, hr, hlk, hE⟩ := C
  subst hn
  subst hst
  subst hnp
  intro H locs ls hP hS hl
  refine va_calli (va_runSN (As := As) (rest := st) ⟨hx, hb, hml, hown, hts⟩ (hM l D cI cP A) ⟨va_cnB As.length hts (gAll (fun w h => h) ca.1) rfl rfl rfl (hE.2.1 _ hw) (hts _ ca.2.1) ca.2.2 ⟨Nat.le_trans hf hR.1, Nat.le_trans hlo hR.2⟩, hts _ h1, trivial⟩ ⟨PW.blind, fun U hU hW => ⟨rfl, hE.warm hS hU hW, by rw [hU]; exact hP⟩⟩ rfl rfl hl.1 rfl (lv_room hcat) hd ⟨Nat.zero_le _, Nat.zero_le _⟩) hS (fun q _ h => h) (fun q h => h) (fun r1 u t H1 locs1 ht hvm hw1 hB _ _ hS1 => ?_)
  obtain ⟨rfl, rfl⟩ := hw1
  exact k H1 locs1 ls (by rw [← ht]; exact hB) hS1 hl
theorem r_cVV (n : Nat) (As : List Value) (C : Cx K ad cc nL own ret) {fr lc fr' lc' : Nat} (hR : Rm K fr lc) {y : MethodName} {cb : ByteArray} {mL np index : Nat} {rt : Option FieldType} {k0 : Nat} {σ' : S2} (hM : HV y cb mL rt fr' lc' ad (.ref (ad k0) :: As) σ σ') (ca : Cal y cb mL rt np) (hw : Cond.methodLink own index y ∈ tblG) {ci : Nat} {q : vw_C} {fs : List Value} (he : ∀ cI cP : ClassId, (wd ad cI cP σ)[k0]? = some (ad k0, .inr (ci, fs))) (hc : vwCl[ci]? = some q) (hq : q.1 = y.cls) (h1 : Cond.instanceMethod y ∈ tblG) (h2 : Cond.selects y.cls y y ∈ tblG) (hf : fr' + 1 ≤ fr) (hlo : 8 + (mL + 11) + lc' ≤ lc) (hnp : As.length = np) {st0 : List Value} (hst : st0 = As.reverse ++ .ref (ad k0) :: st) (hcat : (st.map fun v => v.category).sum ≤ 8) (hd : decode cc pc = .ok (.invokevirtual index, 3)) (hn : pc + 3 = n) (k : RW K ad nL n lv (st) σ') : RW K ad nL pc lv st0 σ := by
  obtain ⟨p, l, e, R, s, m, args, below, meth, c, Q, D, cI, cP, A⟩ := K
  obtain ⟨hx, hb, hml, hown, hts, hr, hlk, hE⟩ := C
  subst hn
  subst hst
  subst hnp
  intro H locs ls hP hS hl
  have hrc := va_recv hE.1 hP hc (he cI cP)
  rw [hq] at hrc
  refine va_callv (va_runV (As := As) (rest := st) ⟨hx, hb, hml, hown, hts⟩ (hM l D cI cP A) ⟨callB_of As.length hts (gAll (fun w h => h) ca.1) rfl rfl rfl (hts _ ca.2.1) (hts _ hw) ca.2.2 ⟨Nat.le_trans hf hR.1, Nat.le_trans hlo hR.2⟩, hts _ h1, hts _ h2⟩ ⟨PW.blind, hrc, fun U hU hW => ⟨rfl, hE.warm hS hU hW, by rw [hU]; exact hP⟩⟩ rfl rfl hl.1 rfl (lv_room hcat) hd ⟨Nat.zero_le _, Nat.zero_le _⟩) hS (fun q _ h => h) (fun q h => h) (fun u t H1 locs1 ht hvm hw1 hB _ _ hS1 => ?_)
  obtain rfl := hw1
  exact k H1 locs1 ls (by rw [← ht]; exact hB) hS1 hl
theorem r_cVNV (n : Nat) (As : List Value) (C : Cx K ad cc nL own ret) {fr lc fr' lc' : Nat} (hR : Rm K fr lc) {y : MethodName} {cb : ByteArray} {mL np index : Nat} {rt : Option FieldType} {host : String} {k0 : Nat} {σ' : S2} (hM : HV y cb mL rt fr' lc' ad (.ref (ad k0) :: As) σ σ') (ca : Cal y cb mL rt np) (hw : Cond.methodLinkNest own index y host ∈ tblN) {ci : Nat} {q : vw_C} {fs : List Value} (he : ∀ cI cP : ClassId, (wd ad cI cP σ)[k0]? = some (ad k0, .inr (ci, fs))) (hc : vwCl[ci]? = some q) (hq : q.1 = y.cls) (h1 : Cond.instanceMethod y ∈ tblG) (h2 : Cond.selects y.cls y y ∈ tblG) (hf : fr' + 1 ≤ fr) (hlo : 8 + (mL + 11) + lc' ≤ lc) (hnp : As.length = np) {st0 : List Value} (hst : st0 = As.reverse ++ .ref (ad k0) :: st) (hcat : (st.map fun v => v.category).sum ≤ 8) (hd : decode cc pc = .ok (.invokevirtual index, 3)) (hn : pc + 3 = n) (k : RW K ad nL n lv (st) σ') : RW K ad nL pc lv st0 σ := by
  obtain ⟨p, l, e, R, s, m, args, below, meth, c, Q, D, cI, cP, A⟩ := K
  obtain ⟨hx, hb, hml, hown, hts, hr, hlk, hE⟩ := C
  subst hn
  subst hst
  subst hnp
  intro H locs ls hP hS hl
  have hrc := va_recv hE.1 hP hc (he cI cP)
  rw [hq] at hrc
  refine va_callv (va_runVN (As := As) (rest := st) ⟨hx, hb, hml, hown, hts⟩ (hM l D cI cP A) ⟨va_cnB As.length hts (gAll (fun w h => h) ca.1) rfl rfl rfl (hE.2.1 _ hw) (hts _ ca.2.1) ca.2.2 ⟨Nat.le_trans hf hR.1, Nat.le_trans hlo hR.2⟩, hts _ h1, hts _ h2⟩ ⟨PW.blind, hrc, fun U hU hW => ⟨rfl, hE.warm hS hU hW, by rw [hU]; exact hP⟩⟩ rfl rfl hl.1 rfl (lv_room hcat) hd ⟨Nat.zero_le _, Nat.zero_le _⟩) hS (fun q _ h => h) (fun q h => h) (fun u t H1 locs1 ht hvm hw1 hB _ _ hS1 => ?_)
  obtain rfl := hw1
  exact k H1 locs1 ls (by rw [← ht]; exact hB) hS1 hl
theorem r_cSV (n : Nat) (As : List Value) (C : Cx K ad cc nL own ret) {fr lc fr' lc' : Nat} (hR : Rm K fr lc) {y : MethodName} {cb : ByteArray} {mL np index : Nat} {rt : Option FieldType} {σ' : S2} (hM : HV y cb mL rt fr' lc' ad As σ σ') (ca : Cal y cb mL rt np) (hw : Cond.methodLink own index y ∈ tblG) (h1 : Cond.static y ∈ tblG) (hf : fr' + 1 ≤ fr) (hlo : 8 + (mL + 11) + lc' ≤ lc) (hnp : As.length = np) {st0 : List Value} (hst : st0 = As.reverse ++ st) (hcat : (st.map fun v => v.category).sum ≤ 8) (hd : decode cc pc = .ok (.invokestatic index, 3)) (hn : pc + 3 = n) (k : RW K ad nL n lv (st) σ') : RW K ad nL pc lv st0 σ := by
  obtain ⟨p, l, e, R, s, m, args, below, meth, c, Q, D, cI, cP, A⟩ := K
  obtain ⟨hx, hb, hml, hown, hts, hr, hlk, hE⟩ := C
  subst hn
  subst hst
  subst hnp
  intro H locs ls hP hS hl
  refine va_callv (va_runS (As := As) (rest := st) ⟨hx, hb, hml, hown, hts⟩ (hM l D cI cP A) ⟨callB_of As.length hts (gAll (fun w h => h) ca.1) rfl rfl rfl (hts _ ca.2.1) (hts _ hw) ca.2.2 ⟨Nat.le_trans hf hR.1, Nat.le_trans hlo hR.2⟩, hts _ h1⟩ ⟨PW.blind, fun U hU hW => ⟨rfl, hE.warm hS hU hW, by rw [hU]; exact hP⟩⟩ rfl rfl hl.1 rfl (lv_room hcat) hd ⟨Nat.zero_le _, Nat.zero_le _⟩) hS (fun q _ h => h) (fun q h => h) (fun u t H1 locs1 ht hvm hw1 hB _ _ hS1 => ?_)
  obtain rfl := hw1
  exact k H1 locs1 ls (by rw [← ht]; exact hB) hS1 hl
theorem r_cSNV (n : Nat) (As : List Value) (C : Cx K ad cc nL own ret) {fr lc fr' lc' : Nat} (hR : Rm K fr lc) {y : MethodName} {cb : ByteArray} {mL np index : Nat} {rt : Option FieldType} {host : String} {σ' : S2} (hM : HV y cb mL rt fr' lc' ad As σ σ') (ca : Cal y cb mL rt np) (hw : Cond.methodLinkNest own index y host ∈ tblN) (h1 : Cond.static y ∈ tblG) (hf : fr' + 1 ≤ fr) (hlo : 8 + (mL + 11) + lc' ≤ lc) (hnp : As.length = np) {st0 : List Value} (hst : st0 = As.reverse ++ st) (hcat : (st.map fun v => v.category).sum ≤ 8) (hd : decode cc pc = .ok (.invokestatic index, 3)) (hn : pc + 3 = n) (k : RW K ad nL n lv (st) σ') : RW K ad nL pc lv st0 σ := by
  obtain ⟨p, l, e, R, s, m, args, below, meth, c, Q, D, cI, cP, A⟩ := K
  obtain ⟨hx, hb, hml, hown, hts, hr, hlk, hE⟩ := C
  subst hn
  subst hst
  subst hnp
  intro H locs ls hP hS hl
  refine va_callv (va_runSN (As := As) (rest := st) ⟨hx, hb, hml, hown, hts⟩ (hM l D cI cP A) ⟨va_cnB As.length hts (gAll (fun w h => h) ca.1) rfl rfl rfl (hE.2.1 _ hw) (hts _ ca.2.1) ca.2.2 ⟨Nat.le_trans hf hR.1, Nat.le_trans hlo hR.2⟩, hts _ h1, trivial⟩ ⟨PW.blind, fun U hU hW => ⟨rfl, hE.warm hS hU hW, by rw [hU]; exact hP⟩⟩ rfl rfl hl.1 rfl (lv_room hcat) hd ⟨Nat.zero_le _, Nat.zero_le _⟩) hS (fun q _ h => h) (fun q h => h) (fun u t H1 locs1 ht hvm hw1 hB _ _ hS1 => ?_)
  obtain rfl := hw1
  exact k H1 locs1 ls (by rw [← ht]; exact hB) hS1 hl
theorem r_cVQ (n : Nat) (As : List Value) (C : Cx K ad cc nL own ret) {fr lc fr' lc' : Nat} (hR : Rm K fr lc) {y : MethodName} {cb : ByteArray} {mL np index : Nat} {rt : Option FieldType} {r : Option Nat} {k0 : Nat} {σ' : S2} (hM : HQ y cb mL rt fr' lc' ad (.ref (ad k0) :: As) σ r σ') (ca : Cal y cb mL rt np) (hw : Cond.methodLink own index y ∈ tblG) {ci : Nat} {q : vw_C} {fs : List Value} (he : ∀ cI cP : ClassId, (wd ad cI cP σ)[k0]? = some (ad k0, .inr (ci, fs))) (hc : vwCl[ci]? = some q) (hq : q.1 = y.cls) (h1 : Cond.instanceMethod y ∈ tblG) (h2 : Cond.selects y.cls y y ∈ tblG) (hf : fr' + 1 ≤ fr) (hlo : 8 + (mL + 11) + lc' ≤ lc) (hnp : As.length = np) {st0 : List Value} (hst : st0 = As.reverse ++ .ref (ad k0) :: st) (hcat : (st.map fun v => v.category).sum ≤ 8) (hd : decode cc pc = .ok (.invokevirtual index, 3)) (hn : pc + 3 = n) (k : RW K ad nL n lv (va_rf (r.map ad) :: st) σ') : RW K ad nL pc lv st0 σ := by
  obtain ⟨p, l, e, R, s, m, args, below, meth, c, Q, D, cI, cP, A⟩ := K
  obtain ⟨hx, hb, hml, hown, hts, hr, hlk, hE⟩ := C
  subst hn
  subst hst
  subst hnp
  intro H locs ls hP hS hl
  have hrc := va_recv hE.1 hP hc (he cI cP)
  rw [hq] at hrc
  refine va_callq (va_runV (As := As) (rest := st) ⟨hx, hb, hml, hown, hts⟩ (hM l D cI cP A) ⟨callB_of As.length hts (gAll (fun w h => h) ca.1) rfl rfl rfl (hts _ ca.2.1) (hts _ hw) ca.2.2 ⟨Nat.le_trans hf hR.1, Nat.le_trans hlo hR.2⟩, hts _ h1, hts _ h2⟩ ⟨PW.blind, hrc, fun U hU hW => ⟨rfl, hE.warm hS hU hW, by rw [hU]; exact hP⟩⟩ rfl rfl hl.1 rfl (lv_room hcat) hd ⟨Nat.zero_le _, Nat.zero_le _⟩) hS (fun q _ h => h) (fun q h => h) (fun r1 u t H1 locs1 ht hvm hw1 hB _ _ hS1 => ?_)
  obtain ⟨rfl, rfl⟩ := hw1
  exact k H1 locs1 ls (by rw [← ht]; exact hB) hS1 hl
theorem r_cVNQ (n : Nat) (As : List Value) (C : Cx K ad cc nL own ret) {fr lc fr' lc' : Nat} (hR : Rm K fr lc) {y : MethodName} {cb : ByteArray} {mL np index : Nat} {rt : Option FieldType} {host : String} {r : Option Nat} {k0 : Nat} {σ' : S2} (hM : HQ y cb mL rt fr' lc' ad (.ref (ad k0) :: As) σ r σ') (ca : Cal y cb mL rt np) (hw : Cond.methodLinkNest own index y host ∈ tblN) {ci : Nat} {q : vw_C} {fs : List Value} (he : ∀ cI cP : ClassId, (wd ad cI cP σ)[k0]? = some (ad k0, .inr (ci, fs))) (hc : vwCl[ci]? = some q) (hq : q.1 = y.cls) (h1 : Cond.instanceMethod y ∈ tblG) (h2 : Cond.selects y.cls y y ∈ tblG) (hf : fr' + 1 ≤ fr) (hlo : 8 + (mL + 11) + lc' ≤ lc) (hnp : As.length = np) {st0 : List Value} (hst : st0 = As.reverse ++ .ref (ad k0) :: st) (hcat : (st.map fun v => v.category).sum ≤ 8) (hd : decode cc pc = .ok (.invokevirtual index, 3)) (hn : pc + 3 = n) (k : RW K ad nL n lv (va_rf (r.map ad) :: st) σ') : RW K ad nL pc lv st0 σ := by
  obtain ⟨p, l, e, R, s, m, args, below, meth, c, Q, D, cI, cP, A⟩ := K
  obtain ⟨hx, hb, hml, hown, hts, hr, hlk, hE⟩ := C
  subst hn
  subst hst
  subst hnp
  intro H locs ls hP hS hl
  have hrc := va_recv hE.1 hP hc (he cI cP)
  rw [hq] at hrc
  refine va_callq (va_runVN (As := As) (rest := st) ⟨hx, hb, hml, hown, hts⟩ (hM l D cI cP A) ⟨va_cnB As.length hts (gAll (fun w h => h) ca.1) rfl rfl rfl (hE.2.1 _ hw) (hts _ ca.2.1) ca.2.2 ⟨Nat.le_trans hf hR.1, Nat.le_trans hlo hR.2⟩, hts _ h1, hts _ h2⟩ ⟨PW.blind, hrc, fun U hU hW => ⟨rfl, hE.warm hS hU hW, by rw [hU]; exact hP⟩⟩ rfl rfl hl.1 rfl (lv_room hcat) hd ⟨Nat.zero_le _, Nat.zero_le _⟩) hS (fun q _ h => h) (fun q h => h) (fun r1 u t H1 locs1 ht hvm hw1 hB _ _ hS1 => ?_)
  obtain ⟨rfl, rfl⟩ := hw1
  exact k H1 locs1 ls (by rw [← ht]; exact hB) hS1 hl
end RWs
theorem HI_of {y : MethodName} {cc : ByteArray} {nL fr lc : Nat} {ret : Option FieldType} {ad : Nat → Nat} {av : List Value} {σ σ' : S2} {r : Int32} (hy : plainName y.cls = true) (hsl : (lg_sl av).length ≤ nL) (h : ∀ K : Ctx, Cx K ad cc nL y.cls ret → Rm K fr lc → EI K ad r σ' → RW K ad nL 0 (lv_args 0 av) [] σ) : HI y cc nL ret fr lc ad av σ r σ' := by
  intro l D cI cP A
  refine Met.ofW (cc := cc) (maxL := nL) (ret := ret) hy rfl ?_
  intro p e s m args below meth c s₁ B hml hv
  obtain ⟨rfl, hE, hP⟩ := hv
  have hts := atoms_spec (ws := wsM y cc nL ret) B.pre
  have hown : s.vm.findClass y.cls = some m.cls := findClass_of_methodNamed B.named
  have hC : Cx (p, l, e, ({ frames := fr, cells := 0, slots := 0, locals := lc } : Room), s, m, av.toArray, below, meth, c, MQ below (QI D ad cI cP A r σ') av.toArray s 0 0 A, D, cI, cP, A) ad cc nL y.cls ret := ⟨B.exec, B.bytes, hml, hown, fun w hw => hts w (List.mem_cons_of_mem _ hw), B.returns, B.notSynchronized, hE⟩
  have hl := lv_entry av (n := nL) hsl
  rw [lg_entry_eq]
  exact h _ hC ⟨Nat.le_refl _, Nat.le_refl _⟩ rfl s.heap [] _ hP va_S.rf hl
theorem HV_of {y : MethodName} {cc : ByteArray} {nL fr lc : Nat} {ret : Option FieldType} {ad : Nat → Nat} {av : List Value} {σ σ' : S2} (hy : plainName y.cls = true) (hsl : (lg_sl av).length ≤ nL) (h : ∀ K : Ctx, Cx K ad cc nL y.cls ret → Rm K fr lc → EV K ad σ' → RW K ad nL 0 (lv_args 0 av) [] σ) : HV y cc nL ret fr lc ad av σ σ' := by
  intro l D cI cP A
  refine Met.ofW (cc := cc) (maxL := nL) (ret := ret) hy rfl ?_
  intro p e s m args below meth c s₁ B hml hv
  obtain ⟨rfl, hE, hP⟩ := hv
  have hts := atoms_spec (ws := wsM y cc nL ret) B.pre
  have hown : s.vm.findClass y.cls = some m.cls := findClass_of_methodNamed B.named
  have hC : Cx (p, l, e, ({ frames := fr, cells := 0, slots := 0, locals := lc } : Room), s, m, av.toArray, below, meth, c, MQ below (QV D ad cI cP A σ') av.toArray s 0 0 A, D, cI, cP, A) ad cc nL y.cls ret := ⟨B.exec, B.bytes, hml, hown, fun w hw => hts w (List.mem_cons_of_mem _ hw), B.returns, B.notSynchronized, hE⟩
  have hl := lv_entry av (n := nL) hsl
  rw [lg_entry_eq]
  exact h _ hC ⟨Nat.le_refl _, Nat.le_refl _⟩ rfl s.heap [] _ hP va_S.rf hl
theorem HQ_of {y : MethodName} {cc : ByteArray} {nL fr lc : Nat} {ret : Option FieldType} {ad : Nat → Nat} {av : List Value} {σ σ' : S2} {r : Option Nat} (hy : plainName y.cls = true) (hsl : (lg_sl av).length ≤ nL) (h : ∀ K : Ctx, Cx K ad cc nL y.cls ret → Rm K fr lc → EQ K ad r σ' → RW K ad nL 0 (lv_args 0 av) [] σ) : HQ y cc nL ret fr lc ad av σ r σ' := by
  intro l D cI cP A
  refine Met.ofW (cc := cc) (maxL := nL) (ret := ret) hy rfl ?_
  intro p e s m args below meth c s₁ B hml hv
  obtain ⟨rfl, hE, hP⟩ := hv
  have hts := atoms_spec (ws := wsM y cc nL ret) B.pre
  have hown : s.vm.findClass y.cls = some m.cls := findClass_of_methodNamed B.named
  have hC : Cx (p, l, e, ({ frames := fr, cells := 0, slots := 0, locals := lc } : Room), s, m, av.toArray, below, meth, c, MQ below (QQ D ad cI cP A r σ') av.toArray s 0 0 A, D, cI, cP, A) ad cc nL y.cls ret := ⟨B.exec, B.bytes, hml, hown, fun w hw => hts w (List.mem_cons_of_mem _ hw), B.returns, B.notSynchronized, hE⟩
  have hl := lv_entry av (n := nL) hsl
  rw [lg_entry_eq]
  exact h _ hC ⟨Nat.le_refl _, Nat.le_refl _⟩ rfl s.heap [] _ hP va_S.rf hl
end
section
theorem zz_end : True := trivial
end
