section
-- ===== PART A: goes FIRST, ahead of the names: the tables' words, and 'selects' of the private methods out of them =====
/-- a private method of a class that the tables say can be made, by its rows of tables_1 -/
def lw_okq (q : MethodName × Nat) : Prop := (q.1.cls ≠ "java/lang/invoke/MethodHandle" ∧ q.1.cls ≠ "java/lang/invoke/VarHandle") ∧ Cond.instantiable q.1.cls q.2 ∈ tables_1 ∧ Cond.privateMethod q.1 ∈ tables_1 ∧ Cond.instanceMethod q.1 ∈ tables_1
theorem lw_p0 : lw_okq (⟨"TapestryDesk$Tree", "find", "(I)LTapestryDesk$Node;"⟩, 3) := ⟨⟨by decide +kernel, by decide +kernel⟩, List.mem_of_getElem? (i := 62) (by decide +kernel), List.mem_of_getElem? (i := 344) (by decide +kernel), List.mem_of_getElem? (i := 345) (by decide +kernel)⟩
theorem lw_p1 : lw_okq (⟨"TapestryDesk$Cloth", "floatFrom", "(II)I"⟩, 5) := ⟨⟨by decide +kernel, by decide +kernel⟩, List.mem_of_getElem? (i := 25) (by decide +kernel), List.mem_of_getElem? (i := 368) (by decide +kernel), List.mem_of_getElem? (i := 369) (by decide +kernel)⟩
theorem lw_p2 : lw_okq (⟨"TapestryDesk$Cloth", "tellFloat", "(IIII)I"⟩, 5) := ⟨⟨by decide +kernel, by decide +kernel⟩, List.mem_of_getElem? (i := 25) (by decide +kernel), List.mem_of_getElem? (i := 372) (by decide +kernel), List.mem_of_getElem? (i := 373) (by decide +kernel)⟩
theorem lw_p3 : lw_okq (⟨"TapestryDesk$Readiness", "failureAt", "(ILTapestryDesk$Command;LTapestryDesk$Cloth;)I"⟩, 1) := ⟨⟨by decide +kernel, by decide +kernel⟩, List.mem_of_getElem? (i := 88) (by decide +kernel), List.mem_of_getElem? (i := 406) (by decide +kernel), List.mem_of_getElem? (i := 407) (by decide +kernel)⟩
theorem lw_p4 : lw_okq (⟨"TapestryDesk$Readiness", "hasFitWools", "(LTapestryDesk$Command;)Z"⟩, 1) := ⟨⟨by decide +kernel, by decide +kernel⟩, List.mem_of_getElem? (i := 88) (by decide +kernel), List.mem_of_getElem? (i := 412) (by decide +kernel), List.mem_of_getElem? (i := 413) (by decide +kernel)⟩
theorem lw_p5 : lw_okq (⟨"TapestryDesk$Readiness", "failureAsLook", "(LTapestryDesk$Command;LTapestryDesk$Cloth;)I"⟩, 1) := ⟨⟨by decide +kernel, by decide +kernel⟩, List.mem_of_getElem? (i := 88) (by decide +kernel), List.mem_of_getElem? (i := 417) (by decide +kernel), List.mem_of_getElem? (i := 418) (by decide +kernel)⟩
theorem lw_p6 : lw_okq (⟨"TapestryDesk$Readiness", "hasItsBlock", "(LTapestryDesk$Command;LTapestryDesk$Cloth;)Z"⟩, 1) := ⟨⟨by decide +kernel, by decide +kernel⟩, List.mem_of_getElem? (i := 88) (by decide +kernel), List.mem_of_getElem? (i := 421) (by decide +kernel), List.mem_of_getElem? (i := 422) (by decide +kernel)⟩
theorem lw_p7 : lw_okq (⟨"TapestryDesk$Readiness", "hasFitNumbers", "(LTapestryDesk$Command;)Z"⟩, 1) := ⟨⟨by decide +kernel, by decide +kernel⟩, List.mem_of_getElem? (i := 88) (by decide +kernel), List.mem_of_getElem? (i := 425) (by decide +kernel), List.mem_of_getElem? (i := 426) (by decide +kernel)⟩
theorem lw_p8 : lw_okq (⟨"TapestryDesk$Runner", "fail", "(III)V"⟩, 11) := ⟨⟨by decide +kernel, by decide +kernel⟩, List.mem_of_getElem? (i := 82) (by decide +kernel), List.mem_of_getElem? (i := 431) (by decide +kernel), List.mem_of_getElem? (i := 432) (by decide +kernel)⟩
theorem lw_p9 : lw_okq (⟨"TapestryDesk$Painter", "measureBox", "()V"⟩, 7) := ⟨⟨by decide +kernel, by decide +kernel⟩, List.mem_of_getElem? (i := 144) (by decide +kernel), List.mem_of_getElem? (i := 439) (by decide +kernel), List.mem_of_getElem? (i := 440) (by decide +kernel)⟩
theorem lw_p10 : lw_okq (⟨"TapestryDesk$Painter", "keepBefore", "()V"⟩, 7) := ⟨⟨by decide +kernel, by decide +kernel⟩, List.mem_of_getElem? (i := 144) (by decide +kernel), List.mem_of_getElem? (i := 450) (by decide +kernel), List.mem_of_getElem? (i := 451) (by decide +kernel)⟩
theorem lw_p11 : lw_okq (⟨"TapestryDesk$Painter", "fill", "(III)V"⟩, 7) := ⟨⟨by decide +kernel, by decide +kernel⟩, List.mem_of_getElem? (i := 144) (by decide +kernel), List.mem_of_getElem? (i := 459) (by decide +kernel), List.mem_of_getElem? (i := 460) (by decide +kernel)⟩
theorem lw_p12 : lw_okq (⟨"TapestryDesk$Painter", "line", "(LTapestryDesk$Command;)V"⟩, 7) := ⟨⟨by decide +kernel, by decide +kernel⟩, List.mem_of_getElem? (i := 144) (by decide +kernel), List.mem_of_getElem? (i := 467) (by decide +kernel), List.mem_of_getElem? (i := 468) (by decide +kernel)⟩
theorem lw_p13 : lw_okq (⟨"TapestryDesk$Painter", "stamp", "(LTapestryDesk$Command;)V"⟩, 7) := ⟨⟨by decide +kernel, by decide +kernel⟩, List.mem_of_getElem? (i := 144) (by decide +kernel), List.mem_of_getElem? (i := 477) (by decide +kernel), List.mem_of_getElem? (i := 478) (by decide +kernel)⟩
theorem lw_p14 : lw_okq (⟨"TapestryDesk$Painter", "mirror", "(I)V"⟩, 7) := ⟨⟨by decide +kernel, by decide +kernel⟩, List.mem_of_getElem? (i := 144) (by decide +kernel), List.mem_of_getElem? (i := 481) (by decide +kernel), List.mem_of_getElem? (i := 482) (by decide +kernel)⟩
theorem lw_p15 : lw_okq (⟨"TapestryDesk$Painter", "woolBefore", "(II)I"⟩, 7) := ⟨⟨by decide +kernel, by decide +kernel⟩, List.mem_of_getElem? (i := 144) (by decide +kernel), List.mem_of_getElem? (i := 485) (by decide +kernel), List.mem_of_getElem? (i := 486) (by decide +kernel)⟩
def lw_privs_1 : List (MethodName × Nat) := [(⟨"TapestryDesk$Tree", "find", "(I)LTapestryDesk$Node;"⟩, 3), (⟨"TapestryDesk$Cloth", "floatFrom", "(II)I"⟩, 5), (⟨"TapestryDesk$Cloth", "tellFloat", "(IIII)I"⟩, 5), (⟨"TapestryDesk$Readiness", "failureAt", "(ILTapestryDesk$Command;LTapestryDesk$Cloth;)I"⟩, 1), (⟨"TapestryDesk$Readiness", "hasFitWools", "(LTapestryDesk$Command;)Z"⟩, 1), (⟨"TapestryDesk$Readiness", "failureAsLook", "(LTapestryDesk$Command;LTapestryDesk$Cloth;)I"⟩, 1), (⟨"TapestryDesk$Readiness", "hasItsBlock", "(LTapestryDesk$Command;LTapestryDesk$Cloth;)Z"⟩, 1), (⟨"TapestryDesk$Readiness", "hasFitNumbers", "(LTapestryDesk$Command;)Z"⟩, 1), (⟨"TapestryDesk$Runner", "fail", "(III)V"⟩, 11), (⟨"TapestryDesk$Painter", "measureBox", "()V"⟩, 7), (⟨"TapestryDesk$Painter", "keepBefore", "()V"⟩, 7), (⟨"TapestryDesk$Painter", "fill", "(III)V"⟩, 7), (⟨"TapestryDesk$Painter", "line", "(LTapestryDesk$Command;)V"⟩, 7), (⟨"TapestryDesk$Painter", "stamp", "(LTapestryDesk$Command;)V"⟩, 7), (⟨"TapestryDesk$Painter", "mirror", "(I)V"⟩, 7), (⟨"TapestryDesk$Painter", "woolBefore", "(II)I"⟩, 7)]
theorem lw_r1 : ∀ q ∈ lw_privs_1, lw_okq q := List.forall_mem_cons.mpr ⟨lw_p0, List.forall_mem_cons.mpr ⟨lw_p1, List.forall_mem_cons.mpr ⟨lw_p2, List.forall_mem_cons.mpr ⟨lw_p3, List.forall_mem_cons.mpr ⟨lw_p4, List.forall_mem_cons.mpr ⟨lw_p5, List.forall_mem_cons.mpr ⟨lw_p6, List.forall_mem_cons.mpr ⟨lw_p7, List.forall_mem_cons.mpr ⟨lw_p8, List.forall_mem_cons.mpr ⟨lw_p9, List.forall_mem_cons.mpr ⟨lw_p10, List.forall_mem_cons.mpr ⟨lw_p11, List.forall_mem_cons.mpr ⟨lw_p12, List.forall_mem_cons.mpr ⟨lw_p13, List.forall_mem_cons.mpr ⟨lw_p14, List.forall_mem_cons.mpr ⟨lw_p15, fun _ h => absurd h List.not_mem_nil⟩⟩⟩⟩⟩⟩⟩⟩⟩⟩⟩⟩⟩⟩⟩⟩
theorem lw_p16 : lw_okq (⟨"TapestryDesk$Painter", "shift", "(II)V"⟩, 7) := ⟨⟨by decide +kernel, by decide +kernel⟩, List.mem_of_getElem? (i := 144) (by decide +kernel), List.mem_of_getElem? (i := 489) (by decide +kernel), List.mem_of_getElem? (i := 490) (by decide +kernel)⟩
theorem lw_p17 : lw_okq (⟨"TapestryDesk$Painter", "border", "(II)V"⟩, 7) := ⟨⟨by decide +kernel, by decide +kernel⟩, List.mem_of_getElem? (i := 144) (by decide +kernel), List.mem_of_getElem? (i := 496) (by decide +kernel), List.mem_of_getElem? (i := 497) (by decide +kernel)⟩
theorem lw_p18 : lw_okq (⟨"TapestryDesk$Painter", "swap", "(II)V"⟩, 7) := ⟨⟨by decide +kernel, by decide +kernel⟩, List.mem_of_getElem? (i := 144) (by decide +kernel), List.mem_of_getElem? (i := 500) (by decide +kernel), List.mem_of_getElem? (i := 501) (by decide +kernel)⟩
theorem lw_p19 : lw_okq (⟨"TapestryDesk$Painter", "mend", "(I)V"⟩, 7) := ⟨⟨by decide +kernel, by decide +kernel⟩, List.mem_of_getElem? (i := 144) (by decide +kernel), List.mem_of_getElem? (i := 504) (by decide +kernel), List.mem_of_getElem? (i := 505) (by decide +kernel)⟩
theorem lw_p20 : lw_okq (⟨"TapestryDesk$Looker", "select", "(LTapestryDesk$Command;)V"⟩, 1) := ⟨⟨by decide +kernel, by decide +kernel⟩, List.mem_of_getElem? (i := 172) (by decide +kernel), List.mem_of_getElem? (i := 512) (by decide +kernel), List.mem_of_getElem? (i := 513) (by decide +kernel)⟩
theorem lw_p21 : lw_okq (⟨"TapestryDesk$Looker", "isKept", "(IZZ)Z"⟩, 1) := ⟨⟨by decide +kernel, by decide +kernel⟩, List.mem_of_getElem? (i := 172) (by decide +kernel), List.mem_of_getElem? (i := 517) (by decide +kernel), List.mem_of_getElem? (i := 518) (by decide +kernel)⟩
theorem lw_p22 : lw_okq (⟨"TapestryDesk$Looker", "pick", "(I)V"⟩, 1) := ⟨⟨by decide +kernel, by decide +kernel⟩, List.mem_of_getElem? (i := 172) (by decide +kernel), List.mem_of_getElem? (i := 525) (by decide +kernel), List.mem_of_getElem? (i := 526) (by decide +kernel)⟩
theorem lw_p23 : lw_okq (⟨"TapestryDesk$Looker", "show", "(II)V"⟩, 1) := ⟨⟨by decide +kernel, by decide +kernel⟩, List.mem_of_getElem? (i := 172) (by decide +kernel), List.mem_of_getElem? (i := 530) (by decide +kernel), List.mem_of_getElem? (i := 531) (by decide +kernel)⟩
theorem lw_p24 : lw_okq (⟨"TapestryDesk", "settle", "()I"⟩, 8) := ⟨⟨by decide +kernel, by decide +kernel⟩, List.mem_of_getElem? (i := 17) (by decide +kernel), List.mem_of_getElem? (i := 534) (by decide +kernel), List.mem_of_getElem? (i := 535) (by decide +kernel)⟩
theorem lw_p25 : lw_okq (⟨"TapestryDesk$Cloth", "hasWoolsOf", "(LTapestryDesk$Cloth;II)Z"⟩, 5) := ⟨⟨by decide +kernel, by decide +kernel⟩, List.mem_of_getElem? (i := 25) (by decide +kernel), List.mem_of_getElem? (i := 547) (by decide +kernel), List.mem_of_getElem? (i := 548) (by decide +kernel)⟩
theorem lw_p26 : lw_okq (⟨"TapestryDesk", "keepHandle", "(LTapestryDesk$Handle;)I"⟩, 8) := ⟨⟨by decide +kernel, by decide +kernel⟩, List.mem_of_getElem? (i := 17) (by decide +kernel), List.mem_of_getElem? (i := 573) (by decide +kernel), List.mem_of_getElem? (i := 574) (by decide +kernel)⟩
theorem lw_p27 : lw_okq (⟨"TapestryDesk", "handleOf", "(I)LTapestryDesk$Handle;"⟩, 8) := ⟨⟨by decide +kernel, by decide +kernel⟩, List.mem_of_getElem? (i := 17) (by decide +kernel), List.mem_of_getElem? (i := 581) (by decide +kernel), List.mem_of_getElem? (i := 582) (by decide +kernel)⟩
theorem lw_p28 : lw_okq (⟨"TapestryDesk", "macroOf", "(I)LTapestryDesk$Macro;"⟩, 8) := ⟨⟨by decide +kernel, by decide +kernel⟩, List.mem_of_getElem? (i := 17) (by decide +kernel), List.mem_of_getElem? (i := 653) (by decide +kernel), List.mem_of_getElem? (i := 654) (by decide +kernel)⟩
theorem lw_p29 : lw_okq (⟨"TapestryDesk$Runner", "roundsOf", "(LTapestryDesk$Macro;)I"⟩, 11) := ⟨⟨by decide +kernel, by decide +kernel⟩, List.mem_of_getElem? (i := 82) (by decide +kernel), List.mem_of_getElem? (i := 701) (by decide +kernel), List.mem_of_getElem? (i := 702) (by decide +kernel)⟩
theorem lw_p30 : lw_okq (⟨"TapestryDesk$Runner", "isTrue", "(LTapestryDesk$Macro;)Z"⟩, 11) := ⟨⟨by decide +kernel, by decide +kernel⟩, List.mem_of_getElem? (i := 82) (by decide +kernel), List.mem_of_getElem? (i := 705) (by decide +kernel), List.mem_of_getElem? (i := 706) (by decide +kernel)⟩
theorem lw_p31 : lw_okq (⟨"TapestryDesk$Runner", "callParts", "(LTapestryDesk$Macro;I)V"⟩, 11) := ⟨⟨by decide +kernel, by decide +kernel⟩, List.mem_of_getElem? (i := 82) (by decide +kernel), List.mem_of_getElem? (i := 711) (by decide +kernel), List.mem_of_getElem? (i := 712) (by decide +kernel)⟩
def lw_privs_2 : List (MethodName × Nat) := [(⟨"TapestryDesk$Painter", "shift", "(II)V"⟩, 7), (⟨"TapestryDesk$Painter", "border", "(II)V"⟩, 7), (⟨"TapestryDesk$Painter", "swap", "(II)V"⟩, 7), (⟨"TapestryDesk$Painter", "mend", "(I)V"⟩, 7), (⟨"TapestryDesk$Looker", "select", "(LTapestryDesk$Command;)V"⟩, 1), (⟨"TapestryDesk$Looker", "isKept", "(IZZ)Z"⟩, 1), (⟨"TapestryDesk$Looker", "pick", "(I)V"⟩, 1), (⟨"TapestryDesk$Looker", "show", "(II)V"⟩, 1), (⟨"TapestryDesk", "settle", "()I"⟩, 8), (⟨"TapestryDesk$Cloth", "hasWoolsOf", "(LTapestryDesk$Cloth;II)Z"⟩, 5), (⟨"TapestryDesk", "keepHandle", "(LTapestryDesk$Handle;)I"⟩, 8), (⟨"TapestryDesk", "handleOf", "(I)LTapestryDesk$Handle;"⟩, 8), (⟨"TapestryDesk", "macroOf", "(I)LTapestryDesk$Macro;"⟩, 8), (⟨"TapestryDesk$Runner", "roundsOf", "(LTapestryDesk$Macro;)I"⟩, 11), (⟨"TapestryDesk$Runner", "isTrue", "(LTapestryDesk$Macro;)Z"⟩, 11), (⟨"TapestryDesk$Runner", "callParts", "(LTapestryDesk$Macro;I)V"⟩, 11)]
theorem lw_r2 : ∀ q ∈ lw_privs_2, lw_okq q := List.forall_mem_cons.mpr ⟨lw_p16, List.forall_mem_cons.mpr ⟨lw_p17, List.forall_mem_cons.mpr ⟨lw_p18, List.forall_mem_cons.mpr ⟨lw_p19, List.forall_mem_cons.mpr ⟨lw_p20, List.forall_mem_cons.mpr ⟨lw_p21, List.forall_mem_cons.mpr ⟨lw_p22, List.forall_mem_cons.mpr ⟨lw_p23, List.forall_mem_cons.mpr ⟨lw_p24, List.forall_mem_cons.mpr ⟨lw_p25, List.forall_mem_cons.mpr ⟨lw_p26, List.forall_mem_cons.mpr ⟨lw_p27, List.forall_mem_cons.mpr ⟨lw_p28, List.forall_mem_cons.mpr ⟨lw_p29, List.forall_mem_cons.mpr ⟨lw_p30, List.forall_mem_cons.mpr ⟨lw_p31, fun _ h => absurd h List.not_mem_nil⟩⟩⟩⟩⟩⟩⟩⟩⟩⟩⟩⟩⟩⟩⟩⟩
theorem lw_p32 : lw_okq (⟨"TapestryDesk", "moveTo", "(I)I"⟩, 8) := ⟨⟨by decide +kernel, by decide +kernel⟩, List.mem_of_getElem? (i := 17) (by decide +kernel), List.mem_of_getElem? (i := 743) (by decide +kernel), List.mem_of_getElem? (i := 744) (by decide +kernel)⟩
theorem lw_p33 : lw_okq (⟨"TapestryDeskModel", "adds", "(I)I"⟩, 44) := ⟨⟨by decide +kernel, by decide +kernel⟩, List.mem_of_getElem? (i := 798) (by decide +kernel), List.mem_of_getElem? (i := 804) (by decide +kernel), List.mem_of_getElem? (i := 805) (by decide +kernel)⟩
theorem lw_p34 : lw_okq (⟨"TapestryDeskModel", "all", "(Z)V"⟩, 44) := ⟨⟨by decide +kernel, by decide +kernel⟩, List.mem_of_getElem? (i := 798) (by decide +kernel), List.mem_of_getElem? (i := 808) (by decide +kernel), List.mem_of_getElem? (i := 809) (by decide +kernel)⟩
theorem lw_p35 : lw_okq (⟨"TapestryDeskModel", "keeps", "(I)V"⟩, 44) := ⟨⟨by decide +kernel, by decide +kernel⟩, List.mem_of_getElem? (i := 798) (by decide +kernel), List.mem_of_getElem? (i := 812) (by decide +kernel), List.mem_of_getElem? (i := 813) (by decide +kernel)⟩
theorem lw_p36 : lw_okq (⟨"TapestryDeskModel", "isKnot", "(II)Z"⟩, 44) := ⟨⟨by decide +kernel, by decide +kernel⟩, List.mem_of_getElem? (i := 798) (by decide +kernel), List.mem_of_getElem? (i := 960) (by decide +kernel), List.mem_of_getElem? (i := 961) (by decide +kernel)⟩
theorem lw_p37 : lw_okq (⟨"TapestryDeskModel", "seen", "(I)I"⟩, 44) := ⟨⟨by decide +kernel, by decide +kernel⟩, List.mem_of_getElem? (i := 798) (by decide +kernel), List.mem_of_getElem? (i := 964) (by decide +kernel), List.mem_of_getElem? (i := 965) (by decide +kernel)⟩
theorem lw_p38 : lw_okq (⟨"TapestryDeskModel", "selected", "()I"⟩, 44) := ⟨⟨by decide +kernel, by decide +kernel⟩, List.mem_of_getElem? (i := 798) (by decide +kernel), List.mem_of_getElem? (i := 976) (by decide +kernel), List.mem_of_getElem? (i := 977) (by decide +kernel)⟩
theorem lw_p39 : lw_okq (⟨"TapestryDeskModel", "begins", "()V"⟩, 44) := ⟨⟨by decide +kernel, by decide +kernel⟩, List.mem_of_getElem? (i := 798) (by decide +kernel), List.mem_of_getElem? (i := 992) (by decide +kernel), List.mem_of_getElem? (i := 993) (by decide +kernel)⟩
theorem lw_p40 : lw_okq (⟨"TapestryDeskModel", "does", "(I)I"⟩, 44) := ⟨⟨by decide +kernel, by decide +kernel⟩, List.mem_of_getElem? (i := 798) (by decide +kernel), List.mem_of_getElem? (i := 996) (by decide +kernel), List.mem_of_getElem? (i := 997) (by decide +kernel)⟩
theorem lw_p41 : lw_okq (⟨"TapestryDeskModel", "ready", "(I)I"⟩, 44) := ⟨⟨by decide +kernel, by decide +kernel⟩, List.mem_of_getElem? (i := 798) (by decide +kernel), List.mem_of_getElem? (i := 1000) (by decide +kernel), List.mem_of_getElem? (i := 1001) (by decide +kernel)⟩
theorem lw_p42 : lw_okq (⟨"TapestryDeskModel", "box", "()V"⟩, 44) := ⟨⟨by decide +kernel, by decide +kernel⟩, List.mem_of_getElem? (i := 798) (by decide +kernel), List.mem_of_getElem? (i := 1009) (by decide +kernel), List.mem_of_getElem? (i := 1010) (by decide +kernel)⟩
theorem lw_p43 : lw_okq (⟨"TapestryDeskModel", "paints", "(III)V"⟩, 44) := ⟨⟨by decide +kernel, by decide +kernel⟩, List.mem_of_getElem? (i := 798) (by decide +kernel), List.mem_of_getElem? (i := 1013) (by decide +kernel), List.mem_of_getElem? (i := 1014) (by decide +kernel)⟩
theorem lw_p44 : lw_okq (⟨"TapestryDeskModel", "fills", "(III)V"⟩, 44) := ⟨⟨by decide +kernel, by decide +kernel⟩, List.mem_of_getElem? (i := 798) (by decide +kernel), List.mem_of_getElem? (i := 1017) (by decide +kernel), List.mem_of_getElem? (i := 1018) (by decide +kernel)⟩
theorem lw_p45 : lw_okq (⟨"TapestryDeskModel", "lines", "(IIIII)V"⟩, 44) := ⟨⟨by decide +kernel, by decide +kernel⟩, List.mem_of_getElem? (i := 798) (by decide +kernel), List.mem_of_getElem? (i := 1021) (by decide +kernel), List.mem_of_getElem? (i := 1022) (by decide +kernel)⟩
theorem lw_p46 : lw_okq (⟨"TapestryDeskModel", "stamps", "(IIIII)V"⟩, 44) := ⟨⟨by decide +kernel, by decide +kernel⟩, List.mem_of_getElem? (i := 798) (by decide +kernel), List.mem_of_getElem? (i := 1028) (by decide +kernel), List.mem_of_getElem? (i := 1029) (by decide +kernel)⟩
theorem lw_p47 : lw_okq (⟨"TapestryDeskModel", "boxed", "(I)V"⟩, 44) := ⟨⟨by decide +kernel, by decide +kernel⟩, List.mem_of_getElem? (i := 798) (by decide +kernel), List.mem_of_getElem? (i := 1032) (by decide +kernel), List.mem_of_getElem? (i := 1033) (by decide +kernel)⟩
def lw_privs_3 : List (MethodName × Nat) := [(⟨"TapestryDesk", "moveTo", "(I)I"⟩, 8), (⟨"TapestryDeskModel", "adds", "(I)I"⟩, 44), (⟨"TapestryDeskModel", "all", "(Z)V"⟩, 44), (⟨"TapestryDeskModel", "keeps", "(I)V"⟩, 44), (⟨"TapestryDeskModel", "isKnot", "(II)Z"⟩, 44), (⟨"TapestryDeskModel", "seen", "(I)I"⟩, 44), (⟨"TapestryDeskModel", "selected", "()I"⟩, 44), (⟨"TapestryDeskModel", "begins", "()V"⟩, 44), (⟨"TapestryDeskModel", "does", "(I)I"⟩, 44), (⟨"TapestryDeskModel", "ready", "(I)I"⟩, 44), (⟨"TapestryDeskModel", "box", "()V"⟩, 44), (⟨"TapestryDeskModel", "paints", "(III)V"⟩, 44), (⟨"TapestryDeskModel", "fills", "(III)V"⟩, 44), (⟨"TapestryDeskModel", "lines", "(IIIII)V"⟩, 44), (⟨"TapestryDeskModel", "stamps", "(IIIII)V"⟩, 44), (⟨"TapestryDeskModel", "boxed", "(I)V"⟩, 44)]
theorem lw_r3 : ∀ q ∈ lw_privs_3, lw_okq q := List.forall_mem_cons.mpr ⟨lw_p32, List.forall_mem_cons.mpr ⟨lw_p33, List.forall_mem_cons.mpr ⟨lw_p34, List.forall_mem_cons.mpr ⟨lw_p35, List.forall_mem_cons.mpr ⟨lw_p36, List.forall_mem_cons.mpr ⟨lw_p37, List.forall_mem_cons.mpr ⟨lw_p38, List.forall_mem_cons.mpr ⟨lw_p39, List.forall_mem_cons.mpr ⟨lw_p40, List.forall_mem_cons.mpr ⟨lw_p41, List.forall_mem_cons.mpr ⟨lw_p42, List.forall_mem_cons.mpr ⟨lw_p43, List.forall_mem_cons.mpr ⟨lw_p44, List.forall_mem_cons.mpr ⟨lw_p45, List.forall_mem_cons.mpr ⟨lw_p46, List.forall_mem_cons.mpr ⟨lw_p47, fun _ h => absurd h List.not_mem_nil⟩⟩⟩⟩⟩⟩⟩⟩⟩⟩⟩⟩⟩⟩⟩⟩
theorem lw_p48 : lw_okq (⟨"TapestryDeskModel", "looks", "(I)V"⟩, 44) := ⟨⟨by decide +kernel, by decide +kernel⟩, List.mem_of_getElem? (i := 798) (by decide +kernel), List.mem_of_getElem? (i := 1039) (by decide +kernel), List.mem_of_getElem? (i := 1040) (by decide +kernel)⟩
theorem lw_p49 : lw_okq (⟨"TapestryDeskModel", "ends", "(I)I"⟩, 44) := ⟨⟨by decide +kernel, by decide +kernel⟩, List.mem_of_getElem? (i := 798) (by decide +kernel), List.mem_of_getElem? (i := 1043) (by decide +kernel), List.mem_of_getElem? (i := 1044) (by decide +kernel)⟩
theorem lw_p50 : lw_okq (⟨"TapestryDeskModel", "becomes", "(I)V"⟩, 44) := ⟨⟨by decide +kernel, by decide +kernel⟩, List.mem_of_getElem? (i := 798) (by decide +kernel), List.mem_of_getElem? (i := 1047) (by decide +kernel), List.mem_of_getElem? (i := 1048) (by decide +kernel)⟩
theorem lw_p51 : lw_okq (⟨"TapestryDeskModel", "differ", "(II)I"⟩, 44) := ⟨⟨by decide +kernel, by decide +kernel⟩, List.mem_of_getElem? (i := 798) (by decide +kernel), List.mem_of_getElem? (i := 1051) (by decide +kernel), List.mem_of_getElem? (i := 1052) (by decide +kernel)⟩
theorem lw_p52 : lw_okq (⟨"TapestryDeskModel", "isHandle", "(I)Z"⟩, 44) := ⟨⟨by decide +kernel, by decide +kernel⟩, List.mem_of_getElem? (i := 798) (by decide +kernel), List.mem_of_getElem? (i := 1063) (by decide +kernel), List.mem_of_getElem? (i := 1064) (by decide +kernel)⟩
theorem lw_p53 : lw_okq (⟨"TapestryDeskModel", "calls", "(I)I"⟩, 44) := ⟨⟨by decide +kernel, by decide +kernel⟩, List.mem_of_getElem? (i := 798) (by decide +kernel), List.mem_of_getElem? (i := 1075) (by decide +kernel), List.mem_of_getElem? (i := 1076) (by decide +kernel)⟩
theorem lw_p54 : lw_okq (⟨"TapestryDeskModel", "isMacro", "(I)Z"⟩, 44) := ⟨⟨by decide +kernel, by decide +kernel⟩, List.mem_of_getElem? (i := 798) (by decide +kernel), List.mem_of_getElem? (i := 1087) (by decide +kernel), List.mem_of_getElem? (i := 1088) (by decide +kernel)⟩
theorem lw_p55 : lw_okq (⟨"TapestryDeskModel", "plays", "(I)I"⟩, 44) := ⟨⟨by decide +kernel, by decide +kernel⟩, List.mem_of_getElem? (i := 798) (by decide +kernel), List.mem_of_getElem? (i := 1103) (by decide +kernel), List.mem_of_getElem? (i := 1104) (by decide +kernel)⟩
theorem lw_p56 : lw_okq (⟨"TapestryDeskModel", "opens", "(I)V"⟩, 44) := ⟨⟨by decide +kernel, by decide +kernel⟩, List.mem_of_getElem? (i := 798) (by decide +kernel), List.mem_of_getElem? (i := 1107) (by decide +kernel), List.mem_of_getElem? (i := 1108) (by decide +kernel)⟩
theorem lw_p57 : lw_okq (⟨"TapestryDeskModel", "isNode", "(I)Z"⟩, 44) := ⟨⟨by decide +kernel, by decide +kernel⟩, List.mem_of_getElem? (i := 798) (by decide +kernel), List.mem_of_getElem? (i := 1123) (by decide +kernel), List.mem_of_getElem? (i := 1124) (by decide +kernel)⟩
theorem lw_p58 : lw_okq (⟨"TapestryDeskModel", "deepOf", "(I)I"⟩, 44) := ⟨⟨by decide +kernel, by decide +kernel⟩, List.mem_of_getElem? (i := 798) (by decide +kernel), List.mem_of_getElem? (i := 1127) (by decide +kernel), List.mem_of_getElem? (i := 1128) (by decide +kernel)⟩
theorem lw_p59 : lw_okq (⟨"TapestryDeskModel", "under", "(IZ)I"⟩, 44) := ⟨⟨by decide +kernel, by decide +kernel⟩, List.mem_of_getElem? (i := 798) (by decide +kernel), List.mem_of_getElem? (i := 1139) (by decide +kernel), List.mem_of_getElem? (i := 1140) (by decide +kernel)⟩
def lw_privs_4 : List (MethodName × Nat) := [(⟨"TapestryDeskModel", "looks", "(I)V"⟩, 44), (⟨"TapestryDeskModel", "ends", "(I)I"⟩, 44), (⟨"TapestryDeskModel", "becomes", "(I)V"⟩, 44), (⟨"TapestryDeskModel", "differ", "(II)I"⟩, 44), (⟨"TapestryDeskModel", "isHandle", "(I)Z"⟩, 44), (⟨"TapestryDeskModel", "calls", "(I)I"⟩, 44), (⟨"TapestryDeskModel", "isMacro", "(I)Z"⟩, 44), (⟨"TapestryDeskModel", "plays", "(I)I"⟩, 44), (⟨"TapestryDeskModel", "opens", "(I)V"⟩, 44), (⟨"TapestryDeskModel", "isNode", "(I)Z"⟩, 44), (⟨"TapestryDeskModel", "deepOf", "(I)I"⟩, 44), (⟨"TapestryDeskModel", "under", "(IZ)I"⟩, 44)]
theorem lw_r4 : ∀ q ∈ lw_privs_4, lw_okq q := List.forall_mem_cons.mpr ⟨lw_p48, List.forall_mem_cons.mpr ⟨lw_p49, List.forall_mem_cons.mpr ⟨lw_p50, List.forall_mem_cons.mpr ⟨lw_p51, List.forall_mem_cons.mpr ⟨lw_p52, List.forall_mem_cons.mpr ⟨lw_p53, List.forall_mem_cons.mpr ⟨lw_p54, List.forall_mem_cons.mpr ⟨lw_p55, List.forall_mem_cons.mpr ⟨lw_p56, List.forall_mem_cons.mpr ⟨lw_p57, List.forall_mem_cons.mpr ⟨lw_p58, List.forall_mem_cons.mpr ⟨lw_p59, fun _ h => absurd h List.not_mem_nil⟩⟩⟩⟩⟩⟩⟩⟩⟩⟩⟩⟩
def lw_privs : List (MethodName × Nat) := lw_privs_1 ++ (lw_privs_2 ++ (lw_privs_3 ++ (lw_privs_4)))
def lw_tbl : List Cond := k2_sels lw_privs ++ tables_1
theorem lw_privs_ok : ∀ q ∈ lw_privs, lw_okq q := by
  show ∀ q ∈ lw_privs_1 ++ (lw_privs_2 ++ (lw_privs_3 ++ (lw_privs_4))), lw_okq q
  exact List.forall_mem_append.mpr ⟨lw_r1, List.forall_mem_append.mpr ⟨lw_r2, List.forall_mem_append.mpr ⟨lw_r3, lw_r4⟩⟩⟩
end
section
/-! the program as tables: printed by wip/whole/gen.py out of the Statement; each row is checked below -/
def am_RCloth : String := "TapestryDesk$Cloth"
def am_TCloth : u_T := fun k => match k with
  | 0 => ("TapestryDesk$Cloth", "rows", "I", false)
  | 1 => ("TapestryDesk$Cloth", "columns", "I", false)
  | 2 => ("TapestryDesk$Cloth", "inUse", "I", false)
  | 3 => ("TapestryDesk$Cloth", "shown", "I", false)
  | _ => ("TapestryDesk$Cloth", "cells", "[I", true)
def am_yCloth : Nat → FieldType := fun k => match k with
  | 0 => .int
  | 1 => .int
  | 2 => .int
  | 3 => .int
  | _ => .array .int
def am_RCommand : String := "TapestryDesk$Command"
def am_TCommand : u_T := fun k => match k with
  | 0 => ("TapestryDesk$Command", "kind", "I", false)
  | 1 => ("TapestryDesk$Command", "a", "I", false)
  | 2 => ("TapestryDesk$Command", "b", "I", false)
  | 3 => ("TapestryDesk$Command", "c", "I", false)
  | 4 => ("TapestryDesk$Command", "d", "I", false)
  | _ => ("TapestryDesk$Command", "e", "I", false)
def am_yCommand : Nat → FieldType := fun k => match k with
  | 0 => .int
  | 1 => .int
  | 2 => .int
  | 3 => .int
  | 4 => .int
  | _ => .int
def am_RHandle : String := "TapestryDesk$Handle"
def am_THandle : u_T := fun k => match k with
  | 0 => ("TapestryDesk$Handle", "kind", "I", true)
  | 1 => ("TapestryDesk$Handle", "bound", "[Z", true)
  | _ => ("TapestryDesk$Handle", "values", "[I", true)
def am_yHandle : Nat → FieldType := fun k => match k with
  | 0 => .int
  | 1 => .array .boolean
  | _ => .array .int
def am_RLooker : String := "TapestryDesk$Looker"
def am_TLooker : u_T := fun k => match k with
  | _ => ("TapestryDesk$Looker", "cloth", "LTapestryDesk$Cloth;", true)
def am_yLooker : Nat → FieldType := fun k => match k with
  | _ => .object "TapestryDesk$Cloth"
def am_RMacro : String := "TapestryDesk$Macro"
def am_TMacro : u_T := fun k => match k with
  | 0 => ("TapestryDesk$Macro", "kind", "I", true)
  | 1 => ("TapestryDesk$Macro", "m", "I", true)
  | 2 => ("TapestryDesk$Macro", "w", "I", true)
  | 3 => ("TapestryDesk$Macro", "n", "I", false)
  | 4 => ("TapestryDesk$Macro", "partCount", "I", false)
  | _ => ("TapestryDesk$Macro", "parts", "[LTapestryDesk$Part;", true)
def am_yMacro : Nat → FieldType := fun k => match k with
  | 0 => .int
  | 1 => .int
  | 2 => .int
  | 3 => .int
  | 4 => .int
  | _ => .array (.object "TapestryDesk$Part")
def am_RNode : String := "TapestryDesk$Node"
def am_TNode : u_T := fun k => match k with
  | 0 => ("TapestryDesk$Node", "parent", "I", false)
  | 1 => ("TapestryDesk$Node", "isThere", "Z", false)
  | _ => ("TapestryDesk$Node", "held", "LTapestryDesk$Cloth;", true)
def am_yNode : Nat → FieldType := fun k => match k with
  | 0 => .int
  | 1 => .boolean
  | _ => .object "TapestryDesk$Cloth"
def am_RPainter : String := "TapestryDesk$Painter"
def am_TPainter : u_T := fun k => match k with
  | 0 => ("TapestryDesk$Painter", "cloth", "LTapestryDesk$Cloth;", true)
  | 1 => ("TapestryDesk$Painter", "before", "[I", true)
  | 2 => ("TapestryDesk$Painter", "reached", "[I", true)
  | 3 => ("TapestryDesk$Painter", "top", "I", false)
  | 4 => ("TapestryDesk$Painter", "left", "I", false)
  | 5 => ("TapestryDesk$Painter", "bottom", "I", false)
  | _ => ("TapestryDesk$Painter", "right", "I", false)
def am_yPainter : Nat → FieldType := fun k => match k with
  | 0 => .object "TapestryDesk$Cloth"
  | 1 => .array .int
  | 2 => .array .int
  | 3 => .int
  | 4 => .int
  | 5 => .int
  | _ => .int
def am_RPart : String := "TapestryDesk$Part"
def am_TPart : u_T := fun k => match k with
  | 0 => ("TapestryDesk$Part", "handle", "LTapestryDesk$Handle;", true)
  | 1 => ("TapestryDesk$Part", "macro", "LTapestryDesk$Macro;", true)
  | _ => ("TapestryDesk$Part", "given", "[I", true)
def am_yPart : Nat → FieldType := fun k => match k with
  | 0 => .object "TapestryDesk$Handle"
  | 1 => .object "TapestryDesk$Macro"
  | _ => .array .int
def am_RReadiness : String := "TapestryDesk$Readiness"
def am_TReadiness : u_T := fun k => match k with
  | _ => ("TapestryDesk$Readiness", "sum", "J", false)
def am_yReadiness : Nat → FieldType := fun k => match k with
  | _ => .long
def am_RRunner : String := "TapestryDesk$Runner"
def am_TRunner : u_T := fun k => match k with
  | 0 => ("TapestryDesk$Runner", "readiness", "LTapestryDesk$Readiness;", true)
  | 1 => ("TapestryDesk$Runner", "failure", "I", false)
  | 2 => ("TapestryDesk$Runner", "changed", "I", false)
  | 3 => ("TapestryDesk$Runner", "commandsDone", "I", false)
  | 4 => ("TapestryDesk$Runner", "failedKind", "I", false)
  | 5 => ("TapestryDesk$Runner", "failedDepth", "I", false)
  | 6 => ("TapestryDesk$Runner", "cloth", "LTapestryDesk$Cloth;", true)
  | 7 => ("TapestryDesk$Runner", "painter", "LTapestryDesk$Painter;", true)
  | 8 => ("TapestryDesk$Runner", "looker", "LTapestryDesk$Looker;", true)
  | 9 => ("TapestryDesk$Runner", "command", "LTapestryDesk$Command;", true)
  | _ => ("TapestryDesk$Runner", "partsCalled", "I", false)
def am_yRunner : Nat → FieldType := fun k => match k with
  | 0 => .object "TapestryDesk$Readiness"
  | 1 => .int
  | 2 => .int
  | 3 => .int
  | 4 => .int
  | 5 => .int
  | 6 => .object "TapestryDesk$Cloth"
  | 7 => .object "TapestryDesk$Painter"
  | 8 => .object "TapestryDesk$Looker"
  | 9 => .object "TapestryDesk$Command"
  | _ => .int
def am_RTree : String := "TapestryDesk$Tree"
def am_TTree : u_T := fun k => match k with
  | 0 => ("TapestryDesk$Tree", "nodes", "[LTapestryDesk$Node;", true)
  | 1 => ("TapestryDesk$Tree", "atHand", "I", false)
  | _ => ("TapestryDesk$Tree", "ever", "I", false)
def am_yTree : Nat → FieldType := fun k => match k with
  | 0 => .array (.object "TapestryDesk$Node")
  | 1 => .int
  | _ => .int
def am_RDesk : String := "TapestryDesk"
def am_TDesk : u_T := fun k => match k with
  | 0 => ("TapestryDesk", "now", "LTapestryDesk$Cloth;", true)
  | 1 => ("TapestryDesk", "tree", "LTapestryDesk$Tree;", true)
  | 2 => ("TapestryDesk", "runner", "LTapestryDesk$Runner;", true)
  | 3 => ("TapestryDesk", "command", "LTapestryDesk$Command;", true)
  | 4 => ("TapestryDesk", "handles", "[LTapestryDesk$Handle;", true)
  | 5 => ("TapestryDesk", "macros", "[LTapestryDesk$Macro;", true)
  | 6 => ("TapestryDesk", "handleCount", "I", false)
  | _ => ("TapestryDesk", "macroCount", "I", false)
def am_yDesk : Nat → FieldType := fun k => match k with
  | 0 => .object "TapestryDesk$Cloth"
  | 1 => .object "TapestryDesk$Tree"
  | 2 => .object "TapestryDesk$Runner"
  | 3 => .object "TapestryDesk$Command"
  | 4 => .array (.object "TapestryDesk$Handle")
  | 5 => .array (.object "TapestryDesk$Macro")
  | 6 => .int
  | _ => .int
def am_RModel : String := "TapestryDeskModel"
def am_TModel : u_T := fun k => match k with
  | 0 => ("TapestryDeskModel", "thrown", "I", false)
  | 1 => ("TapestryDeskModel", "rows", "I", false)
  | 2 => ("TapestryDeskModel", "columns", "I", false)
  | 3 => ("TapestryDeskModel", "wool", "[I", true)
  | 4 => ("TapestryDeskModel", "isIn", "[Z", true)
  | 5 => ("TapestryDeskModel", "use", "I", false)
  | 6 => ("TapestryDeskModel", "shown", "I", false)
  | 7 => ("TapestryDeskModel", "kept", "[I", true)
  | 8 => ("TapestryDeskModel", "above", "[I", true)
  | 9 => ("TapestryDeskModel", "isThere", "[Z", true)
  | 10 => ("TapestryDeskModel", "ever", "I", false)
  | 11 => ("TapestryDeskModel", "hand", "I", false)
  | 12 => ("TapestryDeskModel", "handles", "I", false)
  | 13 => ("TapestryDeskModel", "kindOf", "[I", true)
  | 14 => ("TapestryDeskModel", "isBound", "[Z", true)
  | 15 => ("TapestryDeskModel", "bound", "[I", true)
  | 16 => ("TapestryDeskModel", "macros", "I", false)
  | 17 => ("TapestryDeskModel", "macroKind", "[I", true)
  | 18 => ("TapestryDeskModel", "macroN", "[I", true)
  | 19 => ("TapestryDeskModel", "macroM", "[I", true)
  | 20 => ("TapestryDeskModel", "macroW", "[I", true)
  | 21 => ("TapestryDeskModel", "parts", "[I", true)
  | 22 => ("TapestryDeskModel", "part", "[I", true)
  | 23 => ("TapestryDeskModel", "given", "[I", true)
  | 24 => ("TapestryDeskModel", "failure", "I", false)
  | 25 => ("TapestryDeskModel", "changed", "I", false)
  | 26 => ("TapestryDeskModel", "done", "I", false)
  | 27 => ("TapestryDeskModel", "failedKind", "I", false)
  | 28 => ("TapestryDeskModel", "failedDeep", "I", false)
  | 29 => ("TapestryDeskModel", "trace", "J", false)
  | 30 => ("TapestryDeskModel", "v", "[I", true)
  | 31 => ("TapestryDeskModel", "was", "[I", true)
  | 32 => ("TapestryDeskModel", "top", "I", false)
  | 33 => ("TapestryDeskModel", "bottom", "I", false)
  | 34 => ("TapestryDeskModel", "left", "I", false)
  | 35 => ("TapestryDeskModel", "right", "I", false)
  | 36 => ("TapestryDeskModel", "isReached", "[Z", true)
  | 37 => ("TapestryDeskModel", "told", "[I", true)
  | 38 => ("TapestryDeskModel", "pile", "[I", true)
  | 39 => ("TapestryDeskModel", "at", "[I", true)
  | 40 => ("TapestryDeskModel", "rest", "[I", true)
  | 41 => ("TapestryDeskModel", "turn", "[I", true)
  | 42 => ("TapestryDeskModel", "layer", "[I", true)
  | _ => ("TapestryDeskModel", "deep", "I", false)
def am_yModel : Nat → FieldType := fun k => match k with
  | 0 => .int
  | 1 => .int
  | 2 => .int
  | 3 => .array .int
  | 4 => .array .boolean
  | 5 => .int
  | 6 => .int
  | 7 => .array .int
  | 8 => .array .int
  | 9 => .array .boolean
  | 10 => .int
  | 11 => .int
  | 12 => .int
  | 13 => .array .int
  | 14 => .array .boolean
  | 15 => .array .int
  | 16 => .int
  | 17 => .array .int
  | 18 => .array .int
  | 19 => .array .int
  | 20 => .array .int
  | 21 => .array .int
  | 22 => .array .int
  | 23 => .array .int
  | 24 => .int
  | 25 => .int
  | 26 => .int
  | 27 => .int
  | 28 => .int
  | 29 => .long
  | 30 => .array .int
  | 31 => .array .int
  | 32 => .int
  | 33 => .int
  | 34 => .int
  | 35 => .int
  | 36 => .array .boolean
  | 37 => .array .int
  | 38 => .array .int
  | 39 => .array .int
  | 40 => .array .int
  | 41 => .array .int
  | 42 => .array .int
  | _ => .int
def am_cl : List vw_C := [(am_RCloth, am_TCloth, 5), (am_RCommand, am_TCommand, 6), (am_RHandle, am_THandle, 3), (am_RLooker, am_TLooker, 1), (am_RMacro, am_TMacro, 6), (am_RNode, am_TNode, 3), (am_RPainter, am_TPainter, 7), (am_RPart, am_TPart, 3), (am_RReadiness, am_TReadiness, 1), (am_RRunner, am_TRunner, 11), (am_RTree, am_TTree, 3), (am_RDesk, am_TDesk, 8), (am_RModel, am_TModel, 44)]
def am_cy : List (Nat → FieldType) := [am_yCloth, am_yCommand, am_yHandle, am_yLooker, am_yMacro, am_yNode, am_yPainter, am_yPart, am_yReadiness, am_yRunner, am_yTree, am_yDesk, am_yModel]
def am_ty : Nat → FieldType := fun t => match t with
  | 0 => .int
  | 1 => .boolean
  | 2 => .object "TapestryDesk$Node"
  | 3 => .object "TapestryDesk$Handle"
  | 4 => .object "TapestryDesk$Macro"
  | _ => .object "TapestryDesk$Part"
def am_sC : Nat → String := fun j => match j with | 0 => am_RReadiness | 1 => am_RReadiness | 2 => am_RReadiness | _ => am_RPainter
def am_sN : Nat → String := fun j => match j with | 0 => "FIRST" | 1 => "OVER" | 2 => "IN_BRACKETS" | 3 => "ROW_STEPS" | _ => "COLUMN_STEPS"
def am_sV : Nat → List Int32 := fun j => match j with
  | 0 => [1, 1, 0, 1, 2, 2, 2, 2, 2, 4, 4, 4, 4]
  | 1 => [1, 3, 3, 5, 5, 6]
  | 2 => [100000, 1000, 10000, 10, 100, 1]
  | 3 => [-1, 0, 0, 1]
  | _ => [0, -1, 1, 0]
def am_lf (k : Nat) (e : Option (ClassFile.Instr × Nat × Nat)) (x : Nat) : Option (ClassFile.Instr × Nat × Nat) := bif Nat.beq x k then e else none
def am_br (k : Nat) (a b : Option (ClassFile.Instr × Nat × Nat)) (x : Nat) : Option (ClassFile.Instr × Nat × Nat) := bif Nat.ble k x then b else a
def am_i_Cloth_init : Nat → Option (ClassFile.Instr × Nat × Nat) := fun x => am_br 15 (am_br 6 (am_br 4 (am_br 1 (am_lf 0 (some (.aload_n 0, 1, 0)) x) (am_lf 1 (some (.invokespecial 3, 3, 10000089)) x) x) (am_br 5 (am_lf 4 (some (.aload_n 0, 1, 0)) x) (am_lf 5 (some (.iconst 1, 1, 0)) x) x) x) (am_br 10 (am_br 9 (am_lf 6 (some (.putfield 9, 3, 90)) x) (am_lf 9 (some (.aload_n 0, 1, 0)) x) x) (am_br 11 (am_lf 10 (some (.iconst 1, 1, 0)) x) (am_br 14 (am_lf 11 (some (.putfield 15, 3, 10095)) x) (am_lf 14 (some (.aload_n 0, 1, 0)) x) x) x) x) x) (am_br 24 (am_br 19 (am_br 16 (am_lf 15 (some (.iconst 0, 1, 0)) x) (am_lf 16 (some (.putfield 18, 3, 20100)) x) x) (am_br 20 (am_lf 19 (some (.aload_n 0, 1, 0)) x) (am_br 21 (am_lf 20 (some (.iconst 0, 1, 0)) x) (am_lf 21 (some (.putfield 21, 3, 30105)) x) x) x) x) (am_br 28 (am_br 25 (am_lf 24 (some (.aload_n 0, 1, 0)) x) (am_lf 25 (some (.sipush 400, 3, 0)) x) x) (am_br 30 (am_lf 28 (some (.newarray .int, 2, 0)) x) (am_br 33 (am_lf 30 (some (.putfield 24, 3, 40108)) x) (am_lf 33 (some (.return_, 1, 0)) x) x) x) x) x) x
def am_i_Cloth_weave : Nat → Option (ClassFile.Instr × Nat × Nat) := fun x => am_br 28 (am_br 12 (am_br 6 (am_br 2 (am_br 1 (am_lf 0 (some (.aload_n 0, 1, 0)) x) (am_lf 1 (some (.iload_n 1, 1, 0)) x) x) (am_br 5 (am_lf 2 (some (.putfield 9, 3, 90)) x) (am_lf 5 (some (.aload_n 0, 1, 0)) x) x) x) (am_br 10 (am_br 7 (am_lf 6 (some (.iload_n 2, 1, 0)) x) (am_lf 7 (some (.putfield 15, 3, 10095)) x) x) (am_br 11 (am_lf 10 (some (.aload_n 0, 1, 0)) x) (am_lf 11 (some (.iconst 0, 1, 0)) x) x) x) x) (am_br 21 (am_br 16 (am_br 15 (am_lf 12 (some (.putfield 18, 3, 20100)) x) (am_lf 15 (some (.aload_n 0, 1, 0)) x) x) (am_br 18 (am_lf 16 (some (.bipush 7, 2, 0)) x) (am_lf 18 (some (.putfield 21, 3, 30105)) x) x) x) (am_br 23 (am_br 22 (am_lf 21 (some (.iconst 0, 1, 0)) x) (am_lf 22 (some (.istore_n 3, 1, 0)) x) x) (am_br 24 (am_lf 23 (some (.iload_n 3, 1, 0)) x) (am_br 25 (am_lf 24 (some (.aload_n 0, 1, 0)) x) (am_lf 25 (some (.getfield 24, 3, 40108)) x) x) x) x) x) x) (am_br 40 (am_br 36 (am_br 32 (am_br 29 (am_lf 28 (some (.arraylength, 1, 0)) x) (am_lf 29 (some (.if_icmp .ge 27, 3, 0)) x) x) (am_br 33 (am_lf 32 (some (.aload_n 0, 1, 0)) x) (am_lf 33 (some (.getfield 24, 3, 40108)) x) x) x) (am_br 38 (am_br 37 (am_lf 36 (some (.iload_n 3, 1, 0)) x) (am_lf 37 (some (.iload_n 3, 1, 0)) x) x) (am_br 39 (am_lf 38 (some (.iconst 4, 1, 0)) x) (am_lf 39 (some (.irem, 1, 0)) x) x) x) x) (am_br 48 (am_br 44 (am_br 41 (am_lf 40 (some (.iconst 3, 1, 0)) x) (am_lf 41 (some (.if_icmp .ne 7, 3, 0)) x) x) (am_br 45 (am_lf 44 (some (.iconst 1, 1, 0)) x) (am_lf 45 (some (.goto 4, 3, 0)) x) x) x) (am_br 50 (am_br 49 (am_lf 48 (some (.iconst 0, 1, 0)) x) (am_lf 49 (some (.iastore, 1, 0)) x) x) (am_br 53 (am_lf 50 (some (.iinc 3 1, 3, 0)) x) (am_br 56 (am_lf 53 (some (.goto (-30), 3, 0)) x) (am_lf 56 (some (.return_, 1, 0)) x) x) x) x) x) x) x
def am_i_Cloth_copyFrom : Nat → Option (ClassFile.Instr × Nat × Nat) := fun x => am_br 25 (am_br 10 (am_br 5 (am_br 1 (am_lf 0 (some (.aload_n 0, 1, 0)) x) (am_br 2 (am_lf 1 (some (.aload_n 1, 1, 0)) x) (am_lf 2 (some (.getfield 9, 3, 90)) x) x) x) (am_br 8 (am_lf 5 (some (.putfield 9, 3, 90)) x) (am_br 9 (am_lf 8 (some (.aload_n 0, 1, 0)) x) (am_lf 9 (some (.aload_n 1, 1, 0)) x) x) x) x) (am_br 17 (am_br 13 (am_lf 10 (some (.getfield 15, 3, 10095)) x) (am_br 16 (am_lf 13 (some (.putfield 15, 3, 10095)) x) (am_lf 16 (some (.aload_n 0, 1, 0)) x) x) x) (am_br 21 (am_br 18 (am_lf 17 (some (.aload_n 1, 1, 0)) x) (am_lf 18 (some (.getfield 18, 3, 20100)) x) x) (am_br 24 (am_lf 21 (some (.putfield 18, 3, 20100)) x) (am_lf 24 (some (.aload_n 0, 1, 0)) x) x) x) x) x) (am_br 38 (am_br 32 (am_br 26 (am_lf 25 (some (.aload_n 1, 1, 0)) x) (am_br 29 (am_lf 26 (some (.getfield 21, 3, 30105)) x) (am_lf 29 (some (.putfield 21, 3, 30105)) x) x) x) (am_br 36 (am_br 33 (am_lf 32 (some (.aload_n 1, 1, 0)) x) (am_lf 33 (some (.getfield 24, 3, 40108)) x) x) (am_br 37 (am_lf 36 (some (.iconst 0, 1, 0)) x) (am_lf 37 (some (.aload_n 0, 1, 0)) x) x) x) x) (am_br 43 (am_br 41 (am_lf 38 (some (.getfield 24, 3, 40108)) x) (am_br 42 (am_lf 41 (some (.iconst 0, 1, 0)) x) (am_lf 42 (some (.aload_n 0, 1, 0)) x) x) x) (am_br 47 (am_br 46 (am_lf 43 (some (.getfield 24, 3, 40108)) x) (am_lf 46 (some (.arraylength, 1, 0)) x) x) (am_br 50 (am_lf 47 (some (.invokestatic 28, 3, 10010327)) x) (am_lf 50 (some (.return_, 1, 0)) x) x) x) x) x) x
def am_i_Cloth_isKnot : Nat → Option (ClassFile.Instr × Nat × Nat) := fun x => am_br 16 (am_br 6 (am_br 4 (am_br 1 (am_lf 0 (some (.iload_n 1, 1, 0)) x) (am_lf 1 (some (.ifCond .lt 27, 3, 0)) x) x) (am_br 5 (am_lf 4 (some (.iload_n 1, 1, 0)) x) (am_lf 5 (some (.aload_n 0, 1, 0)) x) x) x) (am_br 12 (am_br 9 (am_lf 6 (some (.getfield 9, 3, 90)) x) (am_lf 9 (some (.if_icmp .ge 19, 3, 0)) x) x) (am_br 13 (am_lf 12 (some (.iload_n 2, 1, 0)) x) (am_lf 13 (some (.ifCond .lt 15, 3, 0)) x) x) x) x) (am_br 24 (am_br 18 (am_br 17 (am_lf 16 (some (.iload_n 2, 1, 0)) x) (am_lf 17 (some (.aload_n 0, 1, 0)) x) x) (am_br 21 (am_lf 18 (some (.getfield 15, 3, 10095)) x) (am_lf 21 (some (.if_icmp .ge 7, 3, 0)) x) x) x) (am_br 28 (am_br 25 (am_lf 24 (some (.iconst 1, 1, 0)) x) (am_lf 25 (some (.goto 4, 3, 0)) x) x) (am_br 29 (am_lf 28 (some (.iconst 0, 1, 0)) x) (am_lf 29 (some (.ireturn, 1, 0)) x) x) x) x) x
def am_i_Cloth_woolAt : Nat → Option (ClassFile.Instr × Nat × Nat) := fun x => am_br 20 (am_br 10 (am_br 3 (am_br 1 (am_lf 0 (some (.aload_n 0, 1, 0)) x) (am_br 2 (am_lf 1 (some (.iload_n 1, 1, 0)) x) (am_lf 2 (some (.iload_n 2, 1, 0)) x) x) x) (am_br 6 (am_lf 3 (some (.invokevirtual 34, 3, 30374)) x) (am_br 9 (am_lf 6 (some (.ifCond .eq 12, 3, 0)) x) (am_lf 9 (some (.iload_n 3, 1, 0)) x) x) x) x) (am_br 15 (am_br 13 (am_lf 10 (some (.ifCond .lt 8, 3, 0)) x) (am_br 14 (am_lf 13 (some (.iload_n 3, 1, 0)) x) (am_lf 14 (some (.iconst 3, 1, 0)) x) x) x) (am_br 18 (am_lf 15 (some (.if_icmp .lt 5, 3, 0)) x) (am_br 19 (am_lf 18 (some (.iconst 0, 1, 0)) x) (am_lf 19 (some (.ireturn, 1, 0)) x) x) x) x) x) (am_br 29 (am_br 25 (am_br 21 (am_lf 20 (some (.aload_n 0, 1, 0)) x) (am_br 24 (am_lf 21 (some (.getfield 24, 3, 40108)) x) (am_lf 24 (some (.iload_n 1, 1, 0)) x) x) x) (am_br 27 (am_lf 25 (some (.bipush 10, 2, 0)) x) (am_br 28 (am_lf 27 (some (.imul, 1, 0)) x) (am_lf 28 (some (.iload_n 2, 1, 0)) x) x) x) x) (am_br 32 (am_br 30 (am_lf 29 (some (.iadd, 1, 0)) x) (am_br 31 (am_lf 30 (some (.iconst 4, 1, 0)) x) (am_lf 31 (some (.imul, 1, 0)) x) x) x) (am_br 34 (am_br 33 (am_lf 32 (some (.iload_n 3, 1, 0)) x) (am_lf 33 (some (.iadd, 1, 0)) x) x) (am_br 35 (am_lf 34 (some (.iaload, 1, 0)) x) (am_lf 35 (some (.ireturn, 1, 0)) x) x) x) x) x) x
def am_i_Cloth_seenAt : Nat → Option (ClassFile.Instr × Nat × Nat) := fun x => am_br 29 (am_br 14 (am_br 9 (am_br 2 (am_br 1 (am_lf 0 (some (.aload_n 0, 1, 0)) x) (am_lf 1 (some (.iload_n 1, 1, 0)) x) x) (am_br 3 (am_lf 2 (some (.iload_n 2, 1, 0)) x) (am_br 6 (am_lf 3 (some (.invokevirtual 34, 3, 30374)) x) (am_lf 6 (some (.ifCond .ne 5, 3, 0)) x) x) x) x) (am_br 11 (am_br 10 (am_lf 9 (some (.iconst 0, 1, 0)) x) (am_lf 10 (some (.ireturn, 1, 0)) x) x) (am_br 12 (am_lf 11 (some (.iconst 2, 1, 0)) x) (am_br 13 (am_lf 12 (some (.istore_n 3, 1, 0)) x) (am_lf 13 (some (.iload_n 3, 1, 0)) x) x) x) x) x) (am_br 24 (am_br 18 (am_br 17 (am_lf 14 (some (.ifCond .lt 46, 3, 0)) x) (am_lf 17 (some (.aload_n 0, 1, 0)) x) x) (am_br 21 (am_lf 18 (some (.getfield 24, 3, 40108)) x) (am_br 22 (am_lf 21 (some (.iload_n 1, 1, 0)) x) (am_lf 22 (some (.bipush 10, 2, 0)) x) x) x) x) (am_br 26 (am_br 25 (am_lf 24 (some (.imul, 1, 0)) x) (am_lf 25 (some (.iload_n 2, 1, 0)) x) x) (am_br 27 (am_lf 26 (some (.iadd, 1, 0)) x) (am_br 28 (am_lf 27 (some (.iconst 4, 1, 0)) x) (am_lf 28 (some (.imul, 1, 0)) x) x) x) x) x) x) (am_br 45 (am_br 36 (am_br 31 (am_br 30 (am_lf 29 (some (.iload_n 3, 1, 0)) x) (am_lf 30 (some (.iadd, 1, 0)) x) x) (am_br 32 (am_lf 31 (some (.iaload, 1, 0)) x) (am_br 34 (am_lf 32 (some (.istore 4, 2, 0)) x) (am_lf 34 (some (.iload 4, 2, 0)) x) x) x) x) (am_br 40 (am_br 39 (am_lf 36 (some (.ifCond .eq 18, 3, 0)) x) (am_lf 39 (some (.aload_n 0, 1, 0)) x) x) (am_br 43 (am_lf 40 (some (.getfield 21, 3, 30105)) x) (am_br 44 (am_lf 43 (some (.iload_n 3, 1, 0)) x) (am_lf 44 (some (.ishr, 1, 0)) x) x) x) x) x) (am_br 53 (am_br 47 (am_br 46 (am_lf 45 (some (.iconst 1, 1, 0)) x) (am_lf 46 (some (.iand, 1, 0)) x) x) (am_br 48 (am_lf 47 (some (.iconst 1, 1, 0)) x) (am_br 51 (am_lf 48 (some (.if_icmp .ne 6, 3, 0)) x) (am_lf 51 (some (.iload 4, 2, 0)) x) x) x) x) (am_br 57 (am_br 54 (am_lf 53 (some (.ireturn, 1, 0)) x) (am_lf 54 (some (.iinc 3 (-1), 3, 0)) x) x) (am_br 60 (am_lf 57 (some (.goto (-44), 3, 0)) x) (am_br 61 (am_lf 60 (some (.iconst 0, 1, 0)) x) (am_lf 61 (some (.ireturn, 1, 0)) x) x) x) x) x) x) x
def am_i_Cloth_isChosen : Nat → Option (ClassFile.Instr × Nat × Nat) := fun x => am_br 18 (am_br 9 (am_br 2 (am_br 1 (am_lf 0 (some (.aload_n 0, 1, 0)) x) (am_lf 1 (some (.iload_n 1, 1, 0)) x) x) (am_br 3 (am_lf 2 (some (.iload_n 2, 1, 0)) x) (am_br 6 (am_lf 3 (some (.invokevirtual 34, 3, 30374)) x) (am_lf 6 (some (.ifCond .eq 26, 3, 0)) x) x) x) x) (am_br 14 (am_br 10 (am_lf 9 (some (.aload_n 0, 1, 0)) x) (am_br 13 (am_lf 10 (some (.getfield 24, 3, 40108)) x) (am_lf 13 (some (.iload_n 1, 1, 0)) x) x) x) (am_br 16 (am_lf 14 (some (.bipush 10, 2, 0)) x) (am_br 17 (am_lf 16 (some (.imul, 1, 0)) x) (am_lf 17 (some (.iload_n 2, 1, 0)) x) x) x) x) x) (am_br 24 (am_br 21 (am_br 19 (am_lf 18 (some (.iadd, 1, 0)) x) (am_br 20 (am_lf 19 (some (.iconst 4, 1, 0)) x) (am_lf 20 (some (.imul, 1, 0)) x) x) x) (am_br 22 (am_lf 21 (some (.iconst 3, 1, 0)) x) (am_br 23 (am_lf 22 (some (.iadd, 1, 0)) x) (am_lf 23 (some (.iaload, 1, 0)) x) x) x) x) (am_br 29 (am_br 25 (am_lf 24 (some (.iconst 1, 1, 0)) x) (am_br 28 (am_lf 25 (some (.if_icmp .ne 7, 3, 0)) x) (am_lf 28 (some (.iconst 1, 1, 0)) x) x) x) (am_br 32 (am_lf 29 (some (.goto 4, 3, 0)) x) (am_br 33 (am_lf 32 (some (.iconst 0, 1, 0)) x) (am_lf 33 (some (.ireturn, 1, 0)) x) x) x) x) x) x
def am_i_Cloth_choose : Nat → Option (ClassFile.Instr × Nat × Nat) := fun x => am_br 18 (am_br 9 (am_br 2 (am_br 1 (am_lf 0 (some (.aload_n 0, 1, 0)) x) (am_lf 1 (some (.iload_n 1, 1, 0)) x) x) (am_br 3 (am_lf 2 (some (.iload_n 2, 1, 0)) x) (am_br 6 (am_lf 3 (some (.invokevirtual 34, 3, 30374)) x) (am_lf 6 (some (.ifCond .eq 27, 3, 0)) x) x) x) x) (am_br 14 (am_br 10 (am_lf 9 (some (.aload_n 0, 1, 0)) x) (am_br 13 (am_lf 10 (some (.getfield 24, 3, 40108)) x) (am_lf 13 (some (.iload_n 1, 1, 0)) x) x) x) (am_br 16 (am_lf 14 (some (.bipush 10, 2, 0)) x) (am_br 17 (am_lf 16 (some (.imul, 1, 0)) x) (am_lf 17 (some (.iload_n 2, 1, 0)) x) x) x) x) x) (am_br 24 (am_br 21 (am_br 19 (am_lf 18 (some (.iadd, 1, 0)) x) (am_br 20 (am_lf 19 (some (.iconst 4, 1, 0)) x) (am_lf 20 (some (.imul, 1, 0)) x) x) x) (am_br 22 (am_lf 21 (some (.iconst 3, 1, 0)) x) (am_br 23 (am_lf 22 (some (.iadd, 1, 0)) x) (am_lf 23 (some (.iload_n 3, 1, 0)) x) x) x) x) (am_br 31 (am_br 27 (am_lf 24 (some (.ifCond .eq 7, 3, 0)) x) (am_br 28 (am_lf 27 (some (.iconst 1, 1, 0)) x) (am_lf 28 (some (.goto 4, 3, 0)) x) x) x) (am_br 32 (am_lf 31 (some (.iconst 0, 1, 0)) x) (am_br 33 (am_lf 32 (some (.iastore, 1, 0)) x) (am_lf 33 (some (.return_, 1, 0)) x) x) x) x) x) x
def am_i_Cloth_paint : Nat → Option (ClassFile.Instr × Nat × Nat) := fun x => am_br 32 (am_br 17 (am_br 6 (am_br 2 (am_br 1 (am_lf 0 (some (.aload_n 0, 1, 0)) x) (am_lf 1 (some (.iload_n 1, 1, 0)) x) x) (am_br 3 (am_lf 2 (some (.iload_n 2, 1, 0)) x) (am_lf 3 (some (.invokevirtual 34, 3, 30374)) x) x) x) (am_br 10 (am_br 9 (am_lf 6 (some (.ifCond .eq 18, 3, 0)) x) (am_lf 9 (some (.aload_n 0, 1, 0)) x) x) (am_br 13 (am_lf 10 (some (.getfield 18, 3, 20100)) x) (am_br 16 (am_lf 13 (some (.ifCond .lt 11, 3, 0)) x) (am_lf 16 (some (.aload_n 0, 1, 0)) x) x) x) x) x) (am_br 26 (am_br 21 (am_br 20 (am_lf 17 (some (.getfield 18, 3, 20100)) x) (am_lf 20 (some (.iconst 3, 1, 0)) x) x) (am_br 24 (am_lf 21 (some (.if_icmp .lt 4, 3, 0)) x) (am_br 25 (am_lf 24 (some (.return_, 1, 0)) x) (am_lf 25 (some (.iload_n 1, 1, 0)) x) x) x) x) (am_br 29 (am_br 28 (am_lf 26 (some (.bipush 10, 2, 0)) x) (am_lf 28 (some (.imul, 1, 0)) x) x) (am_br 30 (am_lf 29 (some (.iload_n 2, 1, 0)) x) (am_br 31 (am_lf 30 (some (.iadd, 1, 0)) x) (am_lf 31 (some (.iconst 4, 1, 0)) x) x) x) x) x) x) (am_br 45 (am_br 39 (am_br 35 (am_br 33 (am_lf 32 (some (.imul, 1, 0)) x) (am_lf 33 (some (.istore 4, 2, 0)) x) x) (am_br 36 (am_lf 35 (some (.aload_n 0, 1, 0)) x) (am_lf 36 (some (.getfield 24, 3, 40108)) x) x) x) (am_br 42 (am_br 41 (am_lf 39 (some (.iload 4, 2, 0)) x) (am_lf 41 (some (.iconst 3, 1, 0)) x) x) (am_br 43 (am_lf 42 (some (.iadd, 1, 0)) x) (am_br 44 (am_lf 43 (some (.iaload, 1, 0)) x) (am_lf 44 (some (.iconst 1, 1, 0)) x) x) x) x) x) (am_br 55 (am_br 49 (am_br 48 (am_lf 45 (some (.if_icmp .ne 16, 3, 0)) x) (am_lf 48 (some (.aload_n 0, 1, 0)) x) x) (am_br 52 (am_lf 49 (some (.getfield 24, 3, 40108)) x) (am_br 54 (am_lf 52 (some (.iload 4, 2, 0)) x) (am_lf 54 (some (.aload_n 0, 1, 0)) x) x) x) x) (am_br 59 (am_br 58 (am_lf 55 (some (.getfield 18, 3, 20100)) x) (am_lf 58 (some (.iadd, 1, 0)) x) x) (am_br 60 (am_lf 59 (some (.iload_n 3, 1, 0)) x) (am_br 61 (am_lf 60 (some (.iastore, 1, 0)) x) (am_lf 61 (some (.return_, 1, 0)) x) x) x) x) x) x) x
def am_i_Cloth_chosenCount : Nat → Option (ClassFile.Instr × Nat × Nat) := fun x => am_br 27 (am_br 12 (am_br 4 (am_br 2 (am_br 1 (am_lf 0 (some (.iconst 0, 1, 0)) x) (am_lf 1 (some (.istore_n 1, 1, 0)) x) x) (am_br 3 (am_lf 2 (some (.iconst 0, 1, 0)) x) (am_lf 3 (some (.istore_n 2, 1, 0)) x) x) x) (am_br 6 (am_br 5 (am_lf 4 (some (.iload_n 2, 1, 0)) x) (am_lf 5 (some (.aload_n 0, 1, 0)) x) x) (am_br 9 (am_lf 6 (some (.getfield 9, 3, 90)) x) (am_lf 9 (some (.if_icmp .ge 43, 3, 0)) x) x) x) x) (am_br 16 (am_br 14 (am_br 13 (am_lf 12 (some (.iconst 0, 1, 0)) x) (am_lf 13 (some (.istore_n 3, 1, 0)) x) x) (am_br 15 (am_lf 14 (some (.iload_n 3, 1, 0)) x) (am_lf 15 (some (.aload_n 0, 1, 0)) x) x) x) (am_br 22 (am_br 19 (am_lf 16 (some (.getfield 15, 3, 10095)) x) (am_lf 19 (some (.if_icmp .ge 27, 3, 0)) x) x) (am_br 23 (am_lf 22 (some (.iload_n 1, 1, 0)) x) (am_br 24 (am_lf 23 (some (.aload_n 0, 1, 0)) x) (am_lf 24 (some (.getfield 24, 3, 40108)) x) x) x) x) x) x) (am_br 37 (am_br 32 (am_br 30 (am_br 28 (am_lf 27 (some (.iload_n 2, 1, 0)) x) (am_lf 28 (some (.bipush 10, 2, 0)) x) x) (am_br 31 (am_lf 30 (some (.imul, 1, 0)) x) (am_lf 31 (some (.iload_n 3, 1, 0)) x) x) x) (am_br 34 (am_br 33 (am_lf 32 (some (.iadd, 1, 0)) x) (am_lf 33 (some (.iconst 4, 1, 0)) x) x) (am_br 35 (am_lf 34 (some (.imul, 1, 0)) x) (am_br 36 (am_lf 35 (some (.iconst 3, 1, 0)) x) (am_lf 36 (some (.iadd, 1, 0)) x) x) x) x) x) (am_br 43 (am_br 39 (am_br 38 (am_lf 37 (some (.iaload, 1, 0)) x) (am_lf 38 (some (.iadd, 1, 0)) x) x) (am_br 40 (am_lf 39 (some (.istore_n 1, 1, 0)) x) (am_lf 40 (some (.iinc 3 1, 3, 0)) x) x) x) (am_br 49 (am_br 46 (am_lf 43 (some (.goto (-29), 3, 0)) x) (am_lf 46 (some (.iinc 2 1, 3, 0)) x) x) (am_br 52 (am_lf 49 (some (.goto (-45), 3, 0)) x) (am_br 53 (am_lf 52 (some (.iload_n 1, 1, 0)) x) (am_lf 53 (some (.ireturn, 1, 0)) x) x) x) x) x) x) x
def am_i_Cloth_seenCount : Nat → Option (ClassFile.Instr × Nat × Nat) := fun x => am_br 21 (am_br 6 (am_br 3 (am_br 1 (am_lf 0 (some (.iconst 0, 1, 0)) x) (am_br 2 (am_lf 1 (some (.istore_n 2, 1, 0)) x) (am_lf 2 (some (.iconst 0, 1, 0)) x) x) x) (am_br 4 (am_lf 3 (some (.istore_n 3, 1, 0)) x) (am_br 5 (am_lf 4 (some (.iload_n 3, 1, 0)) x) (am_lf 5 (some (.aload_n 0, 1, 0)) x) x) x) x) (am_br 13 (am_br 9 (am_lf 6 (some (.getfield 9, 3, 90)) x) (am_br 12 (am_lf 9 (some (.if_icmp .ge 41, 3, 0)) x) (am_lf 12 (some (.iconst 0, 1, 0)) x) x) x) (am_br 17 (am_br 15 (am_lf 13 (some (.istore 4, 2, 0)) x) (am_lf 15 (some (.iload 4, 2, 0)) x) x) (am_br 18 (am_lf 17 (some (.aload_n 0, 1, 0)) x) (am_lf 18 (some (.getfield 15, 3, 10095)) x) x) x) x) x) (am_br 35 (am_br 26 (am_br 24 (am_lf 21 (some (.if_icmp .ge 23, 3, 0)) x) (am_br 25 (am_lf 24 (some (.aload_n 0, 1, 0)) x) (am_lf 25 (some (.iload_n 3, 1, 0)) x) x) x) (am_br 31 (am_br 28 (am_lf 26 (some (.iload 4, 2, 0)) x) (am_lf 28 (some (.invokevirtual 38, 3, 50418)) x) x) (am_br 32 (am_lf 31 (some (.iload_n 1, 1, 0)) x) (am_lf 32 (some (.if_icmp .ne 6, 3, 0)) x) x) x) x) (am_br 44 (am_br 38 (am_lf 35 (some (.iinc 2 1, 3, 0)) x) (am_br 41 (am_lf 38 (some (.iinc 4 1, 3, 0)) x) (am_lf 41 (some (.goto (-26), 3, 0)) x) x) x) (am_br 50 (am_br 47 (am_lf 44 (some (.iinc 3 1, 3, 0)) x) (am_lf 47 (some (.goto (-43), 3, 0)) x) x) (am_br 51 (am_lf 50 (some (.iload_n 2, 1, 0)) x) (am_lf 51 (some (.ireturn, 1, 0)) x) x) x) x) x) x
def am_i_Cloth_changedFrom : Nat → Option (ClassFile.Instr × Nat × Nat) := fun x => am_br 21 (am_br 6 (am_br 3 (am_br 1 (am_lf 0 (some (.iconst 0, 1, 0)) x) (am_br 2 (am_lf 1 (some (.istore_n 2, 1, 0)) x) (am_lf 2 (some (.iconst 0, 1, 0)) x) x) x) (am_br 4 (am_lf 3 (some (.istore_n 3, 1, 0)) x) (am_br 5 (am_lf 4 (some (.iload_n 3, 1, 0)) x) (am_lf 5 (some (.aload_n 0, 1, 0)) x) x) x) x) (am_br 13 (am_br 9 (am_lf 6 (some (.getfield 9, 3, 90)) x) (am_br 12 (am_lf 9 (some (.if_icmp .ge 41, 3, 0)) x) (am_lf 12 (some (.iconst 0, 1, 0)) x) x) x) (am_br 17 (am_br 15 (am_lf 13 (some (.istore 4, 2, 0)) x) (am_lf 15 (some (.iload 4, 2, 0)) x) x) (am_br 18 (am_lf 17 (some (.aload_n 0, 1, 0)) x) (am_lf 18 (some (.getfield 15, 3, 10095)) x) x) x) x) x) (am_br 35 (am_br 26 (am_br 24 (am_lf 21 (some (.if_icmp .ge 23, 3, 0)) x) (am_br 25 (am_lf 24 (some (.aload_n 0, 1, 0)) x) (am_lf 25 (some (.aload_n 1, 1, 0)) x) x) x) (am_br 29 (am_br 27 (am_lf 26 (some (.iload_n 3, 1, 0)) x) (am_lf 27 (some (.iload 4, 2, 0)) x) x) (am_br 32 (am_lf 29 (some (.invokevirtual 42, 3, 120606)) x) (am_lf 32 (some (.ifCond .ne 6, 3, 0)) x) x) x) x) (am_br 44 (am_br 38 (am_lf 35 (some (.iinc 2 1, 3, 0)) x) (am_br 41 (am_lf 38 (some (.iinc 4 1, 3, 0)) x) (am_lf 41 (some (.goto (-26), 3, 0)) x) x) x) (am_br 50 (am_br 47 (am_lf 44 (some (.iinc 3 1, 3, 0)) x) (am_lf 47 (some (.goto (-43), 3, 0)) x) x) (am_br 51 (am_lf 50 (some (.iload_n 2, 1, 0)) x) (am_lf 51 (some (.ireturn, 1, 0)) x) x) x) x) x) x
def am_i_Cloth_hasWoolsOf : Nat → Option (ClassFile.Instr × Nat × Nat) := fun x => am_br 18 (am_br 9 (am_br 3 (am_br 1 (am_lf 0 (some (.iconst 0, 1, 0)) x) (am_lf 1 (some (.istore 4, 2, 0)) x) x) (am_br 5 (am_lf 3 (some (.iload 4, 2, 0)) x) (am_br 6 (am_lf 5 (some (.iconst 3, 1, 0)) x) (am_lf 6 (some (.if_icmp .ge 30, 3, 0)) x) x) x) x) (am_br 12 (am_br 10 (am_lf 9 (some (.aload_n 0, 1, 0)) x) (am_br 11 (am_lf 10 (some (.iload_n 2, 1, 0)) x) (am_lf 11 (some (.iload_n 3, 1, 0)) x) x) x) (am_br 14 (am_lf 12 (some (.iload 4, 2, 0)) x) (am_br 17 (am_lf 14 (some (.invokevirtual 46, 3, 40610)) x) (am_lf 17 (some (.aload_n 1, 1, 0)) x) x) x) x) x) (am_br 28 (am_br 20 (am_br 19 (am_lf 18 (some (.iload_n 2, 1, 0)) x) (am_lf 19 (some (.iload_n 3, 1, 0)) x) x) (am_br 22 (am_lf 20 (some (.iload 4, 2, 0)) x) (am_br 25 (am_lf 22 (some (.invokevirtual 46, 3, 40610)) x) (am_lf 25 (some (.if_icmp .eq 5, 3, 0)) x) x) x) x) (am_br 33 (am_br 29 (am_lf 28 (some (.iconst 0, 1, 0)) x) (am_br 30 (am_lf 29 (some (.ireturn, 1, 0)) x) (am_lf 30 (some (.iinc 4 1, 3, 0)) x) x) x) (am_br 36 (am_lf 33 (some (.goto (-30), 3, 0)) x) (am_br 37 (am_lf 36 (some (.iconst 1, 1, 0)) x) (am_lf 37 (some (.ireturn, 1, 0)) x) x) x) x) x) x
def am_i_Cloth_findFloat : Nat → Option (ClassFile.Instr × Nat × Nat) := fun x => am_br 37 (am_br 16 (am_br 6 (am_br 3 (am_br 1 (am_lf 0 (some (.iconst 0, 1, 0)) x) (am_lf 1 (some (.istore 4, 2, 0)) x) x) (am_br 4 (am_lf 3 (some (.iconst 0, 1, 0)) x) (am_lf 4 (some (.istore 5, 2, 0)) x) x) x) (am_br 9 (am_br 8 (am_lf 6 (some (.iload 5, 2, 0)) x) (am_lf 8 (some (.aload_n 0, 1, 0)) x) x) (am_br 12 (am_lf 9 (some (.getfield 9, 3, 90)) x) (am_br 15 (am_lf 12 (some (.if_icmp .ge 64, 3, 0)) x) (am_lf 15 (some (.iconst 0, 1, 0)) x) x) x) x) x) (am_br 27 (am_br 20 (am_br 18 (am_lf 16 (some (.istore 6, 2, 0)) x) (am_lf 18 (some (.iload 6, 2, 0)) x) x) (am_br 21 (am_lf 20 (some (.aload_n 0, 1, 0)) x) (am_br 24 (am_lf 21 (some (.getfield 15, 3, 10095)) x) (am_lf 24 (some (.if_icmp .ge 46, 3, 0)) x) x) x) x) (am_br 30 (am_br 28 (am_lf 27 (some (.aload_n 0, 1, 0)) x) (am_lf 28 (some (.iload 5, 2, 0)) x) x) (am_br 32 (am_lf 30 (some (.iload 6, 2, 0)) x) (am_br 35 (am_lf 32 (some (.invokevirtual 50, 3, 140427)) x) (am_lf 35 (some (.istore 7, 2, 0)) x) x) x) x) x) x) (am_br 56 (am_br 46 (am_br 40 (am_br 39 (am_lf 37 (some (.iload 7, 2, 0)) x) (am_lf 39 (some (.iload_n 1, 1, 0)) x) x) (am_br 43 (am_lf 40 (some (.if_icmp .le 24, 3, 0)) x) (am_br 45 (am_lf 43 (some (.iload 4, 2, 0)) x) (am_lf 45 (some (.iload_n 2, 1, 0)) x) x) x) x) (am_br 50 (am_br 49 (am_lf 46 (some (.if_icmp .ne 15, 3, 0)) x) (am_lf 49 (some (.aload_n 0, 1, 0)) x) x) (am_br 52 (am_lf 50 (some (.iload 5, 2, 0)) x) (am_br 54 (am_lf 52 (some (.iload 6, 2, 0)) x) (am_lf 54 (some (.iload 7, 2, 0)) x) x) x) x) x) (am_br 67 (am_br 60 (am_br 57 (am_lf 56 (some (.iload_n 3, 1, 0)) x) (am_lf 57 (some (.invokevirtual 53, 3, 150431)) x) x) (am_br 61 (am_lf 60 (some (.ireturn, 1, 0)) x) (am_br 64 (am_lf 61 (some (.iinc 4 1, 3, 0)) x) (am_lf 64 (some (.iinc 6 1, 3, 0)) x) x) x) x) (am_br 73 (am_br 70 (am_lf 67 (some (.goto (-49), 3, 0)) x) (am_lf 70 (some (.iinc 5 1, 3, 0)) x) x) (am_br 76 (am_lf 73 (some (.goto (-67), 3, 0)) x) (am_br 78 (am_lf 76 (some (.bipush (-9), 2, 0)) x) (am_lf 78 (some (.ireturn, 1, 0)) x) x) x) x) x) x) x
def am_i_Cloth_floatFrom : Nat → Option (ClassFile.Instr × Nat × Nat) := fun x => am_br 26 (am_br 13 (am_br 6 (am_br 2 (am_br 1 (am_lf 0 (some (.aload_n 0, 1, 0)) x) (am_lf 1 (some (.iload_n 1, 1, 0)) x) x) (am_br 3 (am_lf 2 (some (.iload_n 2, 1, 0)) x) (am_lf 3 (some (.invokevirtual 38, 3, 50418)) x) x) x) (am_br 8 (am_br 7 (am_lf 6 (some (.istore_n 3, 1, 0)) x) (am_lf 7 (some (.iload_n 3, 1, 0)) x) x) (am_br 11 (am_lf 8 (some (.ifCond .eq 15, 3, 0)) x) (am_br 12 (am_lf 11 (some (.aload_n 0, 1, 0)) x) (am_lf 12 (some (.iload_n 1, 1, 0)) x) x) x) x) x) (am_br 19 (am_br 15 (am_br 14 (am_lf 13 (some (.iload_n 2, 1, 0)) x) (am_lf 14 (some (.iconst 1, 1, 0)) x) x) (am_br 16 (am_lf 15 (some (.isub, 1, 0)) x) (am_lf 16 (some (.invokevirtual 38, 3, 50418)) x) x) x) (am_br 23 (am_br 20 (am_lf 19 (some (.iload_n 3, 1, 0)) x) (am_lf 20 (some (.if_icmp .ne 5, 3, 0)) x) x) (am_br 24 (am_lf 23 (some (.iconst 0, 1, 0)) x) (am_br 25 (am_lf 24 (some (.ireturn, 1, 0)) x) (am_lf 25 (some (.iload_n 2, 1, 0)) x) x) x) x) x) x) (am_br 41 (am_br 32 (am_br 28 (am_br 27 (am_lf 26 (some (.iconst 1, 1, 0)) x) (am_lf 27 (some (.iadd, 1, 0)) x) x) (am_br 30 (am_lf 28 (some (.istore 4, 2, 0)) x) (am_lf 30 (some (.iload 4, 2, 0)) x) x) x) (am_br 36 (am_br 33 (am_lf 32 (some (.aload_n 0, 1, 0)) x) (am_lf 33 (some (.getfield 15, 3, 10095)) x) x) (am_br 39 (am_lf 36 (some (.if_icmp .ge 20, 3, 0)) x) (am_br 40 (am_lf 39 (some (.aload_n 0, 1, 0)) x) (am_lf 40 (some (.iload_n 1, 1, 0)) x) x) x) x) x) (am_br 53 (am_br 46 (am_br 43 (am_lf 41 (some (.iload 4, 2, 0)) x) (am_lf 43 (some (.invokevirtual 38, 3, 50418)) x) x) (am_br 47 (am_lf 46 (some (.iload_n 3, 1, 0)) x) (am_br 50 (am_lf 47 (some (.if_icmp .ne 9, 3, 0)) x) (am_lf 50 (some (.iinc 4 1, 3, 0)) x) x) x) x) (am_br 58 (am_br 56 (am_lf 53 (some (.goto (-23), 3, 0)) x) (am_lf 56 (some (.iload 4, 2, 0)) x) x) (am_br 59 (am_lf 58 (some (.iload_n 2, 1, 0)) x) (am_br 60 (am_lf 59 (some (.isub, 1, 0)) x) (am_lf 60 (some (.ireturn, 1, 0)) x) x) x) x) x) x) x
def am_i_Cloth_tellFloat : Nat → Option (ClassFile.Instr × Nat × Nat) := fun x => am_br 32 (am_br 29 (am_br 2 (am_lf 0 (some (.iload 4, 2, 0)) x) (am_br 28 (am_lf 2 (some (.tableswitch 32 0 2 #[26, 28, 30], 26, 0)) x) (am_lf 28 (some (.iload_n 1, 1, 0)) x) x) x) (am_br 30 (am_lf 29 (some (.ireturn, 1, 0)) x) (am_br 31 (am_lf 30 (some (.iload_n 2, 1, 0)) x) (am_lf 31 (some (.ireturn, 1, 0)) x) x) x) x) (am_br 35 (am_br 33 (am_lf 32 (some (.iload_n 3, 1, 0)) x) (am_br 34 (am_lf 33 (some (.ireturn, 1, 0)) x) (am_lf 34 (some (.aload_n 0, 1, 0)) x) x) x) (am_br 37 (am_br 36 (am_lf 35 (some (.iload_n 1, 1, 0)) x) (am_lf 36 (some (.iload_n 2, 1, 0)) x) x) (am_br 40 (am_lf 37 (some (.invokevirtual 38, 3, 50418)) x) (am_lf 40 (some (.ireturn, 1, 0)) x) x) x) x) x
def am_i_Cloth_fingerprint : Nat → Option (ClassFile.Instr × Nat × Nat) := fun x => am_br 61 (am_br 29 (am_br 14 (am_br 6 (am_br 4 (am_br 3 (am_lf 0 (some (.ldc2_w 57, 3, 70854)) x) (am_lf 3 (some (.lstore_n 1, 1, 0)) x) x) (am_br 5 (am_lf 4 (some (.iconst 0, 1, 0)) x) (am_lf 5 (some (.istore_n 3, 1, 0)) x) x) x) (am_br 8 (am_br 7 (am_lf 6 (some (.iload_n 3, 1, 0)) x) (am_lf 7 (some (.aload_n 0, 1, 0)) x) x) (am_br 11 (am_lf 8 (some (.getfield 9, 3, 90)) x) (am_lf 11 (some (.if_icmp .ge 82, 3, 0)) x) x) x) x) (am_br 20 (am_br 17 (am_br 15 (am_lf 14 (some (.iconst 0, 1, 0)) x) (am_lf 15 (some (.istore 4, 2, 0)) x) x) (am_br 19 (am_lf 17 (some (.iload 4, 2, 0)) x) (am_lf 19 (some (.aload_n 0, 1, 0)) x) x) x) (am_br 26 (am_br 23 (am_lf 20 (some (.getfield 15, 3, 10095)) x) (am_lf 23 (some (.if_icmp .ge 64, 3, 0)) x) x) (am_br 27 (am_lf 26 (some (.iconst 0, 1, 0)) x) (am_lf 27 (some (.istore 5, 2, 0)) x) x) x) x) x) (am_br 42 (am_br 38 (am_br 32 (am_br 31 (am_lf 29 (some (.iload 5, 2, 0)) x) (am_lf 31 (some (.iconst 3, 1, 0)) x) x) (am_br 35 (am_lf 32 (some (.if_icmp .ge 26, 3, 0)) x) (am_lf 35 (some (.ldc2_w 59, 3, 310855)) x) x) x) (am_br 40 (am_br 39 (am_lf 38 (some (.lload_n 1, 1, 0)) x) (am_lf 39 (some (.lmul, 1, 0)) x) x) (am_br 41 (am_lf 40 (some (.aload_n 0, 1, 0)) x) (am_lf 41 (some (.iload_n 3, 1, 0)) x) x) x) x) (am_br 50 (am_br 46 (am_br 44 (am_lf 42 (some (.iload 4, 2, 0)) x) (am_lf 44 (some (.iload 5, 2, 0)) x) x) (am_br 49 (am_lf 46 (some (.invokevirtual 46, 3, 40610)) x) (am_lf 49 (some (.i2l, 1, 0)) x) x) x) (am_br 52 (am_br 51 (am_lf 50 (some (.ladd, 1, 0)) x) (am_lf 51 (some (.lstore_n 1, 1, 0)) x) x) (am_br 55 (am_lf 52 (some (.iinc 5 1, 3, 0)) x) (am_br 58 (am_lf 55 (some (.goto (-26), 3, 0)) x) (am_lf 58 (some (.ldc2_w 59, 3, 310855)) x) x) x) x) x) x) x) (am_br 90 (am_br 74 (am_br 65 (am_br 63 (am_br 62 (am_lf 61 (some (.lload_n 1, 1, 0)) x) (am_lf 62 (some (.lmul, 1, 0)) x) x) (am_br 64 (am_lf 63 (some (.aload_n 0, 1, 0)) x) (am_lf 64 (some (.iload_n 3, 1, 0)) x) x) x) (am_br 70 (am_br 67 (am_lf 65 (some (.iload 4, 2, 0)) x) (am_lf 67 (some (.invokevirtual 61, 3, 60856)) x) x) (am_br 73 (am_lf 70 (some (.ifCond .eq 7, 3, 0)) x) (am_lf 73 (some (.iconst 1, 1, 0)) x) x) x) x) (am_br 80 (am_br 78 (am_br 77 (am_lf 74 (some (.goto 4, 3, 0)) x) (am_lf 77 (some (.iconst 0, 1, 0)) x) x) (am_br 79 (am_lf 78 (some (.i2l, 1, 0)) x) (am_lf 79 (some (.ladd, 1, 0)) x) x) x) (am_br 84 (am_br 81 (am_lf 80 (some (.lstore_n 1, 1, 0)) x) (am_lf 81 (some (.iinc 4 1, 3, 0)) x) x) (am_br 87 (am_lf 84 (some (.goto (-67), 3, 0)) x) (am_lf 87 (some (.iinc 3 1, 3, 0)) x) x) x) x) x) (am_br 104 (am_br 98 (am_br 96 (am_br 93 (am_lf 90 (some (.goto (-84), 3, 0)) x) (am_lf 93 (some (.ldc2_w 59, 3, 310855)) x) x) (am_br 97 (am_lf 96 (some (.lload_n 1, 1, 0)) x) (am_lf 97 (some (.lmul, 1, 0)) x) x) x) (am_br 102 (am_br 99 (am_lf 98 (some (.aload_n 0, 1, 0)) x) (am_lf 99 (some (.getfield 18, 3, 20100)) x) x) (am_br 103 (am_lf 102 (some (.i2l, 1, 0)) x) (am_lf 103 (some (.ladd, 1, 0)) x) x) x) x) (am_br 110 (am_br 108 (am_br 105 (am_lf 104 (some (.lstore_n 1, 1, 0)) x) (am_lf 105 (some (.ldc2_w 59, 3, 310855)) x) x) (am_br 109 (am_lf 108 (some (.lload_n 1, 1, 0)) x) (am_lf 109 (some (.lmul, 1, 0)) x) x) x) (am_br 114 (am_br 111 (am_lf 110 (some (.aload_n 0, 1, 0)) x) (am_lf 111 (some (.getfield 21, 3, 30105)) x) x) (am_br 115 (am_lf 114 (some (.i2l, 1, 0)) x) (am_br 116 (am_lf 115 (some (.ladd, 1, 0)) x) (am_lf 116 (some (.lreturn, 1, 0)) x) x) x) x) x) x) x) x
def am_i_Command_init : Nat → Option (ClassFile.Instr × Nat × Nat) := fun x => am_br 1 (am_lf 0 (some (.aload_n 0, 1, 0)) x) (am_br 4 (am_lf 1 (some (.invokespecial 3, 3, 10000163)) x) (am_lf 4 (some (.return_, 1, 0)) x) x) x
def am_i_Command_fillIn : Nat → Option (ClassFile.Instr × Nat × Nat) := fun x => am_br 15 (am_br 7 (am_br 2 (am_br 1 (am_lf 0 (some (.aload_n 0, 1, 0)) x) (am_lf 1 (some (.iload_n 1, 1, 0)) x) x) (am_br 5 (am_lf 2 (some (.putfield 9, 3, 1000167)) x) (am_br 6 (am_lf 5 (some (.iconst 0, 1, 0)) x) (am_lf 6 (some (.istore_n 3, 1, 0)) x) x) x) x) (am_br 12 (am_br 8 (am_lf 7 (some (.iload_n 3, 1, 0)) x) (am_br 9 (am_lf 8 (some (.iconst 5, 1, 0)) x) (am_lf 9 (some (.if_icmp .ge 27, 3, 0)) x) x) x) (am_br 13 (am_lf 12 (some (.aload_n 0, 1, 0)) x) (am_br 14 (am_lf 13 (some (.iload_n 3, 1, 0)) x) (am_lf 14 (some (.iload_n 3, 1, 0)) x) x) x) x) x) (am_br 23 (am_br 20 (am_br 16 (am_lf 15 (some (.aload_n 2, 1, 0)) x) (am_br 17 (am_lf 16 (some (.arraylength, 1, 0)) x) (am_lf 17 (some (.if_icmp .ge 9, 3, 0)) x) x) x) (am_br 21 (am_lf 20 (some (.aload_n 2, 1, 0)) x) (am_br 22 (am_lf 21 (some (.iload_n 3, 1, 0)) x) (am_lf 22 (some (.iaload, 1, 0)) x) x) x) x) (am_br 30 (am_br 26 (am_lf 23 (some (.goto 4, 3, 0)) x) (am_br 27 (am_lf 26 (some (.iconst 0, 1, 0)) x) (am_lf 27 (some (.invokevirtual 15, 3, 190444)) x) x) x) (am_br 33 (am_lf 30 (some (.iinc 3 1, 3, 0)) x) (am_br 36 (am_lf 33 (some (.goto (-26), 3, 0)) x) (am_lf 36 (some (.return_, 1, 0)) x) x) x) x) x) x
def am_i_Command_put : Nat → Option (ClassFile.Instr × Nat × Nat) := fun x => am_br 49 (am_br 37 (am_br 32 (am_br 1 (am_lf 0 (some (.iload_n 1, 1, 0)) x) (am_lf 1 (some (.tableswitch 63 0 3 #[31, 39, 47, 55], 31, 0)) x) x) (am_br 33 (am_lf 32 (some (.aload_n 0, 1, 0)) x) (am_br 34 (am_lf 33 (some (.iload_n 2, 1, 0)) x) (am_lf 34 (some (.putfield 19, 3, 1010172)) x) x) x) x) (am_br 42 (am_br 40 (am_lf 37 (some (.goto 32, 3, 0)) x) (am_br 41 (am_lf 40 (some (.aload_n 0, 1, 0)) x) (am_lf 41 (some (.iload_n 2, 1, 0)) x) x) x) (am_br 45 (am_lf 42 (some (.putfield 22, 3, 1020176)) x) (am_br 48 (am_lf 45 (some (.goto 24, 3, 0)) x) (am_lf 48 (some (.aload_n 0, 1, 0)) x) x) x) x) x) (am_br 58 (am_br 53 (am_br 50 (am_lf 49 (some (.iload_n 2, 1, 0)) x) (am_lf 50 (some (.putfield 25, 3, 1030180)) x) x) (am_br 56 (am_lf 53 (some (.goto 16, 3, 0)) x) (am_br 57 (am_lf 56 (some (.aload_n 0, 1, 0)) x) (am_lf 57 (some (.iload_n 2, 1, 0)) x) x) x) x) (am_br 65 (am_br 61 (am_lf 58 (some (.putfield 28, 3, 1040183)) x) (am_br 64 (am_lf 61 (some (.goto 8, 3, 0)) x) (am_lf 64 (some (.aload_n 0, 1, 0)) x) x) x) (am_br 66 (am_lf 65 (some (.iload_n 2, 1, 0)) x) (am_br 69 (am_lf 66 (some (.putfield 31, 3, 1050187)) x) (am_lf 69 (some (.return_, 1, 0)) x) x) x) x) x) x
def am_i_Handle_init : Nat → Option (ClassFile.Instr × Nat × Nat) := fun x => am_br 12 (am_br 5 (am_br 1 (am_lf 0 (some (.aload_n 0, 1, 0)) x) (am_br 4 (am_lf 1 (some (.invokespecial 3, 3, 10000620)) x) (am_lf 4 (some (.aload_n 0, 1, 0)) x) x) x) (am_br 8 (am_br 6 (am_lf 5 (some (.iconst 5, 1, 0)) x) (am_lf 6 (some (.newarray .boolean, 2, 10000)) x) x) (am_br 11 (am_lf 8 (some (.putfield 9, 3, 2010622)) x) (am_lf 11 (some (.aload_n 0, 1, 0)) x) x) x) x) (am_br 18 (am_br 13 (am_lf 12 (some (.iconst 5, 1, 0)) x) (am_br 15 (am_lf 13 (some (.newarray .int, 2, 0)) x) (am_lf 15 (some (.putfield 15, 3, 2020623)) x) x) x) (am_br 20 (am_br 19 (am_lf 18 (some (.aload_n 0, 1, 0)) x) (am_lf 19 (some (.iload_n 1, 1, 0)) x) x) (am_br 23 (am_lf 20 (some (.putfield 19, 3, 2000621)) x) (am_lf 23 (some (.return_, 1, 0)) x) x) x) x) x
def am_i_Handle_isBound : Nat → Option (ClassFile.Instr × Nat × Nat) := fun x => am_br 14 (am_br 6 (am_br 4 (am_br 1 (am_lf 0 (some (.iload_n 1, 1, 0)) x) (am_lf 1 (some (.ifCond .lt 25, 3, 0)) x) x) (am_br 5 (am_lf 4 (some (.iload_n 1, 1, 0)) x) (am_lf 5 (some (.aload_n 0, 1, 0)) x) x) x) (am_br 10 (am_br 9 (am_lf 6 (some (.getfield 9, 3, 2010622)) x) (am_lf 9 (some (.arraylength, 1, 0)) x) x) (am_br 13 (am_lf 10 (some (.if_icmp .ge 16, 3, 0)) x) (am_lf 13 (some (.aload_n 0, 1, 0)) x) x) x) x) (am_br 22 (am_br 18 (am_br 17 (am_lf 14 (some (.getfield 9, 3, 2010622)) x) (am_lf 17 (some (.iload_n 1, 1, 0)) x) x) (am_br 19 (am_lf 18 (some (.baload, 1, 0)) x) (am_lf 19 (some (.ifCond .eq 7, 3, 0)) x) x) x) (am_br 26 (am_br 23 (am_lf 22 (some (.iconst 1, 1, 0)) x) (am_lf 23 (some (.goto 4, 3, 0)) x) x) (am_br 27 (am_lf 26 (some (.iconst 0, 1, 0)) x) (am_lf 27 (some (.ireturn, 1, 0)) x) x) x) x) x
def am_i_Handle_withBound : Nat → Option (ClassFile.Instr × Nat × Nat) := fun x => am_br 40 (am_br 18 (am_br 11 (am_br 4 (am_br 3 (am_lf 0 (some (.new 10, 3, 20652)) x) (am_lf 3 (some (.dup, 1, 0)) x) x) (am_br 5 (am_lf 4 (some (.aload_n 0, 1, 0)) x) (am_br 8 (am_lf 5 (some (.getfield 19, 3, 2000621)) x) (am_lf 8 (some (.invokespecial 23, 3, 200653)) x) x) x) x) (am_br 13 (am_br 12 (am_lf 11 (some (.astore_n 3, 1, 0)) x) (am_lf 12 (some (.iconst 0, 1, 0)) x) x) (am_br 15 (am_lf 13 (some (.istore 4, 2, 0)) x) (am_br 17 (am_lf 15 (some (.iload 4, 2, 0)) x) (am_lf 17 (some (.iconst 5, 1, 0)) x) x) x) x) x) (am_br 28 (am_br 22 (am_br 21 (am_lf 18 (some (.if_icmp .ge 61, 3, 0)) x) (am_lf 21 (some (.aload_n 3, 1, 0)) x) x) (am_br 25 (am_lf 22 (some (.getfield 9, 3, 2010622)) x) (am_br 27 (am_lf 25 (some (.iload 4, 2, 0)) x) (am_lf 27 (some (.aload_n 0, 1, 0)) x) x) x) x) (am_br 34 (am_br 31 (am_lf 28 (some (.getfield 9, 3, 2010622)) x) (am_br 33 (am_lf 31 (some (.iload 4, 2, 0)) x) (am_lf 33 (some (.baload, 1, 0)) x) x) x) (am_br 37 (am_lf 34 (some (.ifCond .ne 9, 3, 0)) x) (am_br 39 (am_lf 37 (some (.iload 4, 2, 0)) x) (am_lf 39 (some (.iload_n 1, 1, 0)) x) x) x) x) x) x) (am_br 61 (am_br 49 (am_br 44 (am_br 43 (am_lf 40 (some (.if_icmp .ne 7, 3, 0)) x) (am_lf 43 (some (.iconst 1, 1, 0)) x) x) (am_br 47 (am_lf 44 (some (.goto 4, 3, 0)) x) (am_br 48 (am_lf 47 (some (.iconst 0, 1, 0)) x) (am_lf 48 (some (.bastore, 1, 0)) x) x) x) x) (am_br 55 (am_br 50 (am_lf 49 (some (.aload_n 3, 1, 0)) x) (am_br 53 (am_lf 50 (some (.getfield 15, 3, 2020623)) x) (am_lf 53 (some (.iload 4, 2, 0)) x) x) x) (am_br 57 (am_lf 55 (some (.iload 4, 2, 0)) x) (am_br 58 (am_lf 57 (some (.iload_n 1, 1, 0)) x) (am_lf 58 (some (.if_icmp .ne 7, 3, 0)) x) x) x) x) x) (am_br 71 (am_br 65 (am_br 62 (am_lf 61 (some (.iload_n 2, 1, 0)) x) (am_lf 62 (some (.goto 10, 3, 0)) x) x) (am_br 66 (am_lf 65 (some (.aload_n 0, 1, 0)) x) (am_br 69 (am_lf 66 (some (.getfield 15, 3, 2020623)) x) (am_lf 69 (some (.iload 4, 2, 0)) x) x) x) x) (am_br 76 (am_br 72 (am_lf 71 (some (.iaload, 1, 0)) x) (am_br 73 (am_lf 72 (some (.iastore, 1, 0)) x) (am_lf 73 (some (.iinc 4 1, 3, 0)) x) x) x) (am_br 79 (am_lf 76 (some (.goto (-61), 3, 0)) x) (am_br 80 (am_lf 79 (some (.aload_n 3, 1, 0)) x) (am_lf 80 (some (.areturn, 1, 0)) x) x) x) x) x) x) x
def am_i_Handle_isLike : Nat → Option (ClassFile.Instr × Nat × Nat) := fun x => am_br 35 (am_br 18 (am_br 11 (am_br 4 (am_br 1 (am_lf 0 (some (.aload_n 0, 1, 0)) x) (am_lf 1 (some (.getfield 19, 3, 2000621)) x) x) (am_br 5 (am_lf 4 (some (.aload_n 1, 1, 0)) x) (am_br 8 (am_lf 5 (some (.getfield 19, 3, 2000621)) x) (am_lf 8 (some (.if_icmp .ne 7, 3, 0)) x) x) x) x) (am_br 15 (am_br 12 (am_lf 11 (some (.iconst 1, 1, 0)) x) (am_lf 12 (some (.goto 4, 3, 0)) x) x) (am_br 16 (am_lf 15 (some (.iconst 0, 1, 0)) x) (am_br 17 (am_lf 16 (some (.istore_n 2, 1, 0)) x) (am_lf 17 (some (.iconst 0, 1, 0)) x) x) x) x) x) (am_br 25 (am_br 20 (am_br 19 (am_lf 18 (some (.istore_n 3, 1, 0)) x) (am_lf 19 (some (.iload_n 3, 1, 0)) x) x) (am_br 21 (am_lf 20 (some (.iconst 5, 1, 0)) x) (am_br 24 (am_lf 21 (some (.if_icmp .ge 49, 3, 0)) x) (am_lf 24 (some (.iload_n 2, 1, 0)) x) x) x) x) (am_br 32 (am_br 28 (am_lf 25 (some (.ifCond .eq 37, 3, 0)) x) (am_br 29 (am_lf 28 (some (.aload_n 0, 1, 0)) x) (am_lf 29 (some (.getfield 9, 3, 2010622)) x) x) x) (am_br 33 (am_lf 32 (some (.iload_n 3, 1, 0)) x) (am_br 34 (am_lf 33 (some (.baload, 1, 0)) x) (am_lf 34 (some (.aload_n 1, 1, 0)) x) x) x) x) x) x) (am_br 53 (am_br 44 (am_br 39 (am_br 38 (am_lf 35 (some (.getfield 9, 3, 2010622)) x) (am_lf 38 (some (.iload_n 3, 1, 0)) x) x) (am_br 40 (am_lf 39 (some (.baload, 1, 0)) x) (am_br 43 (am_lf 40 (some (.if_icmp .ne 22, 3, 0)) x) (am_lf 43 (some (.aload_n 0, 1, 0)) x) x) x) x) (am_br 48 (am_br 47 (am_lf 44 (some (.getfield 15, 3, 2020623)) x) (am_lf 47 (some (.iload_n 3, 1, 0)) x) x) (am_br 49 (am_lf 48 (some (.iaload, 1, 0)) x) (am_br 50 (am_lf 49 (some (.aload_n 1, 1, 0)) x) (am_lf 50 (some (.getfield 15, 3, 2020623)) x) x) x) x) x) (am_br 62 (am_br 55 (am_br 54 (am_lf 53 (some (.iload_n 3, 1, 0)) x) (am_lf 54 (some (.iaload, 1, 0)) x) x) (am_br 58 (am_lf 55 (some (.if_icmp .ne 7, 3, 0)) x) (am_br 59 (am_lf 58 (some (.iconst 1, 1, 0)) x) (am_lf 59 (some (.goto 4, 3, 0)) x) x) x) x) (am_br 67 (am_br 63 (am_lf 62 (some (.iconst 0, 1, 0)) x) (am_br 64 (am_lf 63 (some (.istore_n 2, 1, 0)) x) (am_lf 64 (some (.iinc 3 1, 3, 0)) x) x) x) (am_br 70 (am_lf 67 (some (.goto (-48), 3, 0)) x) (am_br 71 (am_lf 70 (some (.iload_n 2, 1, 0)) x) (am_lf 71 (some (.ireturn, 1, 0)) x) x) x) x) x) x) x
def am_i_Handle_fillIn : Nat → Option (ClassFile.Instr × Nat × Nat) := fun x => am_br 36 (am_br 16 (am_br 9 (am_br 2 (am_br 1 (am_lf 0 (some (.aload_n 1, 1, 0)) x) (am_lf 1 (some (.aload_n 0, 1, 0)) x) x) (am_br 5 (am_lf 2 (some (.getfield 19, 3, 2000621)) x) (am_br 8 (am_lf 5 (some (.putfield 26, 3, 1000169)) x) (am_lf 8 (some (.iconst 0, 1, 0)) x) x) x) x) (am_br 11 (am_br 10 (am_lf 9 (some (.istore_n 3, 1, 0)) x) (am_lf 10 (some (.iconst 0, 1, 0)) x) x) (am_br 13 (am_lf 11 (some (.istore 4, 2, 0)) x) (am_br 15 (am_lf 13 (some (.iload 4, 2, 0)) x) (am_lf 15 (some (.iconst 5, 1, 0)) x) x) x) x) x) (am_br 26 (am_br 20 (am_br 19 (am_lf 16 (some (.if_icmp .ge 57, 3, 0)) x) (am_lf 19 (some (.aload_n 0, 1, 0)) x) x) (am_br 23 (am_lf 20 (some (.getfield 9, 3, 2010622)) x) (am_br 25 (am_lf 23 (some (.iload 4, 2, 0)) x) (am_lf 25 (some (.baload, 1, 0)) x) x) x) x) (am_br 30 (am_br 29 (am_lf 26 (some (.ifCond .eq 19, 3, 0)) x) (am_lf 29 (some (.aload_n 1, 1, 0)) x) x) (am_br 32 (am_lf 30 (some (.iload 4, 2, 0)) x) (am_br 33 (am_lf 32 (some (.aload_n 0, 1, 0)) x) (am_lf 33 (some (.getfield 15, 3, 2020623)) x) x) x) x) x) x) (am_br 54 (am_br 46 (am_br 39 (am_br 38 (am_lf 36 (some (.iload 4, 2, 0)) x) (am_lf 38 (some (.iaload, 1, 0)) x) x) (am_br 42 (am_lf 39 (some (.invokevirtual 29, 3, 190670)) x) (am_br 45 (am_lf 42 (some (.goto 25, 3, 0)) x) (am_lf 45 (some (.aload_n 1, 1, 0)) x) x) x) x) (am_br 49 (am_br 48 (am_lf 46 (some (.iload 4, 2, 0)) x) (am_lf 48 (some (.iload_n 3, 1, 0)) x) x) (am_br 50 (am_lf 49 (some (.aload_n 2, 1, 0)) x) (am_br 51 (am_lf 50 (some (.arraylength, 1, 0)) x) (am_lf 51 (some (.if_icmp .ge 9, 3, 0)) x) x) x) x) x) (am_br 61 (am_br 56 (am_br 55 (am_lf 54 (some (.aload_n 2, 1, 0)) x) (am_lf 55 (some (.iload_n 3, 1, 0)) x) x) (am_br 57 (am_lf 56 (some (.iaload, 1, 0)) x) (am_br 60 (am_lf 57 (some (.goto 4, 3, 0)) x) (am_lf 60 (some (.iconst 0, 1, 0)) x) x) x) x) (am_br 67 (am_br 64 (am_lf 61 (some (.invokevirtual 29, 3, 190670)) x) (am_lf 64 (some (.iinc 3 1, 3, 0)) x) x) (am_br 70 (am_lf 67 (some (.iinc 4 1, 3, 0)) x) (am_br 73 (am_lf 70 (some (.goto (-57), 3, 0)) x) (am_lf 73 (some (.return_, 1, 0)) x) x) x) x) x) x) x
def am_i_Looker_init : Nat → Option (ClassFile.Instr × Nat × Nat) := fun x => am_br 5 (am_br 1 (am_lf 0 (some (.aload_n 0, 1, 0)) x) (am_br 4 (am_lf 1 (some (.invokespecial 3, 3, 10000236)) x) (am_lf 4 (some (.aload_n 0, 1, 0)) x) x) x) (am_br 6 (am_lf 5 (some (.aload_n 1, 1, 0)) x) (am_br 9 (am_lf 6 (some (.putfield 9, 3, 3000237)) x) (am_lf 9 (some (.return_, 1, 0)) x) x) x) x
def am_i_Looker_carryOut : Nat → Option (ClassFile.Instr × Nat × Nat) := fun x => am_br 56 (am_br 41 (am_br 36 (am_br 1 (am_lf 0 (some (.aload_n 1, 1, 0)) x) (am_br 4 (am_lf 1 (some (.getfield 15, 3, 1000166)) x) (am_lf 4 (some (.tableswitch 80 9 12 #[32, 40, 51, 65], 32, 0)) x) x) x) (am_br 37 (am_lf 36 (some (.aload_n 0, 1, 0)) x) (am_br 38 (am_lf 37 (some (.aload_n 1, 1, 0)) x) (am_lf 38 (some (.invokevirtual 21, 3, 270571)) x) x) x) x) (am_br 46 (am_br 44 (am_lf 41 (some (.goto 43, 3, 0)) x) (am_br 45 (am_lf 44 (some (.aload_n 0, 1, 0)) x) (am_lf 45 (some (.aload_n 1, 1, 0)) x) x) x) (am_br 52 (am_br 49 (am_lf 46 (some (.getfield 25, 3, 1010170)) x) (am_lf 49 (some (.invokevirtual 28, 3, 290584)) x) x) (am_br 55 (am_lf 52 (some (.goto 32, 3, 0)) x) (am_lf 55 (some (.aload_n 0, 1, 0)) x) x) x) x) x) (am_br 70 (am_br 63 (am_br 59 (am_lf 56 (some (.getfield 9, 3, 3000237)) x) (am_br 60 (am_lf 59 (some (.aload_n 1, 1, 0)) x) (am_lf 60 (some (.getfield 25, 3, 1010170)) x) x) x) (am_br 66 (am_lf 63 (some (.putfield 32, 3, 20101)) x) (am_br 69 (am_lf 66 (some (.goto 18, 3, 0)) x) (am_lf 69 (some (.aload_n 0, 1, 0)) x) x) x) x) (am_br 75 (am_br 71 (am_lf 70 (some (.aload_n 1, 1, 0)) x) (am_br 74 (am_lf 71 (some (.getfield 25, 3, 1010170)) x) (am_lf 74 (some (.aload_n 1, 1, 0)) x) x) x) (am_br 81 (am_br 78 (am_lf 75 (some (.getfield 37, 3, 1020174)) x) (am_lf 78 (some (.invokevirtual 40, 3, 300589)) x) x) (am_br 84 (am_lf 81 (some (.goto 3, 3, 0)) x) (am_lf 84 (some (.return_, 1, 0)) x) x) x) x) x) x
def am_i_Looker_select : Nat → Option (ClassFile.Instr × Nat × Nat) := fun x => am_br 56 (am_br 27 (am_br 13 (am_br 3 (am_br 1 (am_lf 0 (some (.iconst 0, 1, 0)) x) (am_br 2 (am_lf 1 (some (.istore_n 2, 1, 0)) x) (am_lf 2 (some (.iload_n 2, 1, 0)) x) x) x) (am_br 7 (am_br 4 (am_lf 3 (some (.aload_n 0, 1, 0)) x) (am_lf 4 (some (.getfield 9, 3, 3000237)) x) x) (am_br 10 (am_lf 7 (some (.getfield 44, 3, 91)) x) (am_lf 10 (some (.if_icmp .ge 105, 3, 0)) x) x) x) x) (am_br 17 (am_br 15 (am_br 14 (am_lf 13 (some (.iconst 0, 1, 0)) x) (am_lf 14 (some (.istore_n 3, 1, 0)) x) x) (am_br 16 (am_lf 15 (some (.iload_n 3, 1, 0)) x) (am_lf 16 (some (.aload_n 0, 1, 0)) x) x) x) (am_br 23 (am_br 20 (am_lf 17 (some (.getfield 9, 3, 3000237)) x) (am_lf 20 (some (.getfield 47, 3, 10096)) x) x) (am_br 26 (am_lf 23 (some (.if_icmp .ge 86, 3, 0)) x) (am_lf 26 (some (.iload_n 2, 1, 0)) x) x) x) x) x) (am_br 40 (am_br 34 (am_br 28 (am_lf 27 (some (.aload_n 1, 1, 0)) x) (am_br 31 (am_lf 28 (some (.getfield 25, 3, 1010170)) x) (am_lf 31 (some (.if_icmp .lt 41, 3, 0)) x) x) x) (am_br 36 (am_br 35 (am_lf 34 (some (.iload_n 2, 1, 0)) x) (am_lf 35 (some (.aload_n 1, 1, 0)) x) x) (am_br 39 (am_lf 36 (some (.getfield 25, 3, 1010170)) x) (am_lf 39 (some (.isub, 1, 0)) x) x) x) x) (am_br 48 (am_br 44 (am_br 41 (am_lf 40 (some (.aload_n 1, 1, 0)) x) (am_lf 41 (some (.getfield 50, 3, 1030179)) x) x) (am_br 47 (am_lf 44 (some (.if_icmp .ge 28, 3, 0)) x) (am_lf 47 (some (.iload_n 3, 1, 0)) x) x) x) (am_br 52 (am_br 49 (am_lf 48 (some (.aload_n 1, 1, 0)) x) (am_lf 49 (some (.getfield 37, 3, 1020174)) x) x) (am_br 55 (am_lf 52 (some (.if_icmp .lt 20, 3, 0)) x) (am_lf 55 (some (.iload_n 3, 1, 0)) x) x) x) x) x) x) (am_br 82 (am_br 69 (am_br 61 (am_br 57 (am_lf 56 (some (.aload_n 1, 1, 0)) x) (am_br 60 (am_lf 57 (some (.getfield 37, 3, 1020174)) x) (am_lf 60 (some (.isub, 1, 0)) x) x) x) (am_br 65 (am_br 62 (am_lf 61 (some (.aload_n 1, 1, 0)) x) (am_lf 62 (some (.getfield 53, 3, 1040184)) x) x) (am_br 68 (am_lf 65 (some (.if_icmp .ge 7, 3, 0)) x) (am_lf 68 (some (.iconst 1, 1, 0)) x) x) x) x) (am_br 76 (am_br 73 (am_br 72 (am_lf 69 (some (.goto 4, 3, 0)) x) (am_lf 72 (some (.iconst 0, 1, 0)) x) x) (am_br 75 (am_lf 73 (some (.istore 4, 2, 0)) x) (am_lf 75 (some (.aload_n 0, 1, 0)) x) x) x) (am_br 80 (am_br 79 (am_lf 76 (some (.getfield 9, 3, 3000237)) x) (am_lf 79 (some (.iload_n 2, 1, 0)) x) x) (am_br 81 (am_lf 80 (some (.iload_n 3, 1, 0)) x) (am_lf 81 (some (.aload_n 0, 1, 0)) x) x) x) x) x) (am_br 94 (am_br 88 (am_br 83 (am_lf 82 (some (.aload_n 1, 1, 0)) x) (am_br 86 (am_lf 83 (some (.getfield 56, 3, 1050188)) x) (am_lf 86 (some (.iload 4, 2, 0)) x) x) x) (am_br 92 (am_br 89 (am_lf 88 (some (.aload_n 0, 1, 0)) x) (am_lf 89 (some (.getfield 9, 3, 3000237)) x) x) (am_br 93 (am_lf 92 (some (.iload_n 2, 1, 0)) x) (am_lf 93 (some (.iload_n 3, 1, 0)) x) x) x) x) (am_br 106 (am_br 100 (am_br 97 (am_lf 94 (some (.invokevirtual 59, 3, 60575)) x) (am_lf 97 (some (.invokevirtual 63, 3, 280576)) x) x) (am_br 103 (am_lf 100 (some (.invokevirtual 67, 3, 70580)) x) (am_lf 103 (some (.iinc 3 1, 3, 0)) x) x) x) (am_br 112 (am_br 109 (am_lf 106 (some (.goto (-91), 3, 0)) x) (am_lf 109 (some (.iinc 2 1, 3, 0)) x) x) (am_br 115 (am_lf 112 (some (.goto (-110), 3, 0)) x) (am_lf 115 (some (.return_, 1, 0)) x) x) x) x) x) x) x
def am_i_Looker_isKept : Nat → Option (ClassFile.Instr × Nat × Nat) := fun x => am_br 48 (am_br 35 (am_br 29 (am_br 1 (am_lf 0 (some (.iload_n 1, 1, 0)) x) (am_br 28 (am_lf 1 (some (.tableswitch 57 0 2 #[27, 29, 43], 27, 0)) x) (am_lf 28 (some (.iload_n 2, 1, 0)) x) x) x) (am_br 31 (am_br 30 (am_lf 29 (some (.ireturn, 1, 0)) x) (am_lf 30 (some (.iload_n 2, 1, 0)) x) x) (am_br 34 (am_lf 31 (some (.ifCond .ne 7, 3, 0)) x) (am_lf 34 (some (.iload_n 3, 1, 0)) x) x) x) x) (am_br 42 (am_br 38 (am_lf 35 (some (.ifCond .eq 7, 3, 0)) x) (am_br 39 (am_lf 38 (some (.iconst 1, 1, 0)) x) (am_lf 39 (some (.goto 4, 3, 0)) x) x) x) (am_br 44 (am_br 43 (am_lf 42 (some (.iconst 0, 1, 0)) x) (am_lf 43 (some (.ireturn, 1, 0)) x) x) (am_br 45 (am_lf 44 (some (.iload_n 3, 1, 0)) x) (am_lf 45 (some (.ifCond .eq 11, 3, 0)) x) x) x) x) x) (am_br 59 (am_br 53 (am_br 49 (am_lf 48 (some (.iload_n 2, 1, 0)) x) (am_br 52 (am_lf 49 (some (.ifCond .ne 7, 3, 0)) x) (am_lf 52 (some (.iconst 1, 1, 0)) x) x) x) (am_br 57 (am_br 56 (am_lf 53 (some (.goto 4, 3, 0)) x) (am_lf 56 (some (.iconst 0, 1, 0)) x) x) (am_br 58 (am_lf 57 (some (.ireturn, 1, 0)) x) (am_lf 58 (some (.iload_n 3, 1, 0)) x) x) x) x) (am_br 66 (am_br 62 (am_lf 59 (some (.ifCond .eq 11, 3, 0)) x) (am_br 63 (am_lf 62 (some (.iload_n 2, 1, 0)) x) (am_lf 63 (some (.ifCond .eq 7, 3, 0)) x) x) x) (am_br 70 (am_br 67 (am_lf 66 (some (.iconst 1, 1, 0)) x) (am_lf 67 (some (.goto 4, 3, 0)) x) x) (am_br 71 (am_lf 70 (some (.iconst 0, 1, 0)) x) (am_lf 71 (some (.ireturn, 1, 0)) x) x) x) x) x) x
def am_i_Looker_pick : Nat → Option (ClassFile.Instr × Nat × Nat) := fun x => am_br 36 (am_br 16 (am_br 7 (am_br 2 (am_br 1 (am_lf 0 (some (.iconst 0, 1, 0)) x) (am_lf 1 (some (.istore_n 2, 1, 0)) x) x) (am_br 3 (am_lf 2 (some (.iload_n 2, 1, 0)) x) (am_br 4 (am_lf 3 (some (.aload_n 0, 1, 0)) x) (am_lf 4 (some (.getfield 9, 3, 3000237)) x) x) x) x) (am_br 13 (am_br 10 (am_lf 7 (some (.getfield 44, 3, 91)) x) (am_lf 10 (some (.if_icmp .ge 67, 3, 0)) x) x) (am_br 14 (am_lf 13 (some (.iconst 0, 1, 0)) x) (am_br 15 (am_lf 14 (some (.istore_n 3, 1, 0)) x) (am_lf 15 (some (.iload_n 3, 1, 0)) x) x) x) x) x) (am_br 27 (am_br 20 (am_br 17 (am_lf 16 (some (.aload_n 0, 1, 0)) x) (am_lf 17 (some (.getfield 9, 3, 3000237)) x) x) (am_br 23 (am_lf 20 (some (.getfield 47, 3, 10096)) x) (am_br 26 (am_lf 23 (some (.if_icmp .ge 48, 3, 0)) x) (am_lf 26 (some (.aload_n 0, 1, 0)) x) x) x) x) (am_br 31 (am_br 30 (am_lf 27 (some (.getfield 9, 3, 3000237)) x) (am_lf 30 (some (.iload_n 2, 1, 0)) x) x) (am_br 32 (am_lf 31 (some (.iload_n 3, 1, 0)) x) (am_br 33 (am_lf 32 (some (.aload_n 0, 1, 0)) x) (am_lf 33 (some (.getfield 9, 3, 3000237)) x) x) x) x) x) x) (am_br 54 (am_br 45 (am_br 38 (am_br 37 (am_lf 36 (some (.iload_n 2, 1, 0)) x) (am_lf 37 (some (.iload_n 3, 1, 0)) x) x) (am_br 41 (am_lf 38 (some (.invokevirtual 59, 3, 60575)) x) (am_br 44 (am_lf 41 (some (.ifCond .eq 20, 3, 0)) x) (am_lf 44 (some (.aload_n 0, 1, 0)) x) x) x) x) (am_br 49 (am_br 48 (am_lf 45 (some (.getfield 9, 3, 3000237)) x) (am_lf 48 (some (.iload_n 2, 1, 0)) x) x) (am_br 50 (am_lf 49 (some (.iload_n 3, 1, 0)) x) (am_br 53 (am_lf 50 (some (.invokevirtual 71, 3, 50588)) x) (am_lf 53 (some (.iload_n 1, 1, 0)) x) x) x) x) x) (am_br 65 (am_br 58 (am_br 57 (am_lf 54 (some (.if_icmp .ne 7, 3, 0)) x) (am_lf 57 (some (.iconst 1, 1, 0)) x) x) (am_br 61 (am_lf 58 (some (.goto 4, 3, 0)) x) (am_br 62 (am_lf 61 (some (.iconst 0, 1, 0)) x) (am_lf 62 (some (.invokevirtual 67, 3, 70580)) x) x) x) x) (am_br 71 (am_br 68 (am_lf 65 (some (.iinc 3 1, 3, 0)) x) (am_lf 68 (some (.goto (-53), 3, 0)) x) x) (am_br 74 (am_lf 71 (some (.iinc 2 1, 3, 0)) x) (am_br 77 (am_lf 74 (some (.goto (-72), 3, 0)) x) (am_lf 77 (some (.return_, 1, 0)) x) x) x) x) x) x) x
def am_i_Looker_show : Nat → Option (ClassFile.Instr × Nat × Nat) := fun x => am_br 20 (am_br 8 (am_br 3 (am_br 1 (am_lf 0 (some (.iconst 1, 1, 0)) x) (am_br 2 (am_lf 1 (some (.iload_n 1, 1, 0)) x) (am_lf 2 (some (.ishl, 1, 0)) x) x) x) (am_br 4 (am_lf 3 (some (.istore_n 3, 1, 0)) x) (am_br 5 (am_lf 4 (some (.aload_n 0, 1, 0)) x) (am_lf 5 (some (.getfield 9, 3, 3000237)) x) x) x) x) (am_br 13 (am_br 9 (am_lf 8 (some (.iload_n 2, 1, 0)) x) (am_br 10 (am_lf 9 (some (.iconst 1, 1, 0)) x) (am_lf 10 (some (.if_icmp .ne 15, 3, 0)) x) x) x) (am_br 14 (am_lf 13 (some (.aload_n 0, 1, 0)) x) (am_br 17 (am_lf 14 (some (.getfield 9, 3, 3000237)) x) (am_lf 17 (some (.getfield 75, 3, 30107)) x) x) x) x) x) (am_br 32 (am_br 25 (am_br 21 (am_lf 20 (some (.iload_n 3, 1, 0)) x) (am_br 22 (am_lf 21 (some (.ior, 1, 0)) x) (am_lf 22 (some (.goto 14, 3, 0)) x) x) x) (am_br 26 (am_lf 25 (some (.aload_n 0, 1, 0)) x) (am_br 29 (am_lf 26 (some (.getfield 9, 3, 3000237)) x) (am_lf 29 (some (.getfield 75, 3, 30107)) x) x) x) x) (am_br 35 (am_br 33 (am_lf 32 (some (.iload_n 3, 1, 0)) x) (am_br 34 (am_lf 33 (some (.iconst (-1), 1, 0)) x) (am_lf 34 (some (.ixor, 1, 0)) x) x) x) (am_br 36 (am_lf 35 (some (.iand, 1, 0)) x) (am_br 39 (am_lf 36 (some (.putfield 75, 3, 30107)) x) (am_lf 39 (some (.return_, 1, 0)) x) x) x) x) x) x
def am_i_Macro_init : Nat → Option (ClassFile.Instr × Nat × Nat) := fun x => am_br 20 (am_br 9 (am_br 4 (am_br 1 (am_lf 0 (some (.aload_n 0, 1, 0)) x) (am_lf 1 (some (.invokespecial 3, 3, 10000679)) x) x) (am_br 5 (am_lf 4 (some (.aload_n 0, 1, 0)) x) (am_br 6 (am_lf 5 (some (.iconst 0, 1, 0)) x) (am_lf 6 (some (.putfield 9, 3, 4040692)) x) x) x) x) (am_br 15 (am_br 10 (am_lf 9 (some (.aload_n 0, 1, 0)) x) (am_br 12 (am_lf 10 (some (.bipush 8, 2, 0)) x) (am_lf 12 (some (.anewarray 15, 3, 50680)) x) x) x) (am_br 18 (am_lf 15 (some (.putfield 17, 3, 4050694)) x) (am_br 19 (am_lf 18 (some (.aload_n 0, 1, 0)) x) (am_lf 19 (some (.iload_n 1, 1, 0)) x) x) x) x) x) (am_br 29 (am_br 24 (am_br 23 (am_lf 20 (some (.putfield 21, 3, 4000682)) x) (am_lf 23 (some (.aload_n 0, 1, 0)) x) x) (am_br 25 (am_lf 24 (some (.iload_n 2, 1, 0)) x) (am_br 28 (am_lf 25 (some (.putfield 24, 3, 4030689)) x) (am_lf 28 (some (.aload_n 0, 1, 0)) x) x) x) x) (am_br 34 (am_br 30 (am_lf 29 (some (.iload_n 3, 1, 0)) x) (am_br 33 (am_lf 30 (some (.putfield 27, 3, 4010685)) x) (am_lf 33 (some (.aload_n 0, 1, 0)) x) x) x) (am_br 36 (am_lf 34 (some (.iload 4, 2, 0)) x) (am_br 39 (am_lf 36 (some (.putfield 30, 3, 4020687)) x) (am_lf 39 (some (.return_, 1, 0)) x) x) x) x) x) x
def am_i_Macro_isFull : Nat → Option (ClassFile.Instr × Nat × Nat) := fun x => am_br 9 (am_br 4 (am_br 1 (am_lf 0 (some (.aload_n 0, 1, 0)) x) (am_lf 1 (some (.getfield 9, 3, 4040692)) x) x) (am_br 5 (am_lf 4 (some (.aload_n 0, 1, 0)) x) (am_br 8 (am_lf 5 (some (.getfield 17, 3, 4050694)) x) (am_lf 8 (some (.arraylength, 1, 0)) x) x) x) x) (am_br 13 (am_br 12 (am_lf 9 (some (.if_icmp .lt 7, 3, 0)) x) (am_lf 12 (some (.iconst 1, 1, 0)) x) x) (am_br 16 (am_lf 13 (some (.goto 4, 3, 0)) x) (am_br 17 (am_lf 16 (some (.iconst 0, 1, 0)) x) (am_lf 17 (some (.ireturn, 1, 0)) x) x) x) x) x
def am_i_Macro_join : Nat → Option (ClassFile.Instr × Nat × Nat) := fun x => am_br 17 (am_br 8 (am_br 4 (am_br 1 (am_lf 0 (some (.aload_n 0, 1, 0)) x) (am_lf 1 (some (.invokevirtual 33, 3, 320743)) x) x) (am_br 7 (am_lf 4 (some (.ifCond .ne 23, 3, 0)) x) (am_lf 7 (some (.aload_n 0, 1, 0)) x) x) x) (am_br 12 (am_br 11 (am_lf 8 (some (.getfield 17, 3, 4050694)) x) (am_lf 11 (some (.aload_n 0, 1, 0)) x) x) (am_br 15 (am_lf 12 (some (.getfield 9, 3, 4040692)) x) (am_br 16 (am_lf 15 (some (.aload_n 1, 1, 0)) x) (am_lf 16 (some (.aastore, 1, 0)) x) x) x) x) x) (am_br 23 (am_br 19 (am_br 18 (am_lf 17 (some (.aload_n 0, 1, 0)) x) (am_lf 18 (some (.dup, 1, 0)) x) x) (am_br 22 (am_lf 19 (some (.getfield 9, 3, 4040692)) x) (am_lf 22 (some (.iconst 1, 1, 0)) x) x) x) (am_br 27 (am_br 24 (am_lf 23 (some (.iadd, 1, 0)) x) (am_lf 24 (some (.putfield 9, 3, 4040692)) x) x) (am_br 28 (am_lf 27 (some (.aload_n 0, 1, 0)) x) (am_br 31 (am_lf 28 (some (.getfield 9, 3, 4040692)) x) (am_lf 31 (some (.ireturn, 1, 0)) x) x) x) x) x) x
def am_i_Macro_partOf : Nat → Option (ClassFile.Instr × Nat × Nat) := fun x => am_br 13 (am_br 5 (am_br 1 (am_lf 0 (some (.iload_n 1, 1, 0)) x) (am_br 4 (am_lf 1 (some (.ifCond .lt 21, 3, 0)) x) (am_lf 4 (some (.iload_n 1, 1, 0)) x) x) x) (am_br 9 (am_br 6 (am_lf 5 (some (.aload_n 0, 1, 0)) x) (am_lf 6 (some (.getfield 17, 3, 4050694)) x) x) (am_br 10 (am_lf 9 (some (.arraylength, 1, 0)) x) (am_lf 10 (some (.if_icmp .ge 12, 3, 0)) x) x) x) x) (am_br 18 (am_br 14 (am_lf 13 (some (.aload_n 0, 1, 0)) x) (am_br 17 (am_lf 14 (some (.getfield 17, 3, 4050694)) x) (am_lf 17 (some (.iload_n 1, 1, 0)) x) x) x) (am_br 22 (am_br 19 (am_lf 18 (some (.aaload, 1, 0)) x) (am_lf 19 (some (.goto 4, 3, 0)) x) x) (am_br 23 (am_lf 22 (some (.aconst_null, 1, 0)) x) (am_lf 23 (some (.areturn, 1, 0)) x) x) x) x) x
def am_i_Node_init : Nat → Option (ClassFile.Instr × Nat × Nat) := fun x => am_br 12 (am_br 5 (am_br 1 (am_lf 0 (some (.aload_n 0, 1, 0)) x) (am_br 4 (am_lf 1 (some (.invokespecial 3, 3, 10000307)) x) (am_lf 4 (some (.aload_n 0, 1, 0)) x) x) x) (am_br 10 (am_br 7 (am_lf 5 (some (.bipush (-9), 2, 0)) x) (am_lf 7 (some (.putfield 9, 3, 5000310)) x) x) (am_br 11 (am_lf 10 (some (.aload_n 0, 1, 0)) x) (am_lf 11 (some (.iconst 0, 1, 0)) x) x) x) x) (am_br 19 (am_br 15 (am_lf 12 (some (.putfield 15, 3, 5010312)) x) (am_br 16 (am_lf 15 (some (.aload_n 0, 1, 0)) x) (am_lf 16 (some (.new 19, 3, 308)) x) x) x) (am_br 23 (am_br 20 (am_lf 19 (some (.dup, 1, 0)) x) (am_lf 20 (some (.invokespecial 21, 3, 309)) x) x) (am_br 26 (am_lf 23 (some (.putfield 22, 3, 5020314)) x) (am_lf 26 (some (.return_, 1, 0)) x) x) x) x) x
def am_i_Painter_init : Nat → Option (ClassFile.Instr × Nat × Nat) := fun x => am_br 13 (am_br 5 (am_br 1 (am_lf 0 (some (.aload_n 0, 1, 0)) x) (am_br 4 (am_lf 1 (some (.invokespecial 3, 3, 10000208)) x) (am_lf 4 (some (.aload_n 0, 1, 0)) x) x) x) (am_br 9 (am_br 7 (am_lf 5 (some (.bipush 100, 2, 0)) x) (am_lf 7 (some (.newarray .int, 2, 0)) x) x) (am_br 12 (am_lf 9 (some (.putfield 9, 3, 6010210)) x) (am_lf 12 (some (.aload_n 0, 1, 0)) x) x) x) x) (am_br 20 (am_br 15 (am_lf 13 (some (.bipush 100, 2, 0)) x) (am_br 17 (am_lf 15 (some (.newarray .int, 2, 0)) x) (am_lf 17 (some (.putfield 15, 3, 6020211)) x) x) x) (am_br 22 (am_br 21 (am_lf 20 (some (.aload_n 0, 1, 0)) x) (am_lf 21 (some (.aload_n 1, 1, 0)) x) x) (am_br 25 (am_lf 22 (some (.putfield 18, 3, 6000209)) x) (am_lf 25 (some (.return_, 1, 0)) x) x) x) x) x
def am_i_Painter_carryOut : Nat → Option (ClassFile.Instr × Nat × Nat) := fun x => am_br 122 (am_br 84 (am_br 16 (am_br 8 (am_br 4 (am_br 1 (am_lf 0 (some (.aload_n 1, 1, 0)) x) (am_lf 1 (some (.getfield 22, 3, 1000165)) x) x) (am_br 5 (am_lf 4 (some (.iconst 4, 1, 0)) x) (am_lf 5 (some (.if_icmp .lt 11, 3, 0)) x) x) x) (am_br 12 (am_br 9 (am_lf 8 (some (.aload_n 0, 1, 0)) x) (am_lf 9 (some (.invokevirtual 28, 3, 410498)) x) x) (am_br 13 (am_lf 12 (some (.aload_n 0, 1, 0)) x) (am_lf 13 (some (.invokevirtual 31, 3, 420509)) x) x) x) x) (am_br 73 (am_br 20 (am_br 17 (am_lf 16 (some (.aload_n 1, 1, 0)) x) (am_lf 17 (some (.getfield 22, 3, 1000165)) x) x) (am_br 72 (am_lf 20 (some (.tableswitch 176 0 8 #[52, 74, 93, 101, 109, 120, 135, 150, 165], 52, 0)) x) (am_lf 72 (some (.aload_n 0, 1, 0)) x) x) x) (am_br 77 (am_br 76 (am_lf 73 (some (.getfield 18, 3, 6000209)) x) (am_lf 76 (some (.aload_n 1, 1, 0)) x) x) (am_br 80 (am_lf 77 (some (.getfield 34, 3, 1010171)) x) (am_br 81 (am_lf 80 (some (.aload_n 1, 1, 0)) x) (am_lf 81 (some (.getfield 37, 3, 1020175)) x) x) x) x) x) x) (am_br 103 (am_br 94 (am_br 88 (am_br 85 (am_lf 84 (some (.aload_n 1, 1, 0)) x) (am_lf 85 (some (.getfield 40, 3, 1050186)) x) x) (am_br 91 (am_lf 88 (some (.invokevirtual 43, 3, 80514)) x) (am_lf 91 (some (.goto 105, 3, 0)) x) x) x) (am_br 96 (am_br 95 (am_lf 94 (some (.aload_n 0, 1, 0)) x) (am_lf 95 (some (.aload_n 1, 1, 0)) x) x) (am_br 99 (am_lf 96 (some (.getfield 34, 3, 1010171)) x) (am_br 100 (am_lf 99 (some (.aload_n 1, 1, 0)) x) (am_lf 100 (some (.getfield 37, 3, 1020175)) x) x) x) x) x) (am_br 113 (am_br 107 (am_br 104 (am_lf 103 (some (.aload_n 1, 1, 0)) x) (am_lf 104 (some (.getfield 40, 3, 1050186)) x) x) (am_br 110 (am_lf 107 (some (.invokevirtual 49, 3, 380518)) x) (am_lf 110 (some (.goto 86, 3, 0)) x) x) x) (am_br 115 (am_br 114 (am_lf 113 (some (.aload_n 0, 1, 0)) x) (am_lf 114 (some (.aload_n 1, 1, 0)) x) x) (am_br 118 (am_lf 115 (some (.invokevirtual 52, 3, 390526)) x) (am_br 121 (am_lf 118 (some (.goto 78, 3, 0)) x) (am_lf 121 (some (.aload_n 0, 1, 0)) x) x) x) x) x) x) x) (am_br 157 (am_br 140 (am_br 130 (am_br 126 (am_br 123 (am_lf 122 (some (.aload_n 1, 1, 0)) x) (am_lf 123 (some (.invokevirtual 56, 3, 400536)) x) x) (am_br 129 (am_lf 126 (some (.goto 70, 3, 0)) x) (am_lf 129 (some (.aload_n 0, 1, 0)) x) x) x) (am_br 134 (am_br 131 (am_lf 130 (some (.aload_n 1, 1, 0)) x) (am_lf 131 (some (.getfield 34, 3, 1010171)) x) x) (am_br 137 (am_lf 134 (some (.invokevirtual 59, 3, 440540)) x) (am_lf 137 (some (.goto 59, 3, 0)) x) x) x) x) (am_br 146 (am_br 142 (am_br 141 (am_lf 140 (some (.aload_n 0, 1, 0)) x) (am_lf 141 (some (.aload_n 1, 1, 0)) x) x) (am_br 145 (am_lf 142 (some (.getfield 34, 3, 1010171)) x) (am_lf 145 (some (.aload_n 1, 1, 0)) x) x) x) (am_br 152 (am_br 149 (am_lf 146 (some (.getfield 37, 3, 1020175)) x) (am_lf 149 (some (.invokevirtual 63, 3, 450548)) x) x) (am_br 155 (am_lf 152 (some (.goto 44, 3, 0)) x) (am_br 156 (am_lf 155 (some (.aload_n 0, 1, 0)) x) (am_lf 156 (some (.aload_n 1, 1, 0)) x) x) x) x) x) x) (am_br 176 (am_br 167 (am_br 161 (am_br 160 (am_lf 157 (some (.getfield 34, 3, 1010171)) x) (am_lf 160 (some (.aload_n 1, 1, 0)) x) x) (am_br 164 (am_lf 161 (some (.getfield 40, 3, 1050186)) x) (am_lf 164 (some (.invokevirtual 67, 3, 460555)) x) x) x) (am_br 171 (am_br 170 (am_lf 167 (some (.goto 29, 3, 0)) x) (am_lf 170 (some (.aload_n 0, 1, 0)) x) x) (am_br 172 (am_lf 171 (some (.aload_n 1, 1, 0)) x) (am_br 175 (am_lf 172 (some (.getfield 34, 3, 1010171)) x) (am_lf 175 (some (.aload_n 1, 1, 0)) x) x) x) x) x) (am_br 186 (am_br 182 (am_br 179 (am_lf 176 (some (.getfield 37, 3, 1020175)) x) (am_lf 179 (some (.invokevirtual 70, 3, 470559)) x) x) (am_br 185 (am_lf 182 (some (.goto 14, 3, 0)) x) (am_lf 185 (some (.aload_n 0, 1, 0)) x) x) x) (am_br 190 (am_br 187 (am_lf 186 (some (.aload_n 1, 1, 0)) x) (am_lf 187 (some (.getfield 34, 3, 1010171)) x) x) (am_br 193 (am_lf 190 (some (.invokevirtual 73, 3, 480563)) x) (am_br 196 (am_lf 193 (some (.goto 3, 3, 0)) x) (am_lf 196 (some (.return_, 1, 0)) x) x) x) x) x) x) x) x
def am_i_Painter_fill : Nat → Option (ClassFile.Instr × Nat × Nat) := fun x => am_br 110 (am_br 55 (am_br 29 (am_br 13 (am_br 5 (am_br 1 (am_lf 0 (some (.aload_n 0, 1, 0)) x) (am_br 4 (am_lf 1 (some (.getfield 18, 3, 6000209)) x) (am_lf 4 (some (.iload_n 1, 1, 0)) x) x) x) (am_br 7 (am_br 6 (am_lf 5 (some (.iload_n 2, 1, 0)) x) (am_lf 6 (some (.aload_n 0, 1, 0)) x) x) (am_br 10 (am_lf 7 (some (.getfield 18, 3, 6000209)) x) (am_lf 10 (some (.getfield 76, 3, 20102)) x) x) x) x) (am_br 21 (am_br 18 (am_br 16 (am_lf 13 (some (.invokevirtual 79, 3, 40513)) x) (am_lf 16 (some (.istore 4, 2, 0)) x) x) (am_br 20 (am_lf 18 (some (.iload 4, 2, 0)) x) (am_lf 20 (some (.iload_n 3, 1, 0)) x) x) x) (am_br 25 (am_br 24 (am_lf 21 (some (.if_icmp .eq 15, 3, 0)) x) (am_lf 24 (some (.aload_n 0, 1, 0)) x) x) (am_br 28 (am_lf 25 (some (.getfield 18, 3, 6000209)) x) (am_lf 28 (some (.iload_n 1, 1, 0)) x) x) x) x) x) (am_br 42 (am_br 36 (am_br 30 (am_lf 29 (some (.iload_n 2, 1, 0)) x) (am_br 33 (am_lf 30 (some (.invokevirtual 83, 3, 60502)) x) (am_lf 33 (some (.ifCond .ne 4, 3, 0)) x) x) x) (am_br 38 (am_br 37 (am_lf 36 (some (.return_, 1, 0)) x) (am_lf 37 (some (.aload_n 0, 1, 0)) x) x) (am_br 41 (am_lf 38 (some (.getfield 18, 3, 6000209)) x) (am_lf 41 (some (.iload_n 1, 1, 0)) x) x) x) x) (am_br 48 (am_br 44 (am_br 43 (am_lf 42 (some (.iload_n 2, 1, 0)) x) (am_lf 43 (some (.iload_n 3, 1, 0)) x) x) (am_br 47 (am_lf 44 (some (.invokevirtual 43, 3, 80514)) x) (am_lf 47 (some (.aload_n 0, 1, 0)) x) x) x) (am_br 52 (am_br 51 (am_lf 48 (some (.getfield 15, 3, 6020211)) x) (am_lf 51 (some (.iconst 0, 1, 0)) x) x) (am_br 53 (am_lf 52 (some (.iload_n 1, 1, 0)) x) (am_lf 53 (some (.bipush 10, 2, 0)) x) x) x) x) x) x) (am_br 79 (am_br 63 (am_br 58 (am_br 56 (am_lf 55 (some (.imul, 1, 0)) x) (am_br 57 (am_lf 56 (some (.iload_n 2, 1, 0)) x) (am_lf 57 (some (.iadd, 1, 0)) x) x) x) (am_br 60 (am_br 59 (am_lf 58 (some (.iastore, 1, 0)) x) (am_lf 59 (some (.iconst 1, 1, 0)) x) x) (am_br 62 (am_lf 60 (some (.istore 5, 2, 0)) x) (am_lf 62 (some (.iconst 0, 1, 0)) x) x) x) x) (am_br 72 (am_br 67 (am_br 65 (am_lf 63 (some (.istore 6, 2, 0)) x) (am_lf 65 (some (.iload 6, 2, 0)) x) x) (am_br 69 (am_lf 67 (some (.iload 5, 2, 0)) x) (am_lf 69 (some (.if_icmp .ge 164, 3, 0)) x) x) x) (am_br 75 (am_br 74 (am_lf 72 (some (.iload 6, 2, 0)) x) (am_lf 74 (some (.aload_n 0, 1, 0)) x) x) (am_br 78 (am_lf 75 (some (.getfield 15, 3, 6020211)) x) (am_lf 78 (some (.arraylength, 1, 0)) x) x) x) x) x) (am_br 95 (am_br 87 (am_br 83 (am_br 82 (am_lf 79 (some (.if_icmp .ge 154, 3, 0)) x) (am_lf 82 (some (.iconst 0, 1, 0)) x) x) (am_br 85 (am_lf 83 (some (.istore 7, 2, 0)) x) (am_lf 85 (some (.iload 7, 2, 0)) x) x) x) (am_br 91 (am_br 90 (am_lf 87 (some (.getstatic 87, 3, 30522)) x) (am_lf 90 (some (.arraylength, 1, 0)) x) x) (am_br 94 (am_lf 91 (some (.if_icmp .ge 136, 3, 0)) x) (am_lf 94 (some (.aload_n 0, 1, 0)) x) x) x) x) (am_br 103 (am_br 100 (am_br 98 (am_lf 95 (some (.getfield 15, 3, 6020211)) x) (am_lf 98 (some (.iload 6, 2, 0)) x) x) (am_br 101 (am_lf 100 (some (.iaload, 1, 0)) x) (am_lf 101 (some (.bipush 10, 2, 0)) x) x) x) (am_br 107 (am_br 104 (am_lf 103 (some (.idiv, 1, 0)) x) (am_lf 104 (some (.getstatic 87, 3, 30522)) x) x) (am_br 109 (am_lf 107 (some (.iload 7, 2, 0)) x) (am_lf 109 (some (.iaload, 1, 0)) x) x) x) x) x) x) x) (am_br 170 (am_br 136 (am_br 122 (am_br 114 (am_br 111 (am_lf 110 (some (.iadd, 1, 0)) x) (am_br 113 (am_lf 111 (some (.istore 8, 2, 0)) x) (am_lf 113 (some (.aload_n 0, 1, 0)) x) x) x) (am_br 119 (am_br 117 (am_lf 114 (some (.getfield 15, 3, 6020211)) x) (am_lf 117 (some (.iload 6, 2, 0)) x) x) (am_br 120 (am_lf 119 (some (.iaload, 1, 0)) x) (am_lf 120 (some (.bipush 10, 2, 0)) x) x) x) x) (am_br 129 (am_br 126 (am_br 123 (am_lf 122 (some (.irem, 1, 0)) x) (am_lf 123 (some (.getstatic 90, 3, 40524)) x) x) (am_br 128 (am_lf 126 (some (.iload 7, 2, 0)) x) (am_lf 128 (some (.iaload, 1, 0)) x) x) x) (am_br 132 (am_br 130 (am_lf 129 (some (.iadd, 1, 0)) x) (am_lf 130 (some (.istore 9, 2, 0)) x) x) (am_br 133 (am_lf 132 (some (.aload_n 0, 1, 0)) x) (am_lf 133 (some (.getfield 18, 3, 6000209)) x) x) x) x) x) (am_br 152 (am_br 143 (am_br 138 (am_lf 136 (some (.iload 8, 2, 0)) x) (am_br 140 (am_lf 138 (some (.iload 9, 2, 0)) x) (am_lf 140 (some (.invokevirtual 83, 3, 60502)) x) x) x) (am_br 147 (am_br 146 (am_lf 143 (some (.ifCond .eq 30, 3, 0)) x) (am_lf 146 (some (.aload_n 0, 1, 0)) x) x) (am_br 150 (am_lf 147 (some (.getfield 18, 3, 6000209)) x) (am_lf 150 (some (.iload 8, 2, 0)) x) x) x) x) (am_br 161 (am_br 155 (am_br 154 (am_lf 152 (some (.iload 9, 2, 0)) x) (am_lf 154 (some (.aload_n 0, 1, 0)) x) x) (am_br 158 (am_lf 155 (some (.getfield 18, 3, 6000209)) x) (am_lf 158 (some (.getfield 76, 3, 20102)) x) x) x) (am_br 166 (am_br 164 (am_lf 161 (some (.invokevirtual 79, 3, 40513)) x) (am_lf 164 (some (.iload 4, 2, 0)) x) x) (am_br 169 (am_lf 166 (some (.if_icmp .ne 7, 3, 0)) x) (am_lf 169 (some (.iconst 1, 1, 0)) x) x) x) x) x) x) (am_br 200 (am_br 184 (am_br 176 (am_br 173 (am_lf 170 (some (.goto 4, 3, 0)) x) (am_br 174 (am_lf 173 (some (.iconst 0, 1, 0)) x) (am_lf 174 (some (.istore 10, 2, 0)) x) x) x) (am_br 181 (am_br 178 (am_lf 176 (some (.iload 10, 2, 0)) x) (am_lf 178 (some (.ifCond .eq 43, 3, 0)) x) x) (am_br 183 (am_lf 181 (some (.iload 5, 2, 0)) x) (am_lf 183 (some (.aload_n 0, 1, 0)) x) x) x) x) (am_br 192 (am_br 188 (am_br 187 (am_lf 184 (some (.getfield 15, 3, 6020211)) x) (am_lf 187 (some (.arraylength, 1, 0)) x) x) (am_br 191 (am_lf 188 (some (.if_icmp .ge 33, 3, 0)) x) (am_lf 191 (some (.aload_n 0, 1, 0)) x) x) x) (am_br 197 (am_br 195 (am_lf 192 (some (.getfield 18, 3, 6000209)) x) (am_lf 195 (some (.iload 8, 2, 0)) x) x) (am_br 199 (am_lf 197 (some (.iload 9, 2, 0)) x) (am_lf 199 (some (.iload_n 3, 1, 0)) x) x) x) x) x) (am_br 216 (am_br 209 (am_br 204 (am_br 203 (am_lf 200 (some (.invokevirtual 43, 3, 80514)) x) (am_lf 203 (some (.aload_n 0, 1, 0)) x) x) (am_br 207 (am_lf 204 (some (.getfield 15, 3, 6020211)) x) (am_lf 207 (some (.iload 5, 2, 0)) x) x) x) (am_br 213 (am_br 211 (am_lf 209 (some (.iload 8, 2, 0)) x) (am_lf 211 (some (.bipush 10, 2, 0)) x) x) (am_br 214 (am_lf 213 (some (.imul, 1, 0)) x) (am_lf 214 (some (.iload 9, 2, 0)) x) x) x) x) (am_br 224 (am_br 218 (am_br 217 (am_lf 216 (some (.iadd, 1, 0)) x) (am_lf 217 (some (.iastore, 1, 0)) x) x) (am_br 221 (am_lf 218 (some (.iinc 5 1, 3, 0)) x) (am_lf 221 (some (.iinc 7 1, 3, 0)) x) x) x) (am_br 230 (am_br 227 (am_lf 224 (some (.goto (-139), 3, 0)) x) (am_lf 227 (some (.iinc 6 1, 3, 0)) x) x) (am_br 233 (am_lf 230 (some (.goto (-165), 3, 0)) x) (am_lf 233 (some (.return_, 1, 0)) x) x) x) x) x) x) x) x
def am_i_Painter_line : Nat → Option (ClassFile.Instr × Nat × Nat) := fun x => am_br 76 (am_br 35 (am_br 15 (am_br 8 (am_br 4 (am_br 1 (am_lf 0 (some (.aload_n 1, 1, 0)) x) (am_lf 1 (some (.getfield 93, 3, 1030181)) x) x) (am_br 5 (am_lf 4 (some (.aload_n 1, 1, 0)) x) (am_lf 5 (some (.getfield 34, 3, 1010171)) x) x) x) (am_br 10 (am_br 9 (am_lf 8 (some (.isub, 1, 0)) x) (am_lf 9 (some (.istore_n 2, 1, 0)) x) x) (am_br 11 (am_lf 10 (some (.aload_n 1, 1, 0)) x) (am_br 14 (am_lf 11 (some (.getfield 96, 3, 1040185)) x) (am_lf 14 (some (.aload_n 1, 1, 0)) x) x) x) x) x) (am_br 24 (am_br 19 (am_br 18 (am_lf 15 (some (.getfield 37, 3, 1020175)) x) (am_lf 18 (some (.isub, 1, 0)) x) x) (am_br 20 (am_lf 19 (some (.istore_n 3, 1, 0)) x) (am_br 21 (am_lf 20 (some (.iload_n 2, 1, 0)) x) (am_lf 21 (some (.invokestatic 99, 3, 1700530)) x) x) x) x) (am_br 28 (am_br 25 (am_lf 24 (some (.iload_n 3, 1, 0)) x) (am_lf 25 (some (.invokestatic 99, 3, 1700530)) x) x) (am_br 31 (am_lf 28 (some (.invokestatic 105, 3, 1710506)) x) (am_br 33 (am_lf 31 (some (.istore 4, 2, 0)) x) (am_lf 33 (some (.iload 4, 2, 0)) x) x) x) x) x) x) (am_br 57 (am_br 46 (am_br 39 (am_br 38 (am_lf 35 (some (.ifCond .ne 23, 3, 0)) x) (am_lf 38 (some (.aload_n 0, 1, 0)) x) x) (am_br 42 (am_lf 39 (some (.getfield 18, 3, 6000209)) x) (am_br 43 (am_lf 42 (some (.aload_n 1, 1, 0)) x) (am_lf 43 (some (.getfield 34, 3, 1010171)) x) x) x) x) (am_br 50 (am_br 47 (am_lf 46 (some (.aload_n 1, 1, 0)) x) (am_lf 47 (some (.getfield 37, 3, 1020175)) x) x) (am_br 51 (am_lf 50 (some (.aload_n 1, 1, 0)) x) (am_br 54 (am_lf 51 (some (.getfield 40, 3, 1050186)) x) (am_lf 54 (some (.invokevirtual 43, 3, 80514)) x) x) x) x) x) (am_br 65 (am_br 59 (am_br 58 (am_lf 57 (some (.return_, 1, 0)) x) (am_lf 58 (some (.iconst 0, 1, 0)) x) x) (am_br 61 (am_lf 59 (some (.istore 5, 2, 0)) x) (am_br 63 (am_lf 61 (some (.iload 5, 2, 0)) x) (am_lf 63 (some (.iload 4, 2, 0)) x) x) x) x) (am_br 70 (am_br 68 (am_lf 65 (some (.if_icmp .gt 77, 3, 0)) x) (am_lf 68 (some (.iload 5, 2, 0)) x) x) (am_br 72 (am_lf 70 (some (.bipush 10, 2, 0)) x) (am_br 75 (am_lf 72 (some (.if_icmp .ge 70, 3, 0)) x) (am_lf 75 (some (.aload_n 1, 1, 0)) x) x) x) x) x) x) x) (am_br 106 (am_br 89 (am_br 83 (am_br 80 (am_br 79 (am_lf 76 (some (.getfield 34, 3, 1010171)) x) (am_lf 79 (some (.iconst 2, 1, 0)) x) x) (am_br 82 (am_lf 80 (some (.iload 5, 2, 0)) x) (am_lf 82 (some (.imul, 1, 0)) x) x) x) (am_br 85 (am_br 84 (am_lf 83 (some (.iload_n 2, 1, 0)) x) (am_lf 84 (some (.imul, 1, 0)) x) x) (am_br 87 (am_lf 85 (some (.iload 4, 2, 0)) x) (am_br 88 (am_lf 87 (some (.iadd, 1, 0)) x) (am_lf 88 (some (.iconst 2, 1, 0)) x) x) x) x) x) (am_br 98 (am_br 92 (am_br 91 (am_lf 89 (some (.iload 4, 2, 0)) x) (am_lf 91 (some (.imul, 1, 0)) x) x) (am_br 95 (am_lf 92 (some (.invokestatic 109, 3, 1680533)) x) (am_br 96 (am_lf 95 (some (.iadd, 1, 0)) x) (am_lf 96 (some (.istore 6, 2, 0)) x) x) x) x) (am_br 102 (am_br 99 (am_lf 98 (some (.aload_n 1, 1, 0)) x) (am_lf 99 (some (.getfield 37, 3, 1020175)) x) x) (am_br 103 (am_lf 102 (some (.iconst 2, 1, 0)) x) (am_br 105 (am_lf 103 (some (.iload 5, 2, 0)) x) (am_lf 105 (some (.imul, 1, 0)) x) x) x) x) x) x) (am_br 121 (am_br 112 (am_br 108 (am_br 107 (am_lf 106 (some (.iload_n 3, 1, 0)) x) (am_lf 107 (some (.imul, 1, 0)) x) x) (am_br 110 (am_lf 108 (some (.iload 4, 2, 0)) x) (am_br 111 (am_lf 110 (some (.iadd, 1, 0)) x) (am_lf 111 (some (.iconst 2, 1, 0)) x) x) x) x) (am_br 115 (am_br 114 (am_lf 112 (some (.iload 4, 2, 0)) x) (am_lf 114 (some (.imul, 1, 0)) x) x) (am_br 118 (am_lf 115 (some (.invokestatic 109, 3, 1680533)) x) (am_br 119 (am_lf 118 (some (.iadd, 1, 0)) x) (am_lf 119 (some (.istore 7, 2, 0)) x) x) x) x) x) (am_br 130 (am_br 125 (am_br 122 (am_lf 121 (some (.aload_n 0, 1, 0)) x) (am_lf 122 (some (.getfield 18, 3, 6000209)) x) x) (am_br 127 (am_lf 125 (some (.iload 6, 2, 0)) x) (am_br 129 (am_lf 127 (some (.iload 7, 2, 0)) x) (am_lf 129 (some (.aload_n 1, 1, 0)) x) x) x) x) (am_br 136 (am_br 133 (am_lf 130 (some (.getfield 40, 3, 1050186)) x) (am_lf 133 (some (.invokevirtual 43, 3, 80514)) x) x) (am_br 139 (am_lf 136 (some (.iinc 5 1, 3, 0)) x) (am_br 142 (am_lf 139 (some (.goto (-78), 3, 0)) x) (am_lf 142 (some (.return_, 1, 0)) x) x) x) x) x) x) x) x
def am_i_Painter_stamp : Nat → Option (ClassFile.Instr × Nat × Nat) := fun x => am_br 53 (am_br 22 (am_br 11 (am_br 5 (am_br 2 (am_br 1 (am_lf 0 (some (.iconst 0, 1, 0)) x) (am_lf 1 (some (.istore_n 2, 1, 0)) x) x) (am_br 3 (am_lf 2 (some (.iload_n 2, 1, 0)) x) (am_lf 3 (some (.bipush 9, 2, 0)) x) x) x) (am_br 9 (am_br 8 (am_lf 5 (some (.if_icmp .ge 104, 3, 0)) x) (am_lf 8 (some (.iload_n 2, 1, 0)) x) x) (am_br 10 (am_lf 9 (some (.iconst 3, 1, 0)) x) (am_lf 10 (some (.idiv, 1, 0)) x) x) x) x) (am_br 15 (am_br 13 (am_br 12 (am_lf 11 (some (.istore_n 3, 1, 0)) x) (am_lf 12 (some (.iload_n 2, 1, 0)) x) x) (am_br 14 (am_lf 13 (some (.iconst 3, 1, 0)) x) (am_lf 14 (some (.irem, 1, 0)) x) x) x) (am_br 18 (am_br 17 (am_lf 15 (some (.istore 4, 2, 0)) x) (am_lf 17 (some (.iconst 0, 1, 0)) x) x) (am_br 20 (am_lf 18 (some (.istore 5, 2, 0)) x) (am_lf 20 (some (.iload 5, 2, 0)) x) x) x) x) x) (am_br 36 (am_br 28 (am_br 26 (am_br 23 (am_lf 22 (some (.aload_n 1, 1, 0)) x) (am_lf 23 (some (.getfield 96, 3, 1040185)) x) x) (am_br 27 (am_lf 26 (some (.iconst 3, 1, 0)) x) (am_lf 27 (some (.iand, 1, 0)) x) x) x) (am_br 32 (am_br 31 (am_lf 28 (some (.if_icmp .ge 21, 3, 0)) x) (am_lf 31 (some (.iload_n 3, 1, 0)) x) x) (am_br 34 (am_lf 32 (some (.istore 6, 2, 0)) x) (am_lf 34 (some (.iload 4, 2, 0)) x) x) x) x) (am_br 41 (am_br 38 (am_br 37 (am_lf 36 (some (.istore_n 3, 1, 0)) x) (am_lf 37 (some (.iconst 2, 1, 0)) x) x) (am_br 40 (am_lf 38 (some (.iload 6, 2, 0)) x) (am_lf 40 (some (.isub, 1, 0)) x) x) x) (am_br 46 (am_br 43 (am_lf 41 (some (.istore 4, 2, 0)) x) (am_lf 43 (some (.iinc 5 1, 3, 0)) x) x) (am_br 49 (am_lf 46 (some (.goto (-26), 3, 0)) x) (am_br 50 (am_lf 49 (some (.aload_n 1, 1, 0)) x) (am_lf 50 (some (.getfield 96, 3, 1040185)) x) x) x) x) x) x) x) (am_br 80 (am_br 67 (am_br 60 (am_br 57 (am_br 54 (am_lf 53 (some (.iconst 4, 1, 0)) x) (am_lf 54 (some (.if_icmp .lt 9, 3, 0)) x) x) (am_br 58 (am_lf 57 (some (.iconst 2, 1, 0)) x) (am_lf 58 (some (.iload 4, 2, 0)) x) x) x) (am_br 63 (am_br 61 (am_lf 60 (some (.isub, 1, 0)) x) (am_lf 61 (some (.istore 4, 2, 0)) x) x) (am_br 64 (am_lf 63 (some (.aload_n 1, 1, 0)) x) (am_lf 64 (some (.getfield 93, 3, 1030181)) x) x) x) x) (am_br 71 (am_br 69 (am_br 68 (am_lf 67 (some (.iload_n 2, 1, 0)) x) (am_lf 68 (some (.ishr, 1, 0)) x) x) (am_br 70 (am_lf 69 (some (.iconst 1, 1, 0)) x) (am_lf 70 (some (.iand, 1, 0)) x) x) x) (am_br 75 (am_br 72 (am_lf 71 (some (.iconst 1, 1, 0)) x) (am_lf 72 (some (.if_icmp .ne 31, 3, 0)) x) x) (am_br 76 (am_lf 75 (some (.aload_n 0, 1, 0)) x) (am_br 79 (am_lf 76 (some (.getfield 18, 3, 6000209)) x) (am_lf 79 (some (.aload_n 1, 1, 0)) x) x) x) x) x) x) (am_br 92 (am_br 86 (am_br 84 (am_br 83 (am_lf 80 (some (.getfield 34, 3, 1010171)) x) (am_lf 83 (some (.iconst 1, 1, 0)) x) x) (am_br 85 (am_lf 84 (some (.isub, 1, 0)) x) (am_lf 85 (some (.iload_n 3, 1, 0)) x) x) x) (am_br 88 (am_br 87 (am_lf 86 (some (.iadd, 1, 0)) x) (am_lf 87 (some (.aload_n 1, 1, 0)) x) x) (am_br 91 (am_lf 88 (some (.getfield 37, 3, 1020175)) x) (am_lf 91 (some (.iconst 1, 1, 0)) x) x) x) x) (am_br 97 (am_br 95 (am_br 93 (am_lf 92 (some (.isub, 1, 0)) x) (am_lf 93 (some (.iload 4, 2, 0)) x) x) (am_br 96 (am_lf 95 (some (.iadd, 1, 0)) x) (am_lf 96 (some (.aload_n 1, 1, 0)) x) x) x) (am_br 103 (am_br 100 (am_lf 97 (some (.getfield 40, 3, 1050186)) x) (am_lf 100 (some (.invokevirtual 43, 3, 80514)) x) x) (am_br 106 (am_lf 103 (some (.iinc 2 1, 3, 0)) x) (am_br 109 (am_lf 106 (some (.goto (-104), 3, 0)) x) (am_lf 109 (some (.return_, 1, 0)) x) x) x) x) x) x) x) x
def am_i_Painter_measureBox : Nat → Option (ClassFile.Instr × Nat × Nat) := fun x => am_br 54 (am_br 25 (am_br 13 (am_br 6 (am_br 1 (am_lf 0 (some (.aload_n 0, 1, 0)) x) (am_br 3 (am_lf 1 (some (.bipush 10, 2, 0)) x) (am_lf 3 (some (.putfield 112, 3, 6030212)) x) x) x) (am_br 9 (am_br 7 (am_lf 6 (some (.aload_n 0, 1, 0)) x) (am_lf 7 (some (.bipush 10, 2, 0)) x) x) (am_br 12 (am_lf 9 (some (.putfield 115, 3, 6040213)) x) (am_lf 12 (some (.aload_n 0, 1, 0)) x) x) x) x) (am_br 19 (am_br 17 (am_br 14 (am_lf 13 (some (.iconst (-1), 1, 0)) x) (am_lf 14 (some (.putfield 118, 3, 6050214)) x) x) (am_br 18 (am_lf 17 (some (.aload_n 0, 1, 0)) x) (am_lf 18 (some (.iconst (-1), 1, 0)) x) x) x) (am_br 23 (am_br 22 (am_lf 19 (some (.putfield 121, 3, 6060215)) x) (am_lf 22 (some (.iconst 0, 1, 0)) x) x) (am_br 24 (am_lf 23 (some (.istore_n 1, 1, 0)) x) (am_lf 24 (some (.iload_n 1, 1, 0)) x) x) x) x) x) (am_br 38 (am_br 32 (am_br 26 (am_lf 25 (some (.aload_n 0, 1, 0)) x) (am_br 29 (am_lf 26 (some (.getfield 18, 3, 6000209)) x) (am_lf 29 (some (.getfield 124, 3, 93)) x) x) x) (am_br 36 (am_br 35 (am_lf 32 (some (.if_icmp .ge 88, 3, 0)) x) (am_lf 35 (some (.iconst 0, 1, 0)) x) x) (am_br 37 (am_lf 36 (some (.istore_n 2, 1, 0)) x) (am_lf 37 (some (.iload_n 2, 1, 0)) x) x) x) x) (am_br 48 (am_br 42 (am_br 39 (am_lf 38 (some (.aload_n 0, 1, 0)) x) (am_lf 39 (some (.getfield 18, 3, 6000209)) x) x) (am_br 45 (am_lf 42 (some (.getfield 127, 3, 10098)) x) (am_lf 45 (some (.if_icmp .ge 69, 3, 0)) x) x) x) (am_br 52 (am_br 49 (am_lf 48 (some (.aload_n 0, 1, 0)) x) (am_lf 49 (some (.getfield 18, 3, 6000209)) x) x) (am_br 53 (am_lf 52 (some (.iload_n 1, 1, 0)) x) (am_lf 53 (some (.iload_n 2, 1, 0)) x) x) x) x) x) x) (am_br 85 (am_br 69 (am_br 61 (am_br 57 (am_lf 54 (some (.invokevirtual 83, 3, 60502)) x) (am_br 60 (am_lf 57 (some (.ifCond .eq 51, 3, 0)) x) (am_lf 60 (some (.aload_n 0, 1, 0)) x) x) x) (am_br 65 (am_br 62 (am_lf 61 (some (.aload_n 0, 1, 0)) x) (am_lf 62 (some (.getfield 112, 3, 6030212)) x) x) (am_br 66 (am_lf 65 (some (.iload_n 1, 1, 0)) x) (am_lf 66 (some (.invokestatic 130, 3, 1720503)) x) x) x) x) (am_br 77 (am_br 73 (am_br 72 (am_lf 69 (some (.putfield 112, 3, 6030212)) x) (am_lf 72 (some (.aload_n 0, 1, 0)) x) x) (am_br 74 (am_lf 73 (some (.aload_n 0, 1, 0)) x) (am_lf 74 (some (.getfield 115, 3, 6040213)) x) x) x) (am_br 81 (am_br 78 (am_lf 77 (some (.iload_n 2, 1, 0)) x) (am_lf 78 (some (.invokestatic 130, 3, 1720503)) x) x) (am_br 84 (am_lf 81 (some (.putfield 115, 3, 6040213)) x) (am_lf 84 (some (.aload_n 0, 1, 0)) x) x) x) x) x) (am_br 101 (am_br 93 (am_br 89 (am_br 86 (am_lf 85 (some (.aload_n 0, 1, 0)) x) (am_lf 86 (some (.getfield 118, 3, 6050214)) x) x) (am_br 90 (am_lf 89 (some (.iload_n 1, 1, 0)) x) (am_lf 90 (some (.invokestatic 105, 3, 1710506)) x) x) x) (am_br 97 (am_br 96 (am_lf 93 (some (.putfield 118, 3, 6050214)) x) (am_lf 96 (some (.aload_n 0, 1, 0)) x) x) (am_br 98 (am_lf 97 (some (.aload_n 0, 1, 0)) x) (am_lf 98 (some (.getfield 121, 3, 6060215)) x) x) x) x) (am_br 111 (am_br 105 (am_br 102 (am_lf 101 (some (.iload_n 2, 1, 0)) x) (am_lf 102 (some (.invokestatic 105, 3, 1710506)) x) x) (am_br 108 (am_lf 105 (some (.putfield 121, 3, 6060215)) x) (am_lf 108 (some (.iinc 2 1, 3, 0)) x) x) x) (am_br 117 (am_br 114 (am_lf 111 (some (.goto (-74), 3, 0)) x) (am_lf 114 (some (.iinc 1 1, 3, 0)) x) x) (am_br 120 (am_lf 117 (some (.goto (-93), 3, 0)) x) (am_lf 120 (some (.return_, 1, 0)) x) x) x) x) x) x) x
def am_i_Painter_keepBefore : Nat → Option (ClassFile.Instr × Nat × Nat) := fun x => am_br 21 (am_br 8 (am_br 3 (am_br 1 (am_lf 0 (some (.iconst 0, 1, 0)) x) (am_br 2 (am_lf 1 (some (.istore_n 1, 1, 0)) x) (am_lf 2 (some (.iload_n 1, 1, 0)) x) x) x) (am_br 4 (am_lf 3 (some (.aload_n 0, 1, 0)) x) (am_br 7 (am_lf 4 (some (.getfield 9, 3, 6010210)) x) (am_lf 7 (some (.arraylength, 1, 0)) x) x) x) x) (am_br 15 (am_br 11 (am_lf 8 (some (.if_icmp .ge 37, 3, 0)) x) (am_br 12 (am_lf 11 (some (.aload_n 0, 1, 0)) x) (am_lf 12 (some (.getfield 9, 3, 6010210)) x) x) x) (am_br 17 (am_br 16 (am_lf 15 (some (.iload_n 1, 1, 0)) x) (am_lf 16 (some (.aload_n 0, 1, 0)) x) x) (am_br 20 (am_lf 17 (some (.getfield 18, 3, 6000209)) x) (am_lf 20 (some (.iload_n 1, 1, 0)) x) x) x) x) x) (am_br 29 (am_br 25 (am_br 23 (am_lf 21 (some (.bipush 10, 2, 0)) x) (am_br 24 (am_lf 23 (some (.idiv, 1, 0)) x) (am_lf 24 (some (.iload_n 1, 1, 0)) x) x) x) (am_br 27 (am_lf 25 (some (.bipush 10, 2, 0)) x) (am_br 28 (am_lf 27 (some (.irem, 1, 0)) x) (am_lf 28 (some (.aload_n 0, 1, 0)) x) x) x) x) (am_br 38 (am_br 32 (am_lf 29 (some (.getfield 18, 3, 6000209)) x) (am_br 35 (am_lf 32 (some (.getfield 76, 3, 20102)) x) (am_lf 35 (some (.invokevirtual 79, 3, 40513)) x) x) x) (am_br 42 (am_br 39 (am_lf 38 (some (.iastore, 1, 0)) x) (am_lf 39 (some (.iinc 1 1, 3, 0)) x) x) (am_br 45 (am_lf 42 (some (.goto (-40), 3, 0)) x) (am_lf 45 (some (.return_, 1, 0)) x) x) x) x) x) x
def am_i_Painter_woolBefore : Nat → Option (ClassFile.Instr × Nat × Nat) := fun x => am_br 13 (am_br 6 (am_br 3 (am_br 1 (am_lf 0 (some (.iload_n 1, 1, 0)) x) (am_lf 1 (some (.bipush 10, 2, 0)) x) x) (am_br 4 (am_lf 3 (some (.imul, 1, 0)) x) (am_br 5 (am_lf 4 (some (.iload_n 2, 1, 0)) x) (am_lf 5 (some (.iadd, 1, 0)) x) x) x) x) (am_br 8 (am_br 7 (am_lf 6 (some (.istore_n 3, 1, 0)) x) (am_lf 7 (some (.iload_n 3, 1, 0)) x) x) (am_br 11 (am_lf 8 (some (.ifCond .lt 21, 3, 0)) x) (am_br 12 (am_lf 11 (some (.iload_n 3, 1, 0)) x) (am_lf 12 (some (.aload_n 0, 1, 0)) x) x) x) x) x) (am_br 24 (am_br 17 (am_br 16 (am_lf 13 (some (.getfield 9, 3, 6010210)) x) (am_lf 16 (some (.arraylength, 1, 0)) x) x) (am_br 20 (am_lf 17 (some (.if_icmp .ge 12, 3, 0)) x) (am_br 21 (am_lf 20 (some (.aload_n 0, 1, 0)) x) (am_lf 21 (some (.getfield 9, 3, 6010210)) x) x) x) x) (am_br 26 (am_br 25 (am_lf 24 (some (.iload_n 3, 1, 0)) x) (am_lf 25 (some (.iaload, 1, 0)) x) x) (am_br 29 (am_lf 26 (some (.goto 4, 3, 0)) x) (am_br 30 (am_lf 29 (some (.iconst 0, 1, 0)) x) (am_lf 30 (some (.ireturn, 1, 0)) x) x) x) x) x) x
def am_i_Painter_mirror : Nat → Option (ClassFile.Instr × Nat × Nat) := fun x => am_br 46 (am_br 23 (am_br 10 (am_br 5 (am_br 1 (am_lf 0 (some (.aload_n 0, 1, 0)) x) (am_br 4 (am_lf 1 (some (.getfield 112, 3, 6030212)) x) (am_lf 4 (some (.istore_n 2, 1, 0)) x) x) x) (am_br 6 (am_lf 5 (some (.iload_n 2, 1, 0)) x) (am_br 7 (am_lf 6 (some (.aload_n 0, 1, 0)) x) (am_lf 7 (some (.getfield 118, 3, 6050214)) x) x) x) x) (am_br 17 (am_br 13 (am_lf 10 (some (.if_icmp .gt 88, 3, 0)) x) (am_br 14 (am_lf 13 (some (.aload_n 0, 1, 0)) x) (am_lf 14 (some (.getfield 115, 3, 6040213)) x) x) x) (am_br 19 (am_br 18 (am_lf 17 (some (.istore_n 3, 1, 0)) x) (am_lf 18 (some (.iload_n 3, 1, 0)) x) x) (am_br 20 (am_lf 19 (some (.aload_n 0, 1, 0)) x) (am_lf 20 (some (.getfield 121, 3, 6060215)) x) x) x) x) x) (am_br 35 (am_br 28 (am_br 26 (am_lf 23 (some (.if_icmp .gt 69, 3, 0)) x) (am_br 27 (am_lf 26 (some (.iload_n 1, 1, 0)) x) (am_lf 27 (some (.iconst 1, 1, 0)) x) x) x) (am_br 31 (am_lf 28 (some (.if_icmp .ne 17, 3, 0)) x) (am_br 32 (am_lf 31 (some (.aload_n 0, 1, 0)) x) (am_lf 32 (some (.getfield 112, 3, 6030212)) x) x) x) x) (am_br 40 (am_br 36 (am_lf 35 (some (.aload_n 0, 1, 0)) x) (am_br 39 (am_lf 36 (some (.getfield 118, 3, 6050214)) x) (am_lf 39 (some (.iadd, 1, 0)) x) x) x) (am_br 42 (am_br 41 (am_lf 40 (some (.iload_n 2, 1, 0)) x) (am_lf 41 (some (.isub, 1, 0)) x) x) (am_br 45 (am_lf 42 (some (.goto 4, 3, 0)) x) (am_lf 45 (some (.iload_n 2, 1, 0)) x) x) x) x) x) x) (am_br 69 (am_br 57 (am_br 52 (am_br 48 (am_lf 46 (some (.istore 4, 2, 0)) x) (am_br 49 (am_lf 48 (some (.iload_n 1, 1, 0)) x) (am_lf 49 (some (.ifCond .ne 17, 3, 0)) x) x) x) (am_br 53 (am_lf 52 (some (.aload_n 0, 1, 0)) x) (am_br 56 (am_lf 53 (some (.getfield 115, 3, 6040213)) x) (am_lf 56 (some (.aload_n 0, 1, 0)) x) x) x) x) (am_br 62 (am_br 60 (am_lf 57 (some (.getfield 121, 3, 6060215)) x) (am_br 61 (am_lf 60 (some (.iadd, 1, 0)) x) (am_lf 61 (some (.iload_n 3, 1, 0)) x) x) x) (am_br 66 (am_br 63 (am_lf 62 (some (.isub, 1, 0)) x) (am_lf 63 (some (.goto 4, 3, 0)) x) x) (am_br 67 (am_lf 66 (some (.iload_n 3, 1, 0)) x) (am_lf 67 (some (.istore 5, 2, 0)) x) x) x) x) x) (am_br 80 (am_br 74 (am_br 70 (am_lf 69 (some (.aload_n 0, 1, 0)) x) (am_br 73 (am_lf 70 (some (.getfield 18, 3, 6000209)) x) (am_lf 73 (some (.iload_n 2, 1, 0)) x) x) x) (am_br 76 (am_br 75 (am_lf 74 (some (.iload_n 3, 1, 0)) x) (am_lf 75 (some (.aload_n 0, 1, 0)) x) x) (am_br 78 (am_lf 76 (some (.iload 4, 2, 0)) x) (am_lf 78 (some (.iload 5, 2, 0)) x) x) x) x) (am_br 89 (am_br 83 (am_lf 80 (some (.invokevirtual 133, 3, 430544)) x) (am_br 86 (am_lf 83 (some (.invokevirtual 43, 3, 80514)) x) (am_lf 86 (some (.iinc 3 1, 3, 0)) x) x) x) (am_br 95 (am_br 92 (am_lf 89 (some (.goto (-71), 3, 0)) x) (am_lf 92 (some (.iinc 2 1, 3, 0)) x) x) (am_br 98 (am_lf 95 (some (.goto (-90), 3, 0)) x) (am_lf 98 (some (.return_, 1, 0)) x) x) x) x) x) x) x
def am_i_Painter_shift : Nat → Option (ClassFile.Instr × Nat × Nat) := fun x => am_br 67 (am_br 27 (am_br 13 (am_br 8 (am_br 4 (am_br 1 (am_lf 0 (some (.aload_n 0, 1, 0)) x) (am_lf 1 (some (.getfield 118, 3, 6050214)) x) x) (am_br 5 (am_lf 4 (some (.aload_n 0, 1, 0)) x) (am_lf 5 (some (.getfield 112, 3, 6030212)) x) x) x) (am_br 10 (am_br 9 (am_lf 8 (some (.isub, 1, 0)) x) (am_lf 9 (some (.iconst 1, 1, 0)) x) x) (am_br 11 (am_lf 10 (some (.iadd, 1, 0)) x) (am_br 12 (am_lf 11 (some (.istore_n 3, 1, 0)) x) (am_lf 12 (some (.aload_n 0, 1, 0)) x) x) x) x) x) (am_br 21 (am_br 17 (am_br 16 (am_lf 13 (some (.getfield 121, 3, 6060215)) x) (am_lf 16 (some (.aload_n 0, 1, 0)) x) x) (am_br 20 (am_lf 17 (some (.getfield 115, 3, 6040213)) x) (am_lf 20 (some (.isub, 1, 0)) x) x) x) (am_br 23 (am_br 22 (am_lf 21 (some (.iconst 1, 1, 0)) x) (am_lf 22 (some (.iadd, 1, 0)) x) x) (am_br 25 (am_lf 23 (some (.istore 4, 2, 0)) x) (am_br 26 (am_lf 25 (some (.iload_n 3, 1, 0)) x) (am_lf 26 (some (.iconst 1, 1, 0)) x) x) x) x) x) x) (am_br 45 (am_br 36 (am_br 32 (am_br 30 (am_lf 27 (some (.if_icmp .lt 9, 3, 0)) x) (am_lf 30 (some (.iload 4, 2, 0)) x) x) (am_br 33 (am_lf 32 (some (.iconst 1, 1, 0)) x) (am_lf 33 (some (.if_icmp .ge 4, 3, 0)) x) x) x) (am_br 38 (am_br 37 (am_lf 36 (some (.return_, 1, 0)) x) (am_lf 37 (some (.aload_n 0, 1, 0)) x) x) (am_br 41 (am_lf 38 (some (.getfield 112, 3, 6030212)) x) (am_br 43 (am_lf 41 (some (.istore 5, 2, 0)) x) (am_lf 43 (some (.iload 5, 2, 0)) x) x) x) x) x) (am_br 56 (am_br 49 (am_br 46 (am_lf 45 (some (.aload_n 0, 1, 0)) x) (am_lf 46 (some (.getfield 118, 3, 6050214)) x) x) (am_br 52 (am_lf 49 (some (.if_icmp .gt 90, 3, 0)) x) (am_br 53 (am_lf 52 (some (.aload_n 0, 1, 0)) x) (am_lf 53 (some (.getfield 115, 3, 6040213)) x) x) x) x) (am_br 60 (am_br 58 (am_lf 56 (some (.istore 6, 2, 0)) x) (am_lf 58 (some (.iload 6, 2, 0)) x) x) (am_br 61 (am_lf 60 (some (.aload_n 0, 1, 0)) x) (am_br 64 (am_lf 61 (some (.getfield 121, 3, 6060215)) x) (am_lf 64 (some (.if_icmp .gt 69, 3, 0)) x) x) x) x) x) x) x) (am_br 99 (am_br 81 (am_br 74 (am_br 71 (am_br 68 (am_lf 67 (some (.aload_n 0, 1, 0)) x) (am_lf 68 (some (.getfield 112, 3, 6030212)) x) x) (am_br 73 (am_lf 71 (some (.iload 5, 2, 0)) x) (am_lf 73 (some (.aload_n 0, 1, 0)) x) x) x) (am_br 78 (am_br 77 (am_lf 74 (some (.getfield 112, 3, 6030212)) x) (am_lf 77 (some (.isub, 1, 0)) x) x) (am_br 79 (am_lf 78 (some (.iload_n 1, 1, 0)) x) (am_br 80 (am_lf 79 (some (.isub, 1, 0)) x) (am_lf 80 (some (.iload_n 3, 1, 0)) x) x) x) x) x) (am_br 91 (am_br 85 (am_br 84 (am_lf 81 (some (.invokestatic 136, 3, 1690552)) x) (am_lf 84 (some (.iadd, 1, 0)) x) x) (am_br 87 (am_lf 85 (some (.istore 7, 2, 0)) x) (am_br 88 (am_lf 87 (some (.aload_n 0, 1, 0)) x) (am_lf 88 (some (.getfield 115, 3, 6040213)) x) x) x) x) (am_br 94 (am_br 93 (am_lf 91 (some (.iload 6, 2, 0)) x) (am_lf 93 (some (.aload_n 0, 1, 0)) x) x) (am_br 97 (am_lf 94 (some (.getfield 115, 3, 6040213)) x) (am_br 98 (am_lf 97 (some (.isub, 1, 0)) x) (am_lf 98 (some (.iload_n 2, 1, 0)) x) x) x) x) x) x) (am_br 116 (am_br 106 (am_br 102 (am_br 100 (am_lf 99 (some (.isub, 1, 0)) x) (am_lf 100 (some (.iload 4, 2, 0)) x) x) (am_br 105 (am_lf 102 (some (.invokestatic 136, 3, 1690552)) x) (am_lf 105 (some (.iadd, 1, 0)) x) x) x) (am_br 109 (am_br 108 (am_lf 106 (some (.istore 8, 2, 0)) x) (am_lf 108 (some (.aload_n 0, 1, 0)) x) x) (am_br 112 (am_lf 109 (some (.getfield 18, 3, 6000209)) x) (am_br 114 (am_lf 112 (some (.iload 5, 2, 0)) x) (am_lf 114 (some (.iload 6, 2, 0)) x) x) x) x) x) (am_br 127 (am_br 119 (am_br 117 (am_lf 116 (some (.aload_n 0, 1, 0)) x) (am_lf 117 (some (.iload 7, 2, 0)) x) x) (am_br 121 (am_lf 119 (some (.iload 8, 2, 0)) x) (am_br 124 (am_lf 121 (some (.invokevirtual 133, 3, 430544)) x) (am_lf 124 (some (.invokevirtual 43, 3, 80514)) x) x) x) x) (am_br 133 (am_br 130 (am_lf 127 (some (.iinc 6 1, 3, 0)) x) (am_lf 130 (some (.goto (-72), 3, 0)) x) x) (am_br 136 (am_lf 133 (some (.iinc 5 1, 3, 0)) x) (am_br 139 (am_lf 136 (some (.goto (-93), 3, 0)) x) (am_lf 139 (some (.return_, 1, 0)) x) x) x) x) x) x) x) x
def am_i_Painter_border : Nat → Option (ClassFile.Instr × Nat × Nat) := fun x => am_br 55 (am_br 29 (am_br 13 (am_br 5 (am_br 1 (am_lf 0 (some (.aload_n 0, 1, 0)) x) (am_br 4 (am_lf 1 (some (.getfield 112, 3, 6030212)) x) (am_lf 4 (some (.istore_n 3, 1, 0)) x) x) x) (am_br 7 (am_br 6 (am_lf 5 (some (.iload_n 3, 1, 0)) x) (am_lf 6 (some (.aload_n 0, 1, 0)) x) x) (am_br 10 (am_lf 7 (some (.getfield 118, 3, 6050214)) x) (am_lf 10 (some (.if_icmp .gt 107, 3, 0)) x) x) x) x) (am_br 21 (am_br 17 (am_br 14 (am_lf 13 (some (.aload_n 0, 1, 0)) x) (am_lf 14 (some (.getfield 115, 3, 6040213)) x) x) (am_br 19 (am_lf 17 (some (.istore 4, 2, 0)) x) (am_lf 19 (some (.iload 4, 2, 0)) x) x) x) (am_br 25 (am_br 22 (am_lf 21 (some (.aload_n 0, 1, 0)) x) (am_lf 22 (some (.getfield 121, 3, 6060215)) x) x) (am_br 28 (am_lf 25 (some (.if_icmp .gt 86, 3, 0)) x) (am_lf 28 (some (.iload_n 3, 1, 0)) x) x) x) x) x) (am_br 40 (am_br 34 (am_br 30 (am_lf 29 (some (.aload_n 0, 1, 0)) x) (am_br 33 (am_lf 30 (some (.getfield 112, 3, 6030212)) x) (am_lf 33 (some (.iload_n 1, 1, 0)) x) x) x) (am_br 38 (am_br 35 (am_lf 34 (some (.iadd, 1, 0)) x) (am_lf 35 (some (.if_icmp .lt 13, 3, 0)) x) x) (am_br 39 (am_lf 38 (some (.iload_n 3, 1, 0)) x) (am_lf 39 (some (.aload_n 0, 1, 0)) x) x) x) x) (am_br 48 (am_br 44 (am_br 43 (am_lf 40 (some (.getfield 118, 3, 6050214)) x) (am_lf 43 (some (.iload_n 1, 1, 0)) x) x) (am_br 45 (am_lf 44 (some (.isub, 1, 0)) x) (am_lf 45 (some (.if_icmp .le 7, 3, 0)) x) x) x) (am_br 52 (am_br 49 (am_lf 48 (some (.iconst 1, 1, 0)) x) (am_lf 49 (some (.goto 4, 3, 0)) x) x) (am_br 53 (am_lf 52 (some (.iconst 0, 1, 0)) x) (am_lf 53 (some (.istore 5, 2, 0)) x) x) x) x) x) x) (am_br 82 (am_br 68 (am_br 61 (am_br 57 (am_lf 55 (some (.iload 4, 2, 0)) x) (am_br 58 (am_lf 57 (some (.aload_n 0, 1, 0)) x) (am_lf 58 (some (.getfield 115, 3, 6040213)) x) x) x) (am_br 63 (am_br 62 (am_lf 61 (some (.iload_n 1, 1, 0)) x) (am_lf 62 (some (.iadd, 1, 0)) x) x) (am_br 66 (am_lf 63 (some (.if_icmp .lt 14, 3, 0)) x) (am_lf 66 (some (.iload 4, 2, 0)) x) x) x) x) (am_br 74 (am_br 72 (am_br 69 (am_lf 68 (some (.aload_n 0, 1, 0)) x) (am_lf 69 (some (.getfield 121, 3, 6060215)) x) x) (am_br 73 (am_lf 72 (some (.iload_n 1, 1, 0)) x) (am_lf 73 (some (.isub, 1, 0)) x) x) x) (am_br 78 (am_br 77 (am_lf 74 (some (.if_icmp .le 7, 3, 0)) x) (am_lf 77 (some (.iconst 1, 1, 0)) x) x) (am_br 81 (am_lf 78 (some (.goto 4, 3, 0)) x) (am_lf 81 (some (.iconst 0, 1, 0)) x) x) x) x) x) (am_br 99 (am_br 91 (am_br 86 (am_br 84 (am_lf 82 (some (.istore 6, 2, 0)) x) (am_lf 84 (some (.iload 5, 2, 0)) x) x) (am_br 89 (am_lf 86 (some (.ifCond .ne 8, 3, 0)) x) (am_lf 89 (some (.iload 6, 2, 0)) x) x) x) (am_br 95 (am_br 94 (am_lf 91 (some (.ifCond .eq 14, 3, 0)) x) (am_lf 94 (some (.aload_n 0, 1, 0)) x) x) (am_br 98 (am_lf 95 (some (.getfield 18, 3, 6000209)) x) (am_lf 98 (some (.iload_n 3, 1, 0)) x) x) x) x) (am_br 108 (am_br 102 (am_br 101 (am_lf 99 (some (.iload 4, 2, 0)) x) (am_lf 101 (some (.iload_n 2, 1, 0)) x) x) (am_br 105 (am_lf 102 (some (.invokevirtual 43, 3, 80514)) x) (am_lf 105 (some (.iinc 4 1, 3, 0)) x) x) x) (am_br 114 (am_br 111 (am_lf 108 (some (.goto (-89), 3, 0)) x) (am_lf 111 (some (.iinc 3 1, 3, 0)) x) x) (am_br 117 (am_lf 114 (some (.goto (-109), 3, 0)) x) (am_lf 117 (some (.return_, 1, 0)) x) x) x) x) x) x) x
def am_i_Painter_swap : Nat → Option (ClassFile.Instr × Nat × Nat) := fun x => am_br 40 (am_br 19 (am_br 7 (am_br 4 (am_br 1 (am_lf 0 (some (.aload_n 0, 1, 0)) x) (am_lf 1 (some (.getfield 112, 3, 6030212)) x) x) (am_br 5 (am_lf 4 (some (.istore_n 3, 1, 0)) x) (am_br 6 (am_lf 5 (some (.iload_n 3, 1, 0)) x) (am_lf 6 (some (.aload_n 0, 1, 0)) x) x) x) x) (am_br 13 (am_br 10 (am_lf 7 (some (.getfield 118, 3, 6050214)) x) (am_lf 10 (some (.if_icmp .gt 76, 3, 0)) x) x) (am_br 14 (am_lf 13 (some (.aload_n 0, 1, 0)) x) (am_br 17 (am_lf 14 (some (.getfield 115, 3, 6040213)) x) (am_lf 17 (some (.istore 4, 2, 0)) x) x) x) x) x) (am_br 29 (am_br 22 (am_br 21 (am_lf 19 (some (.iload 4, 2, 0)) x) (am_lf 21 (some (.aload_n 0, 1, 0)) x) x) (am_br 25 (am_lf 22 (some (.getfield 121, 3, 6060215)) x) (am_br 28 (am_lf 25 (some (.if_icmp .gt 55, 3, 0)) x) (am_lf 28 (some (.aload_n 0, 1, 0)) x) x) x) x) (am_br 35 (am_br 30 (am_lf 29 (some (.iload_n 3, 1, 0)) x) (am_br 32 (am_lf 30 (some (.iload 4, 2, 0)) x) (am_lf 32 (some (.invokevirtual 133, 3, 430544)) x) x) x) (am_br 37 (am_lf 35 (some (.istore 5, 2, 0)) x) (am_br 39 (am_lf 37 (some (.iload 5, 2, 0)) x) (am_lf 39 (some (.iload_n 1, 1, 0)) x) x) x) x) x) x) (am_br 63 (am_br 50 (am_br 44 (am_br 43 (am_lf 40 (some (.if_icmp .ne 17, 3, 0)) x) (am_lf 43 (some (.aload_n 0, 1, 0)) x) x) (am_br 47 (am_lf 44 (some (.getfield 18, 3, 6000209)) x) (am_br 48 (am_lf 47 (some (.iload_n 3, 1, 0)) x) (am_lf 48 (some (.iload 4, 2, 0)) x) x) x) x) (am_br 57 (am_br 51 (am_lf 50 (some (.iload_n 2, 1, 0)) x) (am_br 54 (am_lf 51 (some (.invokevirtual 43, 3, 80514)) x) (am_lf 54 (some (.goto 20, 3, 0)) x) x) x) (am_br 59 (am_lf 57 (some (.iload 5, 2, 0)) x) (am_br 60 (am_lf 59 (some (.iload_n 2, 1, 0)) x) (am_lf 60 (some (.if_icmp .ne 14, 3, 0)) x) x) x) x) x) (am_br 71 (am_br 67 (am_br 64 (am_lf 63 (some (.aload_n 0, 1, 0)) x) (am_lf 64 (some (.getfield 18, 3, 6000209)) x) x) (am_br 68 (am_lf 67 (some (.iload_n 3, 1, 0)) x) (am_br 70 (am_lf 68 (some (.iload 4, 2, 0)) x) (am_lf 70 (some (.iload_n 1, 1, 0)) x) x) x) x) (am_br 80 (am_br 74 (am_lf 71 (some (.invokevirtual 43, 3, 80514)) x) (am_br 77 (am_lf 74 (some (.iinc 4 1, 3, 0)) x) (am_lf 77 (some (.goto (-58), 3, 0)) x) x) x) (am_br 83 (am_lf 80 (some (.iinc 3 1, 3, 0)) x) (am_br 86 (am_lf 83 (some (.goto (-78), 3, 0)) x) (am_lf 86 (some (.return_, 1, 0)) x) x) x) x) x) x) x
def am_i_Painter_mend : Nat → Option (ClassFile.Instr × Nat × Nat) := fun x => am_br 69 (am_br 30 (am_br 14 (am_br 6 (am_br 4 (am_br 1 (am_lf 0 (some (.aload_n 0, 1, 0)) x) (am_lf 1 (some (.getfield 112, 3, 6030212)) x) x) (am_br 5 (am_lf 4 (some (.istore_n 2, 1, 0)) x) (am_lf 5 (some (.iload_n 2, 1, 0)) x) x) x) (am_br 10 (am_br 7 (am_lf 6 (some (.aload_n 0, 1, 0)) x) (am_lf 7 (some (.getfield 118, 3, 6050214)) x) x) (am_br 13 (am_lf 10 (some (.if_icmp .gt 126, 3, 0)) x) (am_lf 13 (some (.iconst 0, 1, 0)) x) x) x) x) (am_br 19 (am_br 16 (am_br 15 (am_lf 14 (some (.istore_n 3, 1, 0)) x) (am_lf 15 (some (.iconst 0, 1, 0)) x) x) (am_br 18 (am_lf 16 (some (.istore 4, 2, 0)) x) (am_lf 18 (some (.aload_n 0, 1, 0)) x) x) x) (am_br 24 (am_br 22 (am_lf 19 (some (.getfield 115, 3, 6040213)) x) (am_lf 22 (some (.istore 5, 2, 0)) x) x) (am_br 26 (am_lf 24 (some (.iload 5, 2, 0)) x) (am_br 27 (am_lf 26 (some (.aload_n 0, 1, 0)) x) (am_lf 27 (some (.getfield 121, 3, 6060215)) x) x) x) x) x) x) (am_br 50 (am_br 38 (am_br 34 (am_br 33 (am_lf 30 (some (.if_icmp .gt 100, 3, 0)) x) (am_lf 33 (some (.aload_n 0, 1, 0)) x) x) (am_br 37 (am_lf 34 (some (.getfield 18, 3, 6000209)) x) (am_lf 37 (some (.iload_n 2, 1, 0)) x) x) x) (am_br 41 (am_br 40 (am_lf 38 (some (.iload 5, 2, 0)) x) (am_lf 40 (some (.aload_n 0, 1, 0)) x) x) (am_br 44 (am_lf 41 (some (.getfield 18, 3, 6000209)) x) (am_br 47 (am_lf 44 (some (.getfield 76, 3, 20102)) x) (am_lf 47 (some (.invokevirtual 79, 3, 40513)) x) x) x) x) x) (am_br 59 (am_br 54 (am_br 52 (am_lf 50 (some (.istore 6, 2, 0)) x) (am_lf 52 (some (.iload 6, 2, 0)) x) x) (am_br 57 (am_lf 54 (some (.ifCond .eq 32, 3, 0)) x) (am_lf 57 (some (.iload 6, 2, 0)) x) x) x) (am_br 63 (am_br 60 (am_lf 59 (some (.iload_n 3, 1, 0)) x) (am_lf 60 (some (.if_icmp .ne 26, 3, 0)) x) x) (am_br 65 (am_lf 63 (some (.iload 4, 2, 0)) x) (am_br 66 (am_lf 65 (some (.iload_n 1, 1, 0)) x) (am_lf 66 (some (.if_icmp .lt 20, 3, 0)) x) x) x) x) x) x) x) (am_br 100 (am_br 82 (am_br 76 (am_br 73 (am_br 70 (am_lf 69 (some (.aload_n 0, 1, 0)) x) (am_lf 70 (some (.getfield 18, 3, 6000209)) x) x) (am_br 74 (am_lf 73 (some (.iload_n 2, 1, 0)) x) (am_lf 74 (some (.iload 5, 2, 0)) x) x) x) (am_br 80 (am_br 78 (am_lf 76 (some (.iload 6, 2, 0)) x) (am_lf 78 (some (.bipush 9, 2, 0)) x) x) (am_br 81 (am_lf 80 (some (.irem, 1, 0)) x) (am_lf 81 (some (.iconst 1, 1, 0)) x) x) x) x) (am_br 90 (am_br 86 (am_br 83 (am_lf 82 (some (.iadd, 1, 0)) x) (am_lf 83 (some (.invokevirtual 43, 3, 80514)) x) x) (am_br 87 (am_lf 86 (some (.aload_n 0, 1, 0)) x) (am_lf 87 (some (.getfield 18, 3, 6000209)) x) x) x) (am_br 93 (am_br 91 (am_lf 90 (some (.iload_n 2, 1, 0)) x) (am_lf 91 (some (.iload 5, 2, 0)) x) x) (am_br 94 (am_lf 93 (some (.aload_n 0, 1, 0)) x) (am_br 97 (am_lf 94 (some (.getfield 18, 3, 6000209)) x) (am_lf 97 (some (.getfield 76, 3, 20102)) x) x) x) x) x) x) (am_br 118 (am_br 108 (am_br 105 (am_br 103 (am_lf 100 (some (.invokevirtual 79, 3, 40513)) x) (am_lf 103 (some (.istore 6, 2, 0)) x) x) (am_br 107 (am_lf 105 (some (.iload 6, 2, 0)) x) (am_lf 107 (some (.iload_n 3, 1, 0)) x) x) x) (am_br 113 (am_br 111 (am_lf 108 (some (.if_icmp .ne 10, 3, 0)) x) (am_lf 111 (some (.iload 4, 2, 0)) x) x) (am_br 114 (am_lf 113 (some (.iconst 1, 1, 0)) x) (am_br 115 (am_lf 114 (some (.iadd, 1, 0)) x) (am_lf 115 (some (.goto 4, 3, 0)) x) x) x) x) x) (am_br 124 (am_br 121 (am_br 119 (am_lf 118 (some (.iconst 1, 1, 0)) x) (am_lf 119 (some (.istore 4, 2, 0)) x) x) (am_br 123 (am_lf 121 (some (.iload 6, 2, 0)) x) (am_lf 123 (some (.istore_n 3, 1, 0)) x) x) x) (am_br 130 (am_br 127 (am_lf 124 (some (.iinc 5 1, 3, 0)) x) (am_lf 127 (some (.goto (-103), 3, 0)) x) x) (am_br 133 (am_lf 130 (some (.iinc 2 1, 3, 0)) x) (am_br 136 (am_lf 133 (some (.goto (-128), 3, 0)) x) (am_lf 136 (some (.return_, 1, 0)) x) x) x) x) x) x) x) x
def am_i_Part_init : Nat → Option (ClassFile.Instr × Nat × Nat) := fun x => am_br 10 (am_br 5 (am_br 1 (am_lf 0 (some (.aload_n 0, 1, 0)) x) (am_br 4 (am_lf 1 (some (.invokespecial 1, 3, 10000725)) x) (am_lf 4 (some (.aload_n 0, 1, 0)) x) x) x) (am_br 6 (am_lf 5 (some (.aload_n 1, 1, 0)) x) (am_br 9 (am_lf 6 (some (.putfield 7, 3, 7000726)) x) (am_lf 9 (some (.aload_n 0, 1, 0)) x) x) x) x) (am_br 15 (am_br 11 (am_lf 10 (some (.aload_n 2, 1, 0)) x) (am_br 14 (am_lf 11 (some (.putfield 13, 3, 7010728)) x) (am_lf 14 (some (.aload_n 0, 1, 0)) x) x) x) (am_br 16 (am_lf 15 (some (.aload_n 3, 1, 0)) x) (am_br 19 (am_lf 16 (some (.putfield 17, 3, 7020730)) x) (am_lf 19 (some (.return_, 1, 0)) x) x) x) x) x
def am_i_Readiness_init : Nat → Option (ClassFile.Instr × Nat × Nat) := fun x => am_br 5 (am_br 1 (am_lf 0 (some (.aload_n 0, 1, 0)) x) (am_br 4 (am_lf 1 (some (.invokespecial 3, 3, 10000152)) x) (am_lf 4 (some (.aload_n 0, 1, 0)) x) x) x) (am_br 6 (am_lf 5 (some (.lconst 0, 1, 0)) x) (am_br 9 (am_lf 6 (some (.putfield 9, 3, 8000153)) x) (am_lf 9 (some (.return_, 1, 0)) x) x) x) x
def am_i_Readiness_ask : Nat → Option (ClassFile.Instr × Nat × Nat) := fun x => am_br 47 (am_br 24 (am_br 10 (am_br 5 (am_br 1 (am_lf 0 (some (.aload_n 1, 1, 0)) x) (am_br 4 (am_lf 1 (some (.getfield 15, 3, 1000164)) x) (am_lf 4 (some (.iconst 0, 1, 0)) x) x) x) (am_br 8 (am_lf 5 (some (.getstatic 21, 3, 460)) x) (am_br 9 (am_lf 8 (some (.arraylength, 1, 0)) x) (am_lf 9 (some (.iconst 1, 1, 0)) x) x) x) x) (am_br 17 (am_br 11 (am_lf 10 (some (.isub, 1, 0)) x) (am_br 14 (am_lf 11 (some (.invokestatic 25, 3, 1050462)) x) (am_lf 14 (some (.ifCond .eq 14, 3, 0)) x) x) x) (am_br 20 (am_lf 17 (some (.getstatic 21, 3, 460)) x) (am_br 21 (am_lf 20 (some (.aload_n 1, 1, 0)) x) (am_lf 21 (some (.getfield 15, 3, 1000164)) x) x) x) x) x) (am_br 34 (am_br 30 (am_br 25 (am_lf 24 (some (.iaload, 1, 0)) x) (am_br 28 (am_lf 25 (some (.goto 5, 3, 0)) x) (am_lf 28 (some (.bipush 6, 2, 0)) x) x) x) (am_br 31 (am_lf 30 (some (.istore_n 3, 1, 0)) x) (am_br 32 (am_lf 31 (some (.iconst 0, 1, 0)) x) (am_lf 32 (some (.istore 4, 2, 0)) x) x) x) x) (am_br 39 (am_br 35 (am_lf 34 (some (.iconst 0, 1, 0)) x) (am_br 37 (am_lf 35 (some (.istore 5, 2, 0)) x) (am_lf 37 (some (.iload 5, 2, 0)) x) x) x) (am_br 44 (am_br 41 (am_lf 39 (some (.bipush 6, 2, 0)) x) (am_lf 41 (some (.if_icmp .ge 50, 3, 0)) x) x) (am_br 45 (am_lf 44 (some (.iload_n 3, 1, 0)) x) (am_lf 45 (some (.bipush 6, 2, 0)) x) x) x) x) x) x) (am_br 71 (am_br 60 (am_br 55 (am_br 50 (am_lf 47 (some (.if_icmp .ge 44, 3, 0)) x) (am_br 52 (am_lf 50 (some (.iload 4, 2, 0)) x) (am_lf 52 (some (.ifCond .ne 39, 3, 0)) x) x) x) (am_br 56 (am_lf 55 (some (.aload_n 0, 1, 0)) x) (am_br 57 (am_lf 56 (some (.dup, 1, 0)) x) (am_lf 57 (some (.getfield 9, 3, 8000153)) x) x) x) x) (am_br 65 (am_br 63 (am_lf 60 (some (.getstatic 29, 3, 20463)) x) (am_br 64 (am_lf 63 (some (.iload_n 3, 1, 0)) x) (am_lf 64 (some (.iaload, 1, 0)) x) x) x) (am_br 67 (am_br 66 (am_lf 65 (some (.i2l, 1, 0)) x) (am_lf 66 (some (.ladd, 1, 0)) x) x) (am_br 70 (am_lf 67 (some (.putfield 9, 3, 8000153)) x) (am_lf 70 (some (.aload_n 0, 1, 0)) x) x) x) x) x) (am_br 82 (am_br 74 (am_br 72 (am_lf 71 (some (.iload_n 3, 1, 0)) x) (am_br 73 (am_lf 72 (some (.aload_n 1, 1, 0)) x) (am_lf 73 (some (.aload_n 2, 1, 0)) x) x) x) (am_br 77 (am_lf 74 (some (.invokevirtual 32, 3, 520465)) x) (am_br 79 (am_lf 77 (some (.istore 4, 2, 0)) x) (am_lf 79 (some (.getstatic 36, 3, 10488)) x) x) x) x) (am_br 85 (am_br 83 (am_lf 82 (some (.iload_n 3, 1, 0)) x) (am_br 84 (am_lf 83 (some (.iaload, 1, 0)) x) (am_lf 84 (some (.istore_n 3, 1, 0)) x) x) x) (am_br 91 (am_br 88 (am_lf 85 (some (.iinc 5 1, 3, 0)) x) (am_lf 88 (some (.goto (-51), 3, 0)) x) x) (am_br 93 (am_lf 91 (some (.iload 4, 2, 0)) x) (am_lf 93 (some (.ireturn, 1, 0)) x) x) x) x) x) x) x
def am_i_Readiness_failureAt : Nat → Option (ClassFile.Instr × Nat × Nat) := fun x => am_br 82 (am_br 57 (am_br 42 (am_br 37 (am_br 1 (am_lf 0 (some (.iload_n 1, 1, 0)) x) (am_br 36 (am_lf 1 (some (.tableswitch 111 0 4 #[35, 56, 77, 90, 104], 35, 0)) x) (am_lf 36 (some (.aload_n 3, 1, 0)) x) x) x) (am_br 38 (am_lf 37 (some (.aload_n 2, 1, 0)) x) (am_br 41 (am_lf 38 (some (.getfield 39, 3, 1030178)) x) (am_lf 41 (some (.aload_n 2, 1, 0)) x) x) x) x) (am_br 51 (am_br 45 (am_lf 42 (some (.getfield 42, 3, 1040182)) x) (am_br 48 (am_lf 45 (some (.invokevirtual 45, 3, 30469)) x) (am_lf 48 (some (.ifCond .eq 7, 3, 0)) x) x) x) (am_br 55 (am_br 52 (am_lf 51 (some (.iconst 0, 1, 0)) x) (am_lf 52 (some (.goto 4, 3, 0)) x) x) (am_br 56 (am_lf 55 (some (.iconst 1, 1, 0)) x) (am_lf 56 (some (.ireturn, 1, 0)) x) x) x) x) x) (am_br 69 (am_br 62 (am_br 58 (am_lf 57 (some (.aload_n 3, 1, 0)) x) (am_br 59 (am_lf 58 (some (.aload_n 2, 1, 0)) x) (am_lf 59 (some (.getfield 51, 3, 1010173)) x) x) x) (am_br 63 (am_lf 62 (some (.aload_n 2, 1, 0)) x) (am_br 66 (am_lf 63 (some (.getfield 54, 3, 1020177)) x) (am_lf 66 (some (.invokevirtual 45, 3, 30469)) x) x) x) x) (am_br 76 (am_br 72 (am_lf 69 (some (.ifCond .eq 7, 3, 0)) x) (am_br 73 (am_lf 72 (some (.iconst 0, 1, 0)) x) (am_lf 73 (some (.goto 4, 3, 0)) x) x) x) (am_br 78 (am_br 77 (am_lf 76 (some (.iconst 1, 1, 0)) x) (am_lf 77 (some (.ireturn, 1, 0)) x) x) (am_br 79 (am_lf 78 (some (.aload_n 3, 1, 0)) x) (am_lf 79 (some (.invokevirtual 57, 3, 90470)) x) x) x) x) x) x) (am_br 105 (am_br 92 (am_br 89 (am_br 85 (am_lf 82 (some (.ifCond .le 7, 3, 0)) x) (am_br 86 (am_lf 85 (some (.iconst 0, 1, 0)) x) (am_lf 86 (some (.goto 4, 3, 0)) x) x) x) (am_br 90 (am_lf 89 (some (.iconst 3, 1, 0)) x) (am_br 91 (am_lf 90 (some (.ireturn, 1, 0)) x) (am_lf 91 (some (.aload_n 0, 1, 0)) x) x) x) x) (am_br 99 (am_br 93 (am_lf 92 (some (.aload_n 2, 1, 0)) x) (am_br 96 (am_lf 93 (some (.invokevirtual 61, 3, 530471)) x) (am_lf 96 (some (.ifCond .eq 7, 3, 0)) x) x) x) (am_br 103 (am_br 100 (am_lf 99 (some (.iconst 0, 1, 0)) x) (am_lf 100 (some (.goto 4, 3, 0)) x) x) (am_br 104 (am_lf 103 (some (.iconst 2, 1, 0)) x) (am_lf 104 (some (.ireturn, 1, 0)) x) x) x) x) x) (am_br 113 (am_br 108 (am_br 106 (am_lf 105 (some (.aload_n 0, 1, 0)) x) (am_br 107 (am_lf 106 (some (.aload_n 2, 1, 0)) x) (am_lf 107 (some (.aload_n 3, 1, 0)) x) x) x) (am_br 111 (am_lf 108 (some (.invokevirtual 65, 3, 540476)) x) (am_br 112 (am_lf 111 (some (.ireturn, 1, 0)) x) (am_lf 112 (some (.aload_n 0, 1, 0)) x) x) x) x) (am_br 120 (am_br 114 (am_lf 113 (some (.aload_n 2, 1, 0)) x) (am_br 117 (am_lf 114 (some (.invokevirtual 69, 3, 560484)) x) (am_lf 117 (some (.ifCond .eq 7, 3, 0)) x) x) x) (am_br 124 (am_br 121 (am_lf 120 (some (.iconst 0, 1, 0)) x) (am_lf 121 (some (.goto 4, 3, 0)) x) x) (am_br 125 (am_lf 124 (some (.iconst 4, 1, 0)) x) (am_lf 125 (some (.ireturn, 1, 0)) x) x) x) x) x) x) x
def am_i_Readiness_hasFitWools : Nat → Option (ClassFile.Instr × Nat × Nat) := fun x => am_br 67 (am_br 56 (am_br 4 (am_br 1 (am_lf 0 (some (.aload_n 1, 1, 0)) x) (am_lf 1 (some (.getfield 15, 3, 1000164)) x) x) (am_br 52 (am_lf 4 (some (.tableswitch 82 0 7 #[48, 48, 48, 48, 82, 82, 48, 56], 48, 0)) x) (am_br 53 (am_lf 52 (some (.aload_n 1, 1, 0)) x) (am_lf 53 (some (.getfield 72, 3, 1050189)) x) x) x) x) (am_br 60 (am_br 59 (am_lf 56 (some (.invokestatic 75, 3, 1060475)) x) (am_lf 59 (some (.ireturn, 1, 0)) x) x) (am_br 61 (am_lf 60 (some (.aload_n 1, 1, 0)) x) (am_br 64 (am_lf 61 (some (.getfield 51, 3, 1010173)) x) (am_lf 64 (some (.invokestatic 75, 3, 1060475)) x) x) x) x) x) (am_br 80 (am_br 71 (am_br 70 (am_lf 67 (some (.ifCond .eq 17, 3, 0)) x) (am_lf 70 (some (.aload_n 1, 1, 0)) x) x) (am_br 74 (am_lf 71 (some (.getfield 54, 3, 1020177)) x) (am_br 77 (am_lf 74 (some (.invokestatic 75, 3, 1060475)) x) (am_lf 77 (some (.ifCond .eq 7, 3, 0)) x) x) x) x) (am_br 85 (am_br 81 (am_lf 80 (some (.iconst 1, 1, 0)) x) (am_br 84 (am_lf 81 (some (.goto 4, 3, 0)) x) (am_lf 84 (some (.iconst 0, 1, 0)) x) x) x) (am_br 86 (am_lf 85 (some (.ireturn, 1, 0)) x) (am_br 87 (am_lf 86 (some (.iconst 1, 1, 0)) x) (am_lf 87 (some (.ireturn, 1, 0)) x) x) x) x) x) x
def am_i_Readiness_failureAsLook : Nat → Option (ClassFile.Instr × Nat × Nat) := fun x => am_br 54 (am_br 38 (am_br 32 (am_br 1 (am_lf 0 (some (.aload_n 1, 1, 0)) x) (am_br 4 (am_lf 1 (some (.getfield 15, 3, 1000164)) x) (am_lf 4 (some (.lookupswitch 59 #[(9, 28), (10, 43)], 28, 0)) x) x) x) (am_br 34 (am_br 33 (am_lf 32 (some (.aload_n 0, 1, 0)) x) (am_lf 33 (some (.aload_n 1, 1, 0)) x) x) (am_br 35 (am_lf 34 (some (.aload_n 2, 1, 0)) x) (am_lf 35 (some (.invokevirtual 79, 3, 550480)) x) x) x) x) (am_br 46 (am_br 42 (am_br 41 (am_lf 38 (some (.ifCond .eq 7, 3, 0)) x) (am_lf 41 (some (.iconst 0, 1, 0)) x) x) (am_br 45 (am_lf 42 (some (.goto 4, 3, 0)) x) (am_lf 45 (some (.iconst 1, 1, 0)) x) x) x) (am_br 48 (am_br 47 (am_lf 46 (some (.ireturn, 1, 0)) x) (am_lf 47 (some (.aload_n 1, 1, 0)) x) x) (am_br 51 (am_lf 48 (some (.getfield 51, 3, 1010173)) x) (am_lf 51 (some (.invokestatic 75, 3, 1060475)) x) x) x) x) x) (am_br 67 (am_br 61 (am_br 57 (am_lf 54 (some (.ifCond .eq 7, 3, 0)) x) (am_br 58 (am_lf 57 (some (.iconst 0, 1, 0)) x) (am_lf 58 (some (.goto 4, 3, 0)) x) x) x) (am_br 63 (am_br 62 (am_lf 61 (some (.iconst 2, 1, 0)) x) (am_lf 62 (some (.ireturn, 1, 0)) x) x) (am_br 64 (am_lf 63 (some (.aload_n 1, 1, 0)) x) (am_lf 64 (some (.getfield 51, 3, 1010173)) x) x) x) x) (am_br 75 (am_br 69 (am_br 68 (am_lf 67 (some (.iconst 0, 1, 0)) x) (am_lf 68 (some (.iconst 2, 1, 0)) x) x) (am_br 72 (am_lf 69 (some (.invokestatic 25, 3, 1050462)) x) (am_lf 72 (some (.ifCond .eq 7, 3, 0)) x) x) x) (am_br 79 (am_br 76 (am_lf 75 (some (.iconst 0, 1, 0)) x) (am_lf 76 (some (.goto 4, 3, 0)) x) x) (am_br 80 (am_lf 79 (some (.iconst 1, 1, 0)) x) (am_lf 80 (some (.ireturn, 1, 0)) x) x) x) x) x) x
def am_i_Readiness_hasItsBlock : Nat → Option (ClassFile.Instr × Nat × Nat) := fun x => am_br 35 (am_br 18 (am_br 8 (am_br 4 (am_br 1 (am_lf 0 (some (.aload_n 1, 1, 0)) x) (am_lf 1 (some (.getfield 51, 3, 1010173)) x) x) (am_br 7 (am_lf 4 (some (.ifCond .lt 62, 3, 0)) x) (am_lf 7 (some (.aload_n 1, 1, 0)) x) x) x) (am_br 14 (am_br 11 (am_lf 8 (some (.getfield 54, 3, 1020177)) x) (am_lf 11 (some (.ifCond .lt 55, 3, 0)) x) x) (am_br 15 (am_lf 14 (some (.aload_n 1, 1, 0)) x) (am_lf 15 (some (.getfield 39, 3, 1030178)) x) x) x) x) (am_br 26 (am_br 22 (am_br 19 (am_lf 18 (some (.iconst 1, 1, 0)) x) (am_lf 19 (some (.if_icmp .lt 47, 3, 0)) x) x) (am_br 23 (am_lf 22 (some (.aload_n 1, 1, 0)) x) (am_lf 23 (some (.getfield 42, 3, 1040182)) x) x) x) (am_br 30 (am_br 27 (am_lf 26 (some (.iconst 1, 1, 0)) x) (am_lf 27 (some (.if_icmp .lt 39, 3, 0)) x) x) (am_br 31 (am_lf 30 (some (.aload_n 1, 1, 0)) x) (am_br 34 (am_lf 31 (some (.getfield 39, 3, 1030178)) x) (am_lf 34 (some (.aload_n 2, 1, 0)) x) x) x) x) x) x) (am_br 51 (am_br 43 (am_br 39 (am_br 38 (am_lf 35 (some (.getfield 83, 3, 94)) x) (am_lf 38 (some (.aload_n 1, 1, 0)) x) x) (am_br 42 (am_lf 39 (some (.getfield 51, 3, 1010173)) x) (am_lf 42 (some (.isub, 1, 0)) x) x) x) (am_br 47 (am_br 46 (am_lf 43 (some (.if_icmp .gt 23, 3, 0)) x) (am_lf 46 (some (.aload_n 1, 1, 0)) x) x) (am_br 50 (am_lf 47 (some (.getfield 42, 3, 1040182)) x) (am_lf 50 (some (.aload_n 2, 1, 0)) x) x) x) x) (am_br 59 (am_br 55 (am_br 54 (am_lf 51 (some (.getfield 86, 3, 10099)) x) (am_lf 54 (some (.aload_n 1, 1, 0)) x) x) (am_br 58 (am_lf 55 (some (.getfield 54, 3, 1020177)) x) (am_lf 58 (some (.isub, 1, 0)) x) x) x) (am_br 63 (am_br 62 (am_lf 59 (some (.if_icmp .gt 7, 3, 0)) x) (am_lf 62 (some (.iconst 1, 1, 0)) x) x) (am_br 66 (am_lf 63 (some (.goto 4, 3, 0)) x) (am_br 67 (am_lf 66 (some (.iconst 0, 1, 0)) x) (am_lf 67 (some (.ireturn, 1, 0)) x) x) x) x) x) x) x
def am_i_Readiness_hasFitNumbers : Nat → Option (ClassFile.Instr × Nat × Nat) := fun x => am_br 121 (am_br 88 (am_br 71 (am_br 61 (am_br 4 (am_br 1 (am_lf 0 (some (.aload_n 1, 1, 0)) x) (am_lf 1 (some (.getfield 15, 3, 1000164)) x) x) (am_br 60 (am_lf 4 (some (.tableswitch 174 3 12 #[56, 89, 99, 133, 174, 143, 154, 174, 174, 164], 56, 0)) x) (am_lf 60 (some (.aload_n 1, 1, 0)) x) x) x) (am_br 65 (am_br 64 (am_lf 61 (some (.getfield 39, 3, 1030178)) x) (am_lf 64 (some (.iconst 0, 1, 0)) x) x) (am_br 68 (am_lf 65 (some (.sipush 511, 3, 0)) x) (am_lf 68 (some (.invokestatic 25, 3, 1050462)) x) x) x) x) (am_br 79 (am_br 75 (am_br 74 (am_lf 71 (some (.ifCond .eq 20, 3, 0)) x) (am_lf 74 (some (.aload_n 1, 1, 0)) x) x) (am_br 78 (am_lf 75 (some (.getfield 42, 3, 1040182)) x) (am_lf 78 (some (.iconst 0, 1, 0)) x) x) x) (am_br 84 (am_br 81 (am_lf 79 (some (.bipush 7, 2, 0)) x) (am_lf 81 (some (.invokestatic 25, 3, 1050462)) x) x) (am_br 87 (am_lf 84 (some (.ifCond .eq 7, 3, 0)) x) (am_lf 87 (some (.iconst 1, 1, 0)) x) x) x) x) x) (am_br 102 (am_br 94 (am_br 92 (am_br 91 (am_lf 88 (some (.goto 4, 3, 0)) x) (am_lf 91 (some (.iconst 0, 1, 0)) x) x) (am_br 93 (am_lf 92 (some (.ireturn, 1, 0)) x) (am_lf 93 (some (.aload_n 1, 1, 0)) x) x) x) (am_br 98 (am_br 97 (am_lf 94 (some (.getfield 51, 3, 1010173)) x) (am_lf 97 (some (.iconst 0, 1, 0)) x) x) (am_br 99 (am_lf 98 (some (.iconst 1, 1, 0)) x) (am_lf 99 (some (.invokestatic 25, 3, 1050462)) x) x) x) x) (am_br 109 (am_br 104 (am_br 103 (am_lf 102 (some (.ireturn, 1, 0)) x) (am_lf 103 (some (.aload_n 1, 1, 0)) x) x) (am_br 107 (am_lf 104 (some (.getfield 51, 3, 1010173)) x) (am_lf 107 (some (.bipush (-20), 2, 0)) x) x) x) (am_br 114 (am_br 111 (am_lf 109 (some (.bipush 20, 2, 0)) x) (am_lf 111 (some (.invokestatic 25, 3, 1050462)) x) x) (am_br 117 (am_lf 114 (some (.ifCond .eq 21, 3, 0)) x) (am_br 118 (am_lf 117 (some (.aload_n 1, 1, 0)) x) (am_lf 118 (some (.getfield 54, 3, 1020177)) x) x) x) x) x) x) x) (am_br 152 (am_br 137 (am_br 131 (am_br 125 (am_br 123 (am_lf 121 (some (.bipush (-20), 2, 0)) x) (am_lf 123 (some (.bipush 20, 2, 0)) x) x) (am_br 128 (am_lf 125 (some (.invokestatic 25, 3, 1050462)) x) (am_lf 128 (some (.ifCond .eq 7, 3, 0)) x) x) x) (am_br 135 (am_br 132 (am_lf 131 (some (.iconst 1, 1, 0)) x) (am_lf 132 (some (.goto 4, 3, 0)) x) x) (am_br 136 (am_lf 135 (some (.iconst 0, 1, 0)) x) (am_lf 136 (some (.ireturn, 1, 0)) x) x) x) x) (am_br 143 (am_br 141 (am_br 138 (am_lf 137 (some (.aload_n 1, 1, 0)) x) (am_lf 138 (some (.getfield 51, 3, 1010173)) x) x) (am_br 142 (am_lf 141 (some (.iconst 1, 1, 0)) x) (am_lf 142 (some (.iconst 5, 1, 0)) x) x) x) (am_br 147 (am_br 146 (am_lf 143 (some (.invokestatic 25, 3, 1050462)) x) (am_lf 146 (some (.ireturn, 1, 0)) x) x) (am_br 148 (am_lf 147 (some (.aload_n 1, 1, 0)) x) (am_br 151 (am_lf 148 (some (.getfield 51, 3, 1010173)) x) (am_lf 151 (some (.iconst 1, 1, 0)) x) x) x) x) x) x) (am_br 167 (am_br 159 (am_br 157 (am_br 154 (am_lf 152 (some (.bipush 9, 2, 0)) x) (am_lf 154 (some (.invokestatic 25, 3, 1050462)) x) x) (am_br 158 (am_lf 157 (some (.ireturn, 1, 0)) x) (am_lf 158 (some (.aload_n 1, 1, 0)) x) x) x) (am_br 163 (am_br 162 (am_lf 159 (some (.getfield 72, 3, 1050189)) x) (am_lf 162 (some (.iconst 0, 1, 0)) x) x) (am_br 164 (am_lf 163 (some (.iconst 3, 1, 0)) x) (am_lf 164 (some (.invokestatic 25, 3, 1050462)) x) x) x) x) (am_br 173 (am_br 169 (am_br 168 (am_lf 167 (some (.ireturn, 1, 0)) x) (am_lf 168 (some (.aload_n 1, 1, 0)) x) x) (am_br 172 (am_lf 169 (some (.getfield 54, 3, 1020177)) x) (am_lf 172 (some (.iconst 0, 1, 0)) x) x) x) (am_br 177 (am_br 174 (am_lf 173 (some (.iconst 1, 1, 0)) x) (am_lf 174 (some (.invokestatic 25, 3, 1050462)) x) x) (am_br 178 (am_lf 177 (some (.ireturn, 1, 0)) x) (am_br 179 (am_lf 178 (some (.iconst 1, 1, 0)) x) (am_lf 179 (some (.ireturn, 1, 0)) x) x) x) x) x) x) x) x
def am_i_Runner_init : Nat → Option (ClassFile.Instr × Nat × Nat) := fun x => am_br 42 (am_br 21 (am_br 9 (am_br 4 (am_br 1 (am_lf 0 (some (.aload_n 0, 1, 0)) x) (am_lf 1 (some (.invokespecial 3, 3, 10000146)) x) x) (am_br 5 (am_lf 4 (some (.aload_n 0, 1, 0)) x) (am_br 8 (am_lf 5 (some (.new 9, 3, 80147)) x) (am_lf 8 (some (.dup, 1, 0)) x) x) x) x) (am_br 16 (am_br 12 (am_lf 9 (some (.invokespecial 11, 3, 500149)) x) (am_br 15 (am_lf 12 (some (.putfield 12, 3, 9000241)) x) (am_lf 15 (some (.aload_n 0, 1, 0)) x) x) x) (am_br 17 (am_lf 16 (some (.iconst 0, 1, 0)) x) (am_br 20 (am_lf 17 (some (.putfield 18, 3, 9010243)) x) (am_lf 20 (some (.aload_n 0, 1, 0)) x) x) x) x) x) (am_br 31 (am_br 26 (am_br 22 (am_lf 21 (some (.iconst 0, 1, 0)) x) (am_br 25 (am_lf 22 (some (.putfield 22, 3, 9020245)) x) (am_lf 25 (some (.aload_n 0, 1, 0)) x) x) x) (am_br 27 (am_lf 26 (some (.iconst 0, 1, 0)) x) (am_br 30 (am_lf 27 (some (.putfield 25, 3, 9030247)) x) (am_lf 30 (some (.aload_n 0, 1, 0)) x) x) x) x) (am_br 37 (am_br 33 (am_lf 31 (some (.bipush (-9), 2, 0)) x) (am_br 36 (am_lf 33 (some (.putfield 28, 3, 9040249)) x) (am_lf 36 (some (.aload_n 0, 1, 0)) x) x) x) (am_br 38 (am_lf 37 (some (.iconst 0, 1, 0)) x) (am_br 41 (am_lf 38 (some (.putfield 31, 3, 9050251)) x) (am_lf 41 (some (.aload_n 0, 1, 0)) x) x) x) x) x) x) (am_br 63 (am_br 53 (am_br 46 (am_br 45 (am_lf 42 (some (.new 34, 3, 10158)) x) (am_lf 45 (some (.dup, 1, 0)) x) x) (am_br 49 (am_lf 46 (some (.invokespecial 36, 3, 170160)) x) (am_br 52 (am_lf 49 (some (.putfield 37, 3, 9090256)) x) (am_lf 52 (some (.aload_n 0, 1, 0)) x) x) x) x) (am_br 58 (am_br 54 (am_lf 53 (some (.iconst 0, 1, 0)) x) (am_br 57 (am_lf 54 (some (.putfield 41, 3, 9100257)) x) (am_lf 57 (some (.aload_n 0, 1, 0)) x) x) x) (am_br 59 (am_lf 58 (some (.aload_n 1, 1, 0)) x) (am_br 62 (am_lf 59 (some (.putfield 44, 3, 9060253)) x) (am_lf 62 (some (.aload_n 0, 1, 0)) x) x) x) x) x) (am_br 75 (am_br 68 (am_br 66 (am_lf 63 (some (.new 48, 3, 60203)) x) (am_br 67 (am_lf 66 (some (.dup, 1, 0)) x) (am_lf 67 (some (.aload_n 1, 1, 0)) x) x) x) (am_br 71 (am_lf 68 (some (.invokespecial 50, 3, 360205)) x) (am_br 74 (am_lf 71 (some (.putfield 53, 3, 9070254)) x) (am_lf 74 (some (.aload_n 0, 1, 0)) x) x) x) x) (am_br 80 (am_br 78 (am_lf 75 (some (.new 57, 3, 30231)) x) (am_br 79 (am_lf 78 (some (.dup, 1, 0)) x) (am_lf 79 (some (.aload_n 1, 1, 0)) x) x) x) (am_br 83 (am_lf 80 (some (.invokespecial 59, 3, 250233)) x) (am_br 86 (am_lf 83 (some (.putfield 60, 3, 9080255)) x) (am_lf 86 (some (.return_, 1, 0)) x) x) x) x) x) x) x
def am_i_Runner_begin : Nat → Option (ClassFile.Instr × Nat × Nat) := fun x => am_br 15 (am_br 6 (am_br 2 (am_br 1 (am_lf 0 (some (.aload_n 0, 1, 0)) x) (am_lf 1 (some (.iconst 0, 1, 0)) x) x) (am_br 5 (am_lf 2 (some (.putfield 18, 3, 9010243)) x) (am_lf 5 (some (.aload_n 0, 1, 0)) x) x) x) (am_br 10 (am_br 7 (am_lf 6 (some (.iconst 0, 1, 0)) x) (am_lf 7 (some (.putfield 22, 3, 9020245)) x) x) (am_br 11 (am_lf 10 (some (.aload_n 0, 1, 0)) x) (am_br 12 (am_lf 11 (some (.iconst 0, 1, 0)) x) (am_lf 12 (some (.putfield 25, 3, 9030247)) x) x) x) x) x) (am_br 23 (am_br 18 (am_br 16 (am_lf 15 (some (.aload_n 0, 1, 0)) x) (am_lf 16 (some (.bipush (-9), 2, 0)) x) x) (am_br 21 (am_lf 18 (some (.putfield 28, 3, 9040249)) x) (am_br 22 (am_lf 21 (some (.aload_n 0, 1, 0)) x) (am_lf 22 (some (.iconst 0, 1, 0)) x) x) x) x) (am_br 27 (am_br 26 (am_lf 23 (some (.putfield 31, 3, 9050251)) x) (am_lf 26 (some (.aload_n 0, 1, 0)) x) x) (am_br 28 (am_lf 27 (some (.iconst 0, 1, 0)) x) (am_br 31 (am_lf 28 (some (.putfield 41, 3, 9100257)) x) (am_lf 31 (some (.return_, 1, 0)) x) x) x) x) x) x
def am_i_Runner_perform : Nat → Option (ClassFile.Instr × Nat × Nat) := fun x => am_br 30 (am_br 15 (am_br 6 (am_br 2 (am_br 1 (am_lf 0 (some (.aload_n 0, 1, 0)) x) (am_lf 1 (some (.dup, 1, 0)) x) x) (am_br 5 (am_lf 2 (some (.getfield 25, 3, 9030247)) x) (am_lf 5 (some (.iconst 1, 1, 0)) x) x) x) (am_br 10 (am_br 7 (am_lf 6 (some (.iadd, 1, 0)) x) (am_lf 7 (some (.putfield 25, 3, 9030247)) x) x) (am_br 11 (am_lf 10 (some (.aload_n 0, 1, 0)) x) (am_br 14 (am_lf 11 (some (.getfield 12, 3, 9000241)) x) (am_lf 14 (some (.aload_n 1, 1, 0)) x) x) x) x) x) (am_br 23 (am_br 19 (am_br 16 (am_lf 15 (some (.aload_n 0, 1, 0)) x) (am_lf 16 (some (.getfield 44, 3, 9060253)) x) x) (am_br 22 (am_lf 19 (some (.invokevirtual 64, 3, 510456)) x) (am_lf 22 (some (.istore_n 3, 1, 0)) x) x) x) (am_br 27 (am_br 24 (am_lf 23 (some (.iload_n 3, 1, 0)) x) (am_lf 24 (some (.ifCond .eq 16, 3, 0)) x) x) (am_br 28 (am_lf 27 (some (.aload_n 0, 1, 0)) x) (am_br 29 (am_lf 28 (some (.iload_n 3, 1, 0)) x) (am_lf 29 (some (.aload_n 1, 1, 0)) x) x) x) x) x) x) (am_br 50 (am_br 40 (am_br 34 (am_br 33 (am_lf 30 (some (.getfield 68, 3, 1000168)) x) (am_lf 33 (some (.iload_n 2, 1, 0)) x) x) (am_br 37 (am_lf 34 (some (.invokevirtual 71, 3, 640490)) x) (am_lf 37 (some (.goto 31, 3, 0)) x) x) x) (am_br 44 (am_br 41 (am_lf 40 (some (.aload_n 1, 1, 0)) x) (am_lf 41 (some (.getfield 68, 3, 1000168)) x) x) (am_br 46 (am_lf 44 (some (.bipush 8, 2, 0)) x) (am_br 49 (am_lf 46 (some (.if_icmp .gt 14, 3, 0)) x) (am_lf 49 (some (.aload_n 0, 1, 0)) x) x) x) x) x) (am_br 60 (am_br 54 (am_br 53 (am_lf 50 (some (.getfield 53, 3, 9070254)) x) (am_lf 53 (some (.aload_n 1, 1, 0)) x) x) (am_br 57 (am_lf 54 (some (.invokevirtual 75, 3, 370494)) x) (am_lf 57 (some (.goto 11, 3, 0)) x) x) x) (am_br 64 (am_br 61 (am_lf 60 (some (.aload_n 0, 1, 0)) x) (am_lf 61 (some (.getfield 60, 3, 9080255)) x) x) (am_br 65 (am_lf 64 (some (.aload_n 1, 1, 0)) x) (am_br 68 (am_lf 65 (some (.invokevirtual 79, 3, 260567)) x) (am_lf 68 (some (.return_, 1, 0)) x) x) x) x) x) x) x
def am_i_Runner_callMacro : Nat → Option (ClassFile.Instr × Nat × Nat) := fun x => am_br 44 (am_br 22 (am_br 10 (am_br 6 (am_br 1 (am_lf 0 (some (.iload_n 2, 1, 0)) x) (am_br 3 (am_lf 1 (some (.bipush 20, 2, 0)) x) (am_lf 3 (some (.if_icmp .le 12, 3, 0)) x) x) x) (am_br 7 (am_lf 6 (some (.aload_n 0, 1, 0)) x) (am_br 8 (am_lf 7 (some (.iconst 5, 1, 0)) x) (am_lf 8 (some (.bipush (-9), 2, 0)) x) x) x) x) (am_br 15 (am_br 11 (am_lf 10 (some (.iload_n 2, 1, 0)) x) (am_br 14 (am_lf 11 (some (.invokevirtual 71, 3, 640490)) x) (am_lf 14 (some (.return_, 1, 0)) x) x) x) (am_br 16 (am_lf 15 (some (.aload_n 0, 1, 0)) x) (am_br 19 (am_lf 16 (some (.getfield 44, 3, 9060253)) x) (am_lf 19 (some (.getfield 80, 3, 20103)) x) x) x) x) x) (am_br 31 (am_br 25 (am_br 23 (am_lf 22 (some (.istore_n 3, 1, 0)) x) (am_br 24 (am_lf 23 (some (.aload_n 0, 1, 0)) x) (am_lf 24 (some (.aload_n 1, 1, 0)) x) x) x) (am_br 28 (am_lf 25 (some (.invokevirtual 85, 3, 610760)) x) (am_br 30 (am_lf 28 (some (.istore 4, 2, 0)) x) (am_lf 30 (some (.iconst 0, 1, 0)) x) x) x) x) (am_br 37 (am_br 33 (am_lf 31 (some (.istore 5, 2, 0)) x) (am_br 35 (am_lf 33 (some (.iload 5, 2, 0)) x) (am_lf 35 (some (.iload 4, 2, 0)) x) x) x) (am_br 40 (am_lf 37 (some (.if_icmp .ge 39, 3, 0)) x) (am_br 41 (am_lf 40 (some (.aload_n 0, 1, 0)) x) (am_lf 41 (some (.getfield 18, 3, 9010243)) x) x) x) x) x) x) (am_br 67 (am_br 56 (am_br 51 (am_br 47 (am_lf 44 (some (.ifCond .ne 32, 3, 0)) x) (am_br 48 (am_lf 47 (some (.aload_n 1, 1, 0)) x) (am_lf 48 (some (.getfield 89, 3, 4000683)) x) x) x) (am_br 52 (am_lf 51 (some (.iconst 3, 1, 0)) x) (am_br 55 (am_lf 52 (some (.if_icmp .ne 12, 3, 0)) x) (am_lf 55 (some (.aload_n 0, 1, 0)) x) x) x) x) (am_br 64 (am_br 59 (am_lf 56 (some (.getfield 44, 3, 9060253)) x) (am_br 61 (am_lf 59 (some (.iload 5, 2, 0)) x) (am_lf 61 (some (.putfield 80, 3, 20103)) x) x) x) (am_br 65 (am_lf 64 (some (.aload_n 0, 1, 0)) x) (am_br 66 (am_lf 65 (some (.aload_n 1, 1, 0)) x) (am_lf 66 (some (.iload_n 2, 1, 0)) x) x) x) x) x) (am_br 81 (am_br 76 (am_br 70 (am_lf 67 (some (.invokevirtual 92, 3, 630770)) x) (am_br 73 (am_lf 70 (some (.iinc 5 1, 3, 0)) x) (am_lf 73 (some (.goto (-40), 3, 0)) x) x) x) (am_br 77 (am_lf 76 (some (.aload_n 1, 1, 0)) x) (am_br 80 (am_lf 77 (some (.getfield 89, 3, 4000683)) x) (am_lf 80 (some (.iconst 3, 1, 0)) x) x) x) x) (am_br 88 (am_br 84 (am_lf 81 (some (.if_icmp .ne 11, 3, 0)) x) (am_br 85 (am_lf 84 (some (.aload_n 0, 1, 0)) x) (am_lf 85 (some (.getfield 44, 3, 9060253)) x) x) x) (am_br 89 (am_lf 88 (some (.iload_n 3, 1, 0)) x) (am_br 92 (am_lf 89 (some (.putfield 80, 3, 20103)) x) (am_lf 92 (some (.return_, 1, 0)) x) x) x) x) x) x) x
def am_i_Runner_roundsOf : Nat → Option (ClassFile.Instr × Nat × Nat) := fun x => am_br 42 (am_br 33 (am_br 4 (am_br 1 (am_lf 0 (some (.aload_n 1, 1, 0)) x) (am_lf 1 (some (.getfield 89, 3, 4000683)) x) x) (am_br 32 (am_lf 4 (some (.tableswitch 49 1 3 #[28, 33, 47], 28, 0)) x) (am_lf 32 (some (.aload_n 1, 1, 0)) x) x) x) (am_br 37 (am_br 36 (am_lf 33 (some (.getfield 96, 3, 4030690)) x) (am_lf 36 (some (.ireturn, 1, 0)) x) x) (am_br 38 (am_lf 37 (some (.aload_n 0, 1, 0)) x) (am_br 39 (am_lf 38 (some (.aload_n 1, 1, 0)) x) (am_lf 39 (some (.invokevirtual 99, 3, 620764)) x) x) x) x) x) (am_br 50 (am_br 46 (am_br 45 (am_lf 42 (some (.ifCond .eq 7, 3, 0)) x) (am_lf 45 (some (.iconst 1, 1, 0)) x) x) (am_br 49 (am_lf 46 (some (.goto 4, 3, 0)) x) (am_lf 49 (some (.iconst 0, 1, 0)) x) x) x) (am_br 52 (am_br 51 (am_lf 50 (some (.ireturn, 1, 0)) x) (am_lf 51 (some (.iconst 3, 1, 0)) x) x) (am_br 53 (am_lf 52 (some (.ireturn, 1, 0)) x) (am_br 54 (am_lf 53 (some (.iconst 1, 1, 0)) x) (am_lf 54 (some (.ireturn, 1, 0)) x) x) x) x) x) x
def am_i_Runner_isTrue : Nat → Option (ClassFile.Instr × Nat × Nat) := fun x => am_br 23 (am_br 9 (am_br 4 (am_br 1 (am_lf 0 (some (.aload_n 0, 1, 0)) x) (am_lf 1 (some (.getfield 44, 3, 9060253)) x) x) (am_br 5 (am_lf 4 (some (.aload_n 1, 1, 0)) x) (am_br 8 (am_lf 5 (some (.getfield 96, 3, 4030690)) x) (am_lf 8 (some (.aload_n 1, 1, 0)) x) x) x) x) (am_br 18 (am_br 12 (am_lf 9 (some (.getfield 103, 3, 4010686)) x) (am_br 15 (am_lf 12 (some (.invokevirtual 106, 3, 30768)) x) (am_lf 15 (some (.ifCond .eq 29, 3, 0)) x) x) x) (am_br 19 (am_lf 18 (some (.aload_n 0, 1, 0)) x) (am_br 22 (am_lf 19 (some (.getfield 44, 3, 9060253)) x) (am_lf 22 (some (.aload_n 1, 1, 0)) x) x) x) x) x) (am_br 34 (am_br 27 (am_br 26 (am_lf 23 (some (.getfield 96, 3, 4030690)) x) (am_lf 26 (some (.aload_n 1, 1, 0)) x) x) (am_br 30 (am_lf 27 (some (.getfield 103, 3, 4010686)) x) (am_br 33 (am_lf 30 (some (.invokevirtual 110, 3, 50769)) x) (am_lf 33 (some (.aload_n 1, 1, 0)) x) x) x) x) (am_br 41 (am_br 37 (am_lf 34 (some (.getfield 114, 3, 4020688)) x) (am_br 40 (am_lf 37 (some (.if_icmp .ne 7, 3, 0)) x) (am_lf 40 (some (.iconst 1, 1, 0)) x) x) x) (am_br 44 (am_lf 41 (some (.goto 4, 3, 0)) x) (am_br 45 (am_lf 44 (some (.iconst 0, 1, 0)) x) (am_lf 45 (some (.ireturn, 1, 0)) x) x) x) x) x) x
def am_i_Runner_callParts : Nat → Option (ClassFile.Instr × Nat × Nat) := fun x => am_br 60 (am_br 31 (am_br 14 (am_br 4 (am_br 2 (am_br 1 (am_lf 0 (some (.iconst 0, 1, 0)) x) (am_lf 1 (some (.istore_n 3, 1, 0)) x) x) (am_br 3 (am_lf 2 (some (.iload_n 3, 1, 0)) x) (am_lf 3 (some (.aload_n 1, 1, 0)) x) x) x) (am_br 10 (am_br 7 (am_lf 4 (some (.getfield 117, 3, 4040693)) x) (am_lf 7 (some (.if_icmp .ge 127, 3, 0)) x) x) (am_br 11 (am_lf 10 (some (.aload_n 0, 1, 0)) x) (am_lf 11 (some (.getfield 18, 3, 9010243)) x) x) x) x) (am_br 22 (am_br 18 (am_br 17 (am_lf 14 (some (.ifCond .ne 120, 3, 0)) x) (am_lf 17 (some (.aload_n 1, 1, 0)) x) x) (am_br 19 (am_lf 18 (some (.iload_n 3, 1, 0)) x) (am_lf 19 (some (.invokevirtual 120, 3, 340774)) x) x) x) (am_br 25 (am_br 24 (am_lf 22 (some (.astore 4, 2, 0)) x) (am_lf 24 (some (.aload_n 0, 1, 0)) x) x) (am_br 28 (am_lf 25 (some (.getfield 41, 3, 9100257)) x) (am_lf 28 (some (.sipush 300, 3, 0)) x) x) x) x) x) (am_br 44 (am_br 38 (am_br 35 (am_br 34 (am_lf 31 (some (.if_icmp .lt 12, 3, 0)) x) (am_lf 34 (some (.aload_n 0, 1, 0)) x) x) (am_br 36 (am_lf 35 (some (.iconst 5, 1, 0)) x) (am_lf 36 (some (.bipush (-9), 2, 0)) x) x) x) (am_br 42 (am_br 39 (am_lf 38 (some (.iload_n 2, 1, 0)) x) (am_lf 39 (some (.invokevirtual 71, 3, 640490)) x) x) (am_br 43 (am_lf 42 (some (.return_, 1, 0)) x) (am_lf 43 (some (.aload_n 0, 1, 0)) x) x) x) x) (am_br 50 (am_br 48 (am_br 45 (am_lf 44 (some (.dup, 1, 0)) x) (am_lf 45 (some (.getfield 41, 3, 9100257)) x) x) (am_br 49 (am_lf 48 (some (.iconst 1, 1, 0)) x) (am_lf 49 (some (.iadd, 1, 0)) x) x) x) (am_br 55 (am_br 53 (am_lf 50 (some (.putfield 41, 3, 9100257)) x) (am_lf 53 (some (.aload 4, 2, 0)) x) x) (am_br 58 (am_lf 55 (some (.ifnull 26, 3, 0)) x) (am_lf 58 (some (.aload 4, 2, 0)) x) x) x) x) x) x) (am_br 96 (am_br 75 (am_br 69 (am_br 66 (am_br 63 (am_lf 60 (some (.getfield 124, 3, 7010729)) x) (am_lf 63 (some (.ifnull 18, 3, 0)) x) x) (am_br 67 (am_lf 66 (some (.aload_n 0, 1, 0)) x) (am_lf 67 (some (.aload 4, 2, 0)) x) x) x) (am_br 73 (am_br 72 (am_lf 69 (some (.getfield 124, 3, 7010729)) x) (am_lf 72 (some (.iload_n 2, 1, 0)) x) x) (am_br 74 (am_lf 73 (some (.iconst 1, 1, 0)) x) (am_lf 74 (some (.iadd, 1, 0)) x) x) x) x) (am_br 86 (am_br 81 (am_br 78 (am_lf 75 (some (.invokevirtual 130, 3, 600778)) x) (am_lf 78 (some (.goto 50, 3, 0)) x) x) (am_br 83 (am_lf 81 (some (.aload 4, 2, 0)) x) (am_lf 83 (some (.ifnull 45, 3, 0)) x) x) x) (am_br 91 (am_br 88 (am_lf 86 (some (.aload 4, 2, 0)) x) (am_lf 88 (some (.getfield 133, 3, 7000727)) x) x) (am_br 94 (am_lf 91 (some (.ifnull 37, 3, 0)) x) (am_lf 94 (some (.aload 4, 2, 0)) x) x) x) x) x) (am_br 116 (am_br 107 (am_br 102 (am_br 99 (am_lf 96 (some (.getfield 137, 3, 7020731)) x) (am_lf 99 (some (.ifnull 29, 3, 0)) x) x) (am_br 104 (am_lf 102 (some (.aload 4, 2, 0)) x) (am_lf 104 (some (.getfield 133, 3, 7000727)) x) x) x) (am_br 111 (am_br 108 (am_lf 107 (some (.aload_n 0, 1, 0)) x) (am_lf 108 (some (.getfield 37, 3, 9090256)) x) x) (am_br 113 (am_lf 111 (some (.aload 4, 2, 0)) x) (am_lf 113 (some (.getfield 137, 3, 7020731)) x) x) x) x) (am_br 124 (am_br 120 (am_br 119 (am_lf 116 (some (.invokevirtual 141, 3, 240779)) x) (am_lf 119 (some (.aload_n 0, 1, 0)) x) x) (am_br 121 (am_lf 120 (some (.aload_n 0, 1, 0)) x) (am_lf 121 (some (.getfield 37, 3, 9090256)) x) x) x) (am_br 128 (am_br 125 (am_lf 124 (some (.iload_n 2, 1, 0)) x) (am_lf 125 (some (.invokevirtual 147, 3, 590780)) x) x) (am_br 131 (am_lf 128 (some (.iinc 3 1, 3, 0)) x) (am_br 134 (am_lf 131 (some (.goto (-129), 3, 0)) x) (am_lf 134 (some (.return_, 1, 0)) x) x) x) x) x) x) x) x
def am_i_Runner_fail : Nat → Option (ClassFile.Instr × Nat × Nat) := fun x => am_br 7 (am_br 2 (am_br 1 (am_lf 0 (some (.aload_n 0, 1, 0)) x) (am_lf 1 (some (.iload_n 1, 1, 0)) x) x) (am_br 5 (am_lf 2 (some (.putfield 18, 3, 9010243)) x) (am_br 6 (am_lf 5 (some (.aload_n 0, 1, 0)) x) (am_lf 6 (some (.iload_n 2, 1, 0)) x) x) x) x) (am_br 11 (am_br 10 (am_lf 7 (some (.putfield 28, 3, 9040249)) x) (am_lf 10 (some (.aload_n 0, 1, 0)) x) x) (am_br 12 (am_lf 11 (some (.iload_n 3, 1, 0)) x) (am_br 15 (am_lf 12 (some (.putfield 31, 3, 9050251)) x) (am_lf 15 (some (.return_, 1, 0)) x) x) x) x) x
def am_i_Tree_init : Nat → Option (ClassFile.Instr × Nat × Nat) := fun x => am_br 13 (am_br 5 (am_br 1 (am_lf 0 (some (.aload_n 0, 1, 0)) x) (am_br 4 (am_lf 1 (some (.invokespecial 3, 3, 10000126)) x) (am_lf 4 (some (.aload_n 0, 1, 0)) x) x) x) (am_br 7 (am_lf 5 (some (.bipush 60, 2, 0)) x) (am_br 10 (am_lf 7 (some (.anewarray 9, 3, 20127)) x) (am_lf 10 (some (.putfield 11, 3, 10000129)) x) x) x) x) (am_br 18 (am_br 14 (am_lf 13 (some (.aload_n 0, 1, 0)) x) (am_br 15 (am_lf 14 (some (.iconst 0, 1, 0)) x) (am_lf 15 (some (.putfield 17, 3, 10010130)) x) x) x) (am_br 20 (am_br 19 (am_lf 18 (some (.aload_n 0, 1, 0)) x) (am_lf 19 (some (.iconst 0, 1, 0)) x) x) (am_br 23 (am_lf 20 (some (.putfield 21, 3, 10020132)) x) (am_lf 23 (some (.return_, 1, 0)) x) x) x) x) x
def am_i_Tree_plant : Nat → Option (ClassFile.Instr × Nat × Nat) := fun x => am_br 25 (am_br 11 (am_br 3 (am_br 1 (am_lf 0 (some (.iconst 0, 1, 0)) x) (am_br 2 (am_lf 1 (some (.istore_n 2, 1, 0)) x) (am_lf 2 (some (.iload_n 2, 1, 0)) x) x) x) (am_br 7 (am_br 4 (am_lf 3 (some (.aload_n 0, 1, 0)) x) (am_lf 4 (some (.getfield 11, 3, 10000129)) x) x) (am_br 8 (am_lf 7 (some (.arraylength, 1, 0)) x) (am_lf 8 (some (.if_icmp .ge 28, 3, 0)) x) x) x) x) (am_br 17 (am_br 15 (am_br 12 (am_lf 11 (some (.aload_n 0, 1, 0)) x) (am_lf 12 (some (.getfield 11, 3, 10000129)) x) x) (am_br 16 (am_lf 15 (some (.iload_n 2, 1, 0)) x) (am_lf 16 (some (.aaload, 1, 0)) x) x) x) (am_br 21 (am_br 20 (am_lf 17 (some (.ifnull 13, 3, 0)) x) (am_lf 20 (some (.aload_n 0, 1, 0)) x) x) (am_br 24 (am_lf 21 (some (.getfield 11, 3, 10000129)) x) (am_lf 24 (some (.iload_n 2, 1, 0)) x) x) x) x) x) (am_br 41 (am_br 33 (am_br 27 (am_br 26 (am_lf 25 (some (.aaload, 1, 0)) x) (am_lf 26 (some (.iconst 0, 1, 0)) x) x) (am_br 30 (am_lf 27 (some (.putfield 24, 3, 5010313)) x) (am_lf 30 (some (.iinc 2 1, 3, 0)) x) x) x) (am_br 37 (am_br 36 (am_lf 33 (some (.goto (-31), 3, 0)) x) (am_lf 36 (some (.aload_n 0, 1, 0)) x) x) (am_br 38 (am_lf 37 (some (.iconst 0, 1, 0)) x) (am_lf 38 (some (.putfield 21, 3, 10020132)) x) x) x) x) (am_br 48 (am_br 44 (am_br 42 (am_lf 41 (some (.aload_n 0, 1, 0)) x) (am_lf 42 (some (.bipush (-9), 2, 0)) x) x) (am_br 47 (am_lf 44 (some (.putfield 17, 3, 10010130)) x) (am_lf 47 (some (.aload_n 0, 1, 0)) x) x) x) (am_br 52 (am_br 49 (am_lf 48 (some (.aload_n 1, 1, 0)) x) (am_lf 49 (some (.invokevirtual 28, 3, 680295)) x) x) (am_br 53 (am_lf 52 (some (.pop, 1, 0)) x) (am_lf 53 (some (.return_, 1, 0)) x) x) x) x) x) x
def am_i_Tree_isFull : Nat → Option (ClassFile.Instr × Nat × Nat) := fun x => am_br 9 (am_br 4 (am_br 1 (am_lf 0 (some (.aload_n 0, 1, 0)) x) (am_lf 1 (some (.getfield 21, 3, 10020132)) x) x) (am_br 5 (am_lf 4 (some (.aload_n 0, 1, 0)) x) (am_br 8 (am_lf 5 (some (.getfield 11, 3, 10000129)) x) (am_lf 8 (some (.arraylength, 1, 0)) x) x) x) x) (am_br 13 (am_br 12 (am_lf 9 (some (.if_icmp .lt 7, 3, 0)) x) (am_lf 12 (some (.iconst 1, 1, 0)) x) x) (am_br 16 (am_lf 13 (some (.goto 4, 3, 0)) x) (am_br 17 (am_lf 16 (some (.iconst 0, 1, 0)) x) (am_lf 17 (some (.ireturn, 1, 0)) x) x) x) x) x
def am_i_Tree_grow : Nat → Option (ClassFile.Instr × Nat × Nat) := fun x => am_br 47 (am_br 23 (am_br 11 (am_br 7 (am_br 1 (am_lf 0 (some (.aload_n 0, 1, 0)) x) (am_br 4 (am_lf 1 (some (.invokevirtual 32, 3, 670299)) x) (am_lf 4 (some (.ifCond .eq 6, 3, 0)) x) x) x) (am_br 9 (am_lf 7 (some (.bipush (-3), 2, 0)) x) (am_br 10 (am_lf 9 (some (.ireturn, 1, 0)) x) (am_lf 10 (some (.aload_n 0, 1, 0)) x) x) x) x) (am_br 18 (am_br 14 (am_lf 11 (some (.getfield 11, 3, 10000129)) x) (am_br 15 (am_lf 14 (some (.aload_n 0, 1, 0)) x) (am_lf 15 (some (.getfield 21, 3, 10020132)) x) x) x) (am_br 19 (am_lf 18 (some (.aaload, 1, 0)) x) (am_br 22 (am_lf 19 (some (.ifnonnull 19, 3, 0)) x) (am_lf 22 (some (.aload_n 0, 1, 0)) x) x) x) x) x) (am_br 37 (am_br 30 (am_br 26 (am_lf 23 (some (.getfield 11, 3, 10000129)) x) (am_br 27 (am_lf 26 (some (.aload_n 0, 1, 0)) x) (am_lf 27 (some (.getfield 21, 3, 10020132)) x) x) x) (am_br 33 (am_lf 30 (some (.new 9, 3, 50127)) x) (am_br 34 (am_lf 33 (some (.dup, 1, 0)) x) (am_lf 34 (some (.invokespecial 36, 3, 350304)) x) x) x) x) (am_br 42 (am_br 38 (am_lf 37 (some (.aastore, 1, 0)) x) (am_br 39 (am_lf 38 (some (.aload_n 0, 1, 0)) x) (am_lf 39 (some (.getfield 11, 3, 10000129)) x) x) x) (am_br 43 (am_lf 42 (some (.aload_n 0, 1, 0)) x) (am_br 46 (am_lf 43 (some (.getfield 21, 3, 10020132)) x) (am_lf 46 (some (.aaload, 1, 0)) x) x) x) x) x) x) (am_br 69 (am_br 57 (am_br 50 (am_br 48 (am_lf 47 (some (.astore_n 2, 1, 0)) x) (am_br 49 (am_lf 48 (some (.aload_n 2, 1, 0)) x) (am_lf 49 (some (.aload_n 0, 1, 0)) x) x) x) (am_br 53 (am_lf 50 (some (.getfield 17, 3, 10010130)) x) (am_br 56 (am_lf 53 (some (.putfield 37, 3, 5000311)) x) (am_lf 56 (some (.aload_n 2, 1, 0)) x) x) x) x) (am_br 62 (am_br 58 (am_lf 57 (some (.iconst 1, 1, 0)) x) (am_br 61 (am_lf 58 (some (.putfield 24, 3, 5010313)) x) (am_lf 61 (some (.aload_n 2, 1, 0)) x) x) x) (am_br 65 (am_lf 62 (some (.getfield 40, 3, 5020315)) x) (am_br 66 (am_lf 65 (some (.aload_n 1, 1, 0)) x) (am_lf 66 (some (.invokevirtual 44, 3, 20323)) x) x) x) x) x) (am_br 79 (am_br 74 (am_br 70 (am_lf 69 (some (.aload_n 0, 1, 0)) x) (am_br 71 (am_lf 70 (some (.aload_n 0, 1, 0)) x) (am_lf 71 (some (.getfield 21, 3, 10020132)) x) x) x) (am_br 77 (am_lf 74 (some (.putfield 17, 3, 10010130)) x) (am_br 78 (am_lf 77 (some (.aload_n 0, 1, 0)) x) (am_lf 78 (some (.dup, 1, 0)) x) x) x) x) (am_br 84 (am_br 82 (am_lf 79 (some (.getfield 21, 3, 10020132)) x) (am_br 83 (am_lf 82 (some (.iconst 1, 1, 0)) x) (am_lf 83 (some (.iadd, 1, 0)) x) x) x) (am_br 88 (am_br 87 (am_lf 84 (some (.putfield 21, 3, 10020132)) x) (am_lf 87 (some (.aload_n 0, 1, 0)) x) x) (am_br 91 (am_lf 88 (some (.getfield 17, 3, 10010130)) x) (am_lf 91 (some (.ireturn, 1, 0)) x) x) x) x) x) x) x
def am_i_Tree_find : Nat → Option (ClassFile.Instr × Nat × Nat) := fun x => am_br 19 (am_br 9 (am_br 4 (am_br 1 (am_lf 0 (some (.iload_n 1, 1, 0)) x) (am_lf 1 (some (.ifCond .lt 12, 3, 0)) x) x) (am_br 5 (am_lf 4 (some (.iload_n 1, 1, 0)) x) (am_br 6 (am_lf 5 (some (.aload_n 0, 1, 0)) x) (am_lf 6 (some (.getfield 11, 3, 10000129)) x) x) x) x) (am_br 14 (am_br 10 (am_lf 9 (some (.arraylength, 1, 0)) x) (am_br 13 (am_lf 10 (some (.if_icmp .lt 5, 3, 0)) x) (am_lf 13 (some (.aconst_null, 1, 0)) x) x) x) (am_br 15 (am_lf 14 (some (.areturn, 1, 0)) x) (am_br 16 (am_lf 15 (some (.aload_n 0, 1, 0)) x) (am_lf 16 (some (.getfield 11, 3, 10000129)) x) x) x) x) x) (am_br 27 (am_br 22 (am_br 20 (am_lf 19 (some (.iload_n 1, 1, 0)) x) (am_br 21 (am_lf 20 (some (.aaload, 1, 0)) x) (am_lf 21 (some (.astore_n 2, 1, 0)) x) x) x) (am_br 23 (am_lf 22 (some (.aload_n 2, 1, 0)) x) (am_br 26 (am_lf 23 (some (.ifnull 14, 3, 0)) x) (am_lf 26 (some (.aload_n 2, 1, 0)) x) x) x) x) (am_br 34 (am_br 30 (am_lf 27 (some (.getfield 24, 3, 5010313)) x) (am_br 33 (am_lf 30 (some (.ifCond .eq 7, 3, 0)) x) (am_lf 33 (some (.aload_n 2, 1, 0)) x) x) x) (am_br 37 (am_lf 34 (some (.goto 4, 3, 0)) x) (am_br 38 (am_lf 37 (some (.aconst_null, 1, 0)) x) (am_lf 38 (some (.areturn, 1, 0)) x) x) x) x) x) x
def am_i_Tree_has : Nat → Option (ClassFile.Instr × Nat × Nat) := fun x => am_br 8 (am_br 2 (am_br 1 (am_lf 0 (some (.aload_n 0, 1, 0)) x) (am_lf 1 (some (.iload_n 1, 1, 0)) x) x) (am_br 5 (am_lf 2 (some (.invokevirtual 50, 3, 690403)) x) (am_lf 5 (some (.ifnull 7, 3, 0)) x) x) x) (am_br 12 (am_br 9 (am_lf 8 (some (.iconst 1, 1, 0)) x) (am_lf 9 (some (.goto 4, 3, 0)) x) x) (am_br 13 (am_lf 12 (some (.iconst 0, 1, 0)) x) (am_lf 13 (some (.ireturn, 1, 0)) x) x) x) x
def am_i_Tree_clothOf : Nat → Option (ClassFile.Instr × Nat × Nat) := fun x => am_br 7 (am_br 2 (am_br 1 (am_lf 0 (some (.aload_n 0, 1, 0)) x) (am_lf 1 (some (.iload_n 1, 1, 0)) x) x) (am_br 5 (am_lf 2 (some (.invokevirtual 50, 3, 690403)) x) (am_br 6 (am_lf 5 (some (.astore_n 2, 1, 0)) x) (am_lf 6 (some (.aload_n 2, 1, 0)) x) x) x) x) (am_br 14 (am_br 10 (am_lf 7 (some (.ifnonnull 7, 3, 0)) x) (am_br 11 (am_lf 10 (some (.aconst_null, 1, 0)) x) (am_lf 11 (some (.goto 7, 3, 0)) x) x) x) (am_br 15 (am_lf 14 (some (.aload_n 2, 1, 0)) x) (am_br 18 (am_lf 15 (some (.getfield 40, 3, 5020315)) x) (am_lf 18 (some (.areturn, 1, 0)) x) x) x) x) x
def am_i_Tree_parentOf : Nat → Option (ClassFile.Instr × Nat × Nat) := fun x => am_br 7 (am_br 2 (am_br 1 (am_lf 0 (some (.aload_n 0, 1, 0)) x) (am_lf 1 (some (.iload_n 1, 1, 0)) x) x) (am_br 5 (am_lf 2 (some (.invokevirtual 50, 3, 690403)) x) (am_br 6 (am_lf 5 (some (.astore_n 2, 1, 0)) x) (am_lf 6 (some (.aload_n 2, 1, 0)) x) x) x) x) (am_br 15 (am_br 10 (am_lf 7 (some (.ifnonnull 8, 3, 0)) x) (am_br 12 (am_lf 10 (some (.bipush (-9), 2, 0)) x) (am_lf 12 (some (.goto 7, 3, 0)) x) x) x) (am_br 16 (am_lf 15 (some (.aload_n 2, 1, 0)) x) (am_br 19 (am_lf 16 (some (.getfield 37, 3, 5000311)) x) (am_lf 19 (some (.ireturn, 1, 0)) x) x) x) x) x
def am_i_Tree_thereCount : Nat → Option (ClassFile.Instr × Nat × Nat) := fun x => am_br 13 (am_br 4 (am_br 2 (am_br 1 (am_lf 0 (some (.iconst 0, 1, 0)) x) (am_lf 1 (some (.istore_n 1, 1, 0)) x) x) (am_br 3 (am_lf 2 (some (.iconst 0, 1, 0)) x) (am_lf 3 (some (.istore_n 2, 1, 0)) x) x) x) (am_br 6 (am_br 5 (am_lf 4 (some (.iload_n 2, 1, 0)) x) (am_lf 5 (some (.aload_n 0, 1, 0)) x) x) (am_br 9 (am_lf 6 (some (.getfield 11, 3, 10000129)) x) (am_br 10 (am_lf 9 (some (.arraylength, 1, 0)) x) (am_lf 10 (some (.if_icmp .ge 20, 3, 0)) x) x) x) x) x) (am_br 21 (am_br 15 (am_br 14 (am_lf 13 (some (.aload_n 0, 1, 0)) x) (am_lf 14 (some (.iload_n 2, 1, 0)) x) x) (am_br 18 (am_lf 15 (some (.invokevirtual 54, 3, 700399)) x) (am_lf 18 (some (.ifCond .eq 6, 3, 0)) x) x) x) (am_br 27 (am_br 24 (am_lf 21 (some (.iinc 1 1, 3, 0)) x) (am_lf 24 (some (.iinc 2 1, 3, 0)) x) x) (am_br 30 (am_lf 27 (some (.goto (-23), 3, 0)) x) (am_br 31 (am_lf 30 (some (.iload_n 1, 1, 0)) x) (am_lf 31 (some (.ireturn, 1, 0)) x) x) x) x) x) x
def am_i_Tree_countUnder : Nat → Option (ClassFile.Instr × Nat × Nat) := fun x => am_br 15 (am_br 5 (am_br 2 (am_br 1 (am_lf 0 (some (.iconst 0, 1, 0)) x) (am_lf 1 (some (.istore_n 2, 1, 0)) x) x) (am_br 3 (am_lf 2 (some (.iconst 0, 1, 0)) x) (am_br 4 (am_lf 3 (some (.istore_n 3, 1, 0)) x) (am_lf 4 (some (.iload_n 3, 1, 0)) x) x) x) x) (am_br 10 (am_br 6 (am_lf 5 (some (.aload_n 0, 1, 0)) x) (am_br 9 (am_lf 6 (some (.getfield 11, 3, 10000129)) x) (am_lf 9 (some (.arraylength, 1, 0)) x) x) x) (am_br 13 (am_lf 10 (some (.if_icmp .ge 29, 3, 0)) x) (am_br 14 (am_lf 13 (some (.aload_n 0, 1, 0)) x) (am_lf 14 (some (.iload_n 3, 1, 0)) x) x) x) x) x) (am_br 27 (am_br 22 (am_br 18 (am_lf 15 (some (.invokevirtual 54, 3, 700399)) x) (am_br 21 (am_lf 18 (some (.ifCond .eq 15, 3, 0)) x) (am_lf 21 (some (.aload_n 0, 1, 0)) x) x) x) (am_br 23 (am_lf 22 (some (.iload_n 3, 1, 0)) x) (am_br 26 (am_lf 23 (some (.invokevirtual 58, 3, 720798)) x) (am_lf 26 (some (.iload_n 1, 1, 0)) x) x) x) x) (am_br 36 (am_br 30 (am_lf 27 (some (.if_icmp .ne 6, 3, 0)) x) (am_br 33 (am_lf 30 (some (.iinc 2 1, 3, 0)) x) (am_lf 33 (some (.iinc 3 1, 3, 0)) x) x) x) (am_br 39 (am_lf 36 (some (.goto (-32), 3, 0)) x) (am_br 40 (am_lf 39 (some (.iload_n 2, 1, 0)) x) (am_lf 40 (some (.ireturn, 1, 0)) x) x) x) x) x) x
def am_i_Tree_highestUnder : Nat → Option (ClassFile.Instr × Nat × Nat) := fun x => am_br 17 (am_br 7 (am_br 4 (am_br 1 (am_lf 0 (some (.aload_n 0, 1, 0)) x) (am_lf 1 (some (.getfield 11, 3, 10000129)) x) x) (am_br 5 (am_lf 4 (some (.arraylength, 1, 0)) x) (am_br 6 (am_lf 5 (some (.iconst 1, 1, 0)) x) (am_lf 6 (some (.isub, 1, 0)) x) x) x) x) (am_br 12 (am_br 8 (am_lf 7 (some (.istore_n 2, 1, 0)) x) (am_br 9 (am_lf 8 (some (.iload_n 2, 1, 0)) x) (am_lf 9 (some (.ifCond .lt 28, 3, 0)) x) x) x) (am_br 13 (am_lf 12 (some (.aload_n 0, 1, 0)) x) (am_br 14 (am_lf 13 (some (.iload_n 2, 1, 0)) x) (am_lf 14 (some (.invokevirtual 54, 3, 700399)) x) x) x) x) x) (am_br 29 (am_br 22 (am_br 20 (am_lf 17 (some (.ifCond .eq 14, 3, 0)) x) (am_br 21 (am_lf 20 (some (.aload_n 0, 1, 0)) x) (am_lf 21 (some (.iload_n 2, 1, 0)) x) x) x) (am_br 25 (am_lf 22 (some (.invokevirtual 58, 3, 720798)) x) (am_br 26 (am_lf 25 (some (.iload_n 1, 1, 0)) x) (am_lf 26 (some (.if_icmp .ne 5, 3, 0)) x) x) x) x) (am_br 34 (am_br 30 (am_lf 29 (some (.iload_n 2, 1, 0)) x) (am_br 31 (am_lf 30 (some (.ireturn, 1, 0)) x) (am_lf 31 (some (.iinc 2 (-1), 3, 0)) x) x) x) (am_br 37 (am_lf 34 (some (.goto (-26), 3, 0)) x) (am_br 39 (am_lf 37 (some (.bipush (-9), 2, 0)) x) (am_lf 39 (some (.ireturn, 1, 0)) x) x) x) x) x) x
def am_i_Tree_changedIn : Nat → Option (ClassFile.Instr × Nat × Nat) := fun x => am_br 16 (am_br 7 (am_br 2 (am_br 1 (am_lf 0 (some (.aload_n 0, 1, 0)) x) (am_lf 1 (some (.iload_n 1, 1, 0)) x) x) (am_br 5 (am_lf 2 (some (.invokevirtual 62, 3, 710831)) x) (am_br 6 (am_lf 5 (some (.astore_n 2, 1, 0)) x) (am_lf 6 (some (.aload_n 0, 1, 0)) x) x) x) x) (am_br 9 (am_br 8 (am_lf 7 (some (.aload_n 0, 1, 0)) x) (am_lf 8 (some (.iload_n 1, 1, 0)) x) x) (am_br 12 (am_lf 9 (some (.invokevirtual 58, 3, 720798)) x) (am_br 15 (am_lf 12 (some (.invokevirtual 62, 3, 710831)) x) (am_lf 15 (some (.astore_n 3, 1, 0)) x) x) x) x) x) (am_br 25 (am_br 20 (am_br 17 (am_lf 16 (some (.aload_n 2, 1, 0)) x) (am_lf 17 (some (.ifnull 7, 3, 0)) x) x) (am_br 21 (am_lf 20 (some (.aload_n 3, 1, 0)) x) (am_br 24 (am_lf 21 (some (.ifnonnull 7, 3, 0)) x) (am_lf 24 (some (.iconst 0, 1, 0)) x) x) x) x) (am_br 29 (am_br 28 (am_lf 25 (some (.goto 8, 3, 0)) x) (am_lf 28 (some (.aload_n 2, 1, 0)) x) x) (am_br 30 (am_lf 29 (some (.aload_n 3, 1, 0)) x) (am_br 33 (am_lf 30 (some (.invokevirtual 66, 3, 110832)) x) (am_lf 33 (some (.ireturn, 1, 0)) x) x) x) x) x) x
def am_i_Tree_stepsBetween : Nat → Option (ClassFile.Instr × Nat × Nat) := fun x => am_br 24 (am_br 9 (am_br 3 (am_br 1 (am_lf 0 (some (.iload_n 1, 1, 0)) x) (am_br 2 (am_lf 1 (some (.istore_n 3, 1, 0)) x) (am_lf 2 (some (.iload_n 2, 1, 0)) x) x) x) (am_br 6 (am_br 5 (am_lf 3 (some (.istore 4, 2, 0)) x) (am_lf 5 (some (.iconst 0, 1, 0)) x) x) (am_br 8 (am_lf 6 (some (.istore 5, 2, 0)) x) (am_lf 8 (some (.iload_n 3, 1, 0)) x) x) x) x) (am_br 16 (am_br 11 (am_lf 9 (some (.iload 4, 2, 0)) x) (am_br 14 (am_lf 11 (some (.if_icmp .eq 39, 3, 0)) x) (am_lf 14 (some (.iload 5, 2, 0)) x) x) x) (am_br 21 (am_br 18 (am_lf 16 (some (.bipush 120, 2, 0)) x) (am_lf 18 (some (.if_icmp .ge 32, 3, 0)) x) x) (am_br 22 (am_lf 21 (some (.iload_n 3, 1, 0)) x) (am_lf 22 (some (.iload 4, 2, 0)) x) x) x) x) x) (am_br 37 (am_br 29 (am_br 27 (am_lf 24 (some (.if_icmp .le 12, 3, 0)) x) (am_br 28 (am_lf 27 (some (.aload_n 0, 1, 0)) x) (am_lf 28 (some (.iload_n 3, 1, 0)) x) x) x) (am_br 33 (am_br 32 (am_lf 29 (some (.invokevirtual 58, 3, 720798)) x) (am_lf 32 (some (.istore_n 3, 1, 0)) x) x) (am_br 36 (am_lf 33 (some (.goto 11, 3, 0)) x) (am_lf 36 (some (.aload_n 0, 1, 0)) x) x) x) x) (am_br 44 (am_br 39 (am_lf 37 (some (.iload 4, 2, 0)) x) (am_br 42 (am_lf 39 (some (.invokevirtual 58, 3, 720798)) x) (am_lf 42 (some (.istore 4, 2, 0)) x) x) x) (am_br 50 (am_br 47 (am_lf 44 (some (.iinc 5 1, 3, 0)) x) (am_lf 47 (some (.goto (-39), 3, 0)) x) x) (am_br 52 (am_lf 50 (some (.iload 5, 2, 0)) x) (am_lf 52 (some (.ireturn, 1, 0)) x) x) x) x) x) x
def am_i_Tree_takeOut : Nat → Option (ClassFile.Instr × Nat × Nat) := fun x => am_br 19 (am_br 8 (am_br 5 (am_br 1 (am_lf 0 (some (.aload_n 0, 1, 0)) x) (am_br 2 (am_lf 1 (some (.iload_n 1, 1, 0)) x) (am_lf 2 (some (.invokevirtual 50, 3, 690403)) x) x) x) (am_br 6 (am_lf 5 (some (.astore_n 2, 1, 0)) x) (am_br 7 (am_lf 6 (some (.aload_n 0, 1, 0)) x) (am_lf 7 (some (.iload_n 1, 1, 0)) x) x) x) x) (am_br 13 (am_br 11 (am_lf 8 (some (.invokevirtual 69, 3, 750841)) x) (am_br 12 (am_lf 11 (some (.istore_n 3, 1, 0)) x) (am_lf 12 (some (.aload_n 0, 1, 0)) x) x) x) (am_br 14 (am_lf 13 (some (.iload_n 3, 1, 0)) x) (am_br 17 (am_lf 14 (some (.invokevirtual 50, 3, 690403)) x) (am_lf 17 (some (.astore 4, 2, 0)) x) x) x) x) x) (am_br 31 (am_br 25 (am_br 20 (am_lf 19 (some (.aload_n 2, 1, 0)) x) (am_br 23 (am_lf 20 (some (.ifnull 22, 3, 0)) x) (am_lf 23 (some (.aload 4, 2, 0)) x) x) x) (am_br 28 (am_lf 25 (some (.ifnull 17, 3, 0)) x) (am_br 30 (am_lf 28 (some (.aload 4, 2, 0)) x) (am_lf 30 (some (.aload_n 2, 1, 0)) x) x) x) x) (am_br 38 (am_br 34 (am_lf 31 (some (.getfield 37, 3, 5000311)) x) (am_br 37 (am_lf 34 (some (.putfield 37, 3, 5000311)) x) (am_lf 37 (some (.aload_n 2, 1, 0)) x) x) x) (am_br 42 (am_br 39 (am_lf 38 (some (.iconst 0, 1, 0)) x) (am_lf 39 (some (.putfield 24, 3, 5010313)) x) x) (am_br 43 (am_lf 42 (some (.iload_n 3, 1, 0)) x) (am_lf 43 (some (.ireturn, 1, 0)) x) x) x) x) x) x
def am_i_Desk_init : Nat → Option (ClassFile.Instr × Nat × Nat) := fun x => am_br 52 (am_br 26 (am_br 12 (am_br 5 (am_br 1 (am_lf 0 (some (.aload_n 0, 1, 0)) x) (am_br 4 (am_lf 1 (some (.invokespecial 1, 3, 10000081)) x) (am_lf 4 (some (.aload_n 0, 1, 0)) x) x) x) (am_br 8 (am_lf 5 (some (.new 7, 3, 84)) x) (am_br 9 (am_lf 8 (some (.dup, 1, 0)) x) (am_lf 9 (some (.invokespecial 9, 3, 86)) x) x) x) x) (am_br 19 (am_br 15 (am_lf 12 (some (.putfield 10, 3, 11000330)) x) (am_br 16 (am_lf 15 (some (.aload_n 0, 1, 0)) x) (am_lf 16 (some (.new 16, 3, 100121)) x) x) x) (am_br 20 (am_lf 19 (some (.dup, 1, 0)) x) (am_br 23 (am_lf 20 (some (.invokespecial 18, 3, 650123)) x) (am_lf 23 (some (.putfield 19, 3, 11010331)) x) x) x) x) x) (am_br 38 (am_br 31 (am_br 27 (am_lf 26 (some (.aload_n 0, 1, 0)) x) (am_br 30 (am_lf 27 (some (.new 23, 3, 90141)) x) (am_lf 30 (some (.dup, 1, 0)) x) x) x) (am_br 32 (am_lf 31 (some (.aload_n 0, 1, 0)) x) (am_br 35 (am_lf 32 (some (.getfield 10, 3, 11000330)) x) (am_lf 35 (some (.invokespecial 25, 3, 570143)) x) x) x) x) (am_br 45 (am_br 41 (am_lf 38 (some (.putfield 28, 3, 11020332)) x) (am_br 42 (am_lf 41 (some (.aload_n 0, 1, 0)) x) (am_lf 42 (some (.new 32, 3, 10281)) x) x) x) (am_br 46 (am_lf 45 (some (.dup, 1, 0)) x) (am_br 49 (am_lf 46 (some (.invokespecial 34, 3, 170282)) x) (am_lf 49 (some (.putfield 35, 3, 11030333)) x) x) x) x) x) x) (am_br 76 (am_br 64 (am_br 58 (am_br 53 (am_lf 52 (some (.aload_n 0, 1, 0)) x) (am_br 55 (am_lf 53 (some (.bipush 40, 2, 0)) x) (am_lf 55 (some (.anewarray 39, 3, 30283)) x) x) x) (am_br 61 (am_lf 58 (some (.putfield 41, 3, 11040334)) x) (am_br 62 (am_lf 61 (some (.aload_n 0, 1, 0)) x) (am_lf 62 (some (.bipush 20, 2, 0)) x) x) x) x) (am_br 71 (am_br 67 (am_lf 64 (some (.anewarray 45, 3, 40285)) x) (am_br 70 (am_lf 67 (some (.putfield 47, 3, 11050335)) x) (am_lf 70 (some (.aload_n 0, 1, 0)) x) x) x) (am_br 72 (am_lf 71 (some (.iconst 0, 1, 0)) x) (am_br 75 (am_lf 72 (some (.putfield 51, 3, 11060336)) x) (am_lf 75 (some (.aload_n 0, 1, 0)) x) x) x) x) x) (am_br 88 (am_br 81 (am_br 77 (am_lf 76 (some (.iconst 0, 1, 0)) x) (am_br 80 (am_lf 77 (some (.putfield 55, 3, 11070337)) x) (am_lf 80 (some (.aload_n 0, 1, 0)) x) x) x) (am_br 84 (am_lf 81 (some (.getfield 10, 3, 11000330)) x) (am_br 86 (am_lf 84 (some (.bipush 8, 2, 0)) x) (am_lf 86 (some (.bipush 8, 2, 0)) x) x) x) x) (am_br 95 (am_br 91 (am_lf 88 (some (.invokevirtual 58, 3, 10287)) x) (am_br 92 (am_lf 91 (some (.aload_n 0, 1, 0)) x) (am_lf 92 (some (.getfield 19, 3, 11010331)) x) x) x) (am_br 99 (am_br 96 (am_lf 95 (some (.aload_n 0, 1, 0)) x) (am_lf 96 (some (.getfield 10, 3, 11000330)) x) x) (am_br 102 (am_lf 99 (some (.invokevirtual 62, 3, 660291)) x) (am_lf 102 (some (.return_, 1, 0)) x) x) x) x) x) x) x
def am_i_Desk_cloth : Nat → Option (ClassFile.Instr × Nat × Nat) := fun x => am_br 22 (am_br 11 (am_br 4 (am_br 1 (am_lf 0 (some (.iload_n 1, 1, 0)) x) (am_br 2 (am_lf 1 (some (.iconst 1, 1, 0)) x) (am_lf 2 (some (.bipush 10, 2, 0)) x) x) x) (am_br 7 (am_lf 4 (some (.invokestatic 65, 3, 1050359)) x) (am_br 10 (am_lf 7 (some (.ifCond .eq 13, 3, 0)) x) (am_lf 10 (some (.iload_n 2, 1, 0)) x) x) x) x) (am_br 17 (am_br 12 (am_lf 11 (some (.iconst 1, 1, 0)) x) (am_br 14 (am_lf 12 (some (.bipush 10, 2, 0)) x) (am_lf 14 (some (.invokestatic 65, 3, 1050359)) x) x) x) (am_br 20 (am_lf 17 (some (.ifCond .ne 5, 3, 0)) x) (am_br 21 (am_lf 20 (some (.iconst (-1), 1, 0)) x) (am_lf 21 (some (.ireturn, 1, 0)) x) x) x) x) x) (am_br 32 (am_br 27 (am_br 23 (am_lf 22 (some (.aload_n 0, 1, 0)) x) (am_br 26 (am_lf 23 (some (.getfield 10, 3, 11000330)) x) (am_lf 26 (some (.iload_n 1, 1, 0)) x) x) x) (am_br 28 (am_lf 27 (some (.iload_n 2, 1, 0)) x) (am_br 31 (am_lf 28 (some (.invokevirtual 58, 3, 10287)) x) (am_lf 31 (some (.aload_n 0, 1, 0)) x) x) x) x) (am_br 39 (am_br 35 (am_lf 32 (some (.getfield 19, 3, 11010331)) x) (am_br 36 (am_lf 35 (some (.aload_n 0, 1, 0)) x) (am_lf 36 (some (.getfield 10, 3, 11000330)) x) x) x) (am_br 42 (am_lf 39 (some (.invokevirtual 62, 3, 660291)) x) (am_br 43 (am_lf 42 (some (.iconst 1, 1, 0)) x) (am_lf 43 (some (.ireturn, 1, 0)) x) x) x) x) x) x
def am_i_Desk_at : Nat → Option (ClassFile.Instr × Nat × Nat) := fun x => am_br 24 (am_br 13 (am_br 5 (am_br 1 (am_lf 0 (some (.aload_n 0, 1, 0)) x) (am_br 4 (am_lf 1 (some (.getfield 10, 3, 11000330)) x) (am_lf 4 (some (.iload_n 1, 1, 0)) x) x) x) (am_br 9 (am_br 6 (am_lf 5 (some (.iload_n 2, 1, 0)) x) (am_lf 6 (some (.invokevirtual 69, 3, 30366)) x) x) (am_br 12 (am_lf 9 (some (.ifCond .eq 12, 3, 0)) x) (am_lf 12 (some (.iload_n 3, 1, 0)) x) x) x) x) (am_br 18 (am_br 14 (am_lf 13 (some (.iconst (-1), 1, 0)) x) (am_br 15 (am_lf 14 (some (.iconst 2, 1, 0)) x) (am_lf 15 (some (.invokestatic 65, 3, 1050359)) x) x) x) (am_br 22 (am_br 21 (am_lf 18 (some (.ifCond .ne 5, 3, 0)) x) (am_lf 21 (some (.iconst (-1), 1, 0)) x) x) (am_br 23 (am_lf 22 (some (.ireturn, 1, 0)) x) (am_lf 23 (some (.iload_n 3, 1, 0)) x) x) x) x) x) (am_br 37 (am_br 29 (am_br 25 (am_lf 24 (some (.iconst (-1), 1, 0)) x) (am_br 28 (am_lf 25 (some (.if_icmp .ne 15, 3, 0)) x) (am_lf 28 (some (.aload_n 0, 1, 0)) x) x) x) (am_br 33 (am_br 32 (am_lf 29 (some (.getfield 10, 3, 11000330)) x) (am_lf 32 (some (.iload_n 1, 1, 0)) x) x) (am_br 34 (am_lf 33 (some (.iload_n 2, 1, 0)) x) (am_lf 34 (some (.invokevirtual 73, 3, 50370)) x) x) x) x) (am_br 45 (am_br 41 (am_br 40 (am_lf 37 (some (.goto 13, 3, 0)) x) (am_lf 40 (some (.aload_n 0, 1, 0)) x) x) (am_br 44 (am_lf 41 (some (.getfield 10, 3, 11000330)) x) (am_lf 44 (some (.iload_n 1, 1, 0)) x) x) x) (am_br 47 (am_br 46 (am_lf 45 (some (.iload_n 2, 1, 0)) x) (am_lf 46 (some (.iload_n 3, 1, 0)) x) x) (am_br 50 (am_lf 47 (some (.invokevirtual 77, 3, 40375)) x) (am_lf 50 (some (.ireturn, 1, 0)) x) x) x) x) x) x
def am_i_Desk_isSelected : Nat → Option (ClassFile.Instr × Nat × Nat) := fun x => am_br 15 (am_br 6 (am_br 4 (am_br 1 (am_lf 0 (some (.aload_n 0, 1, 0)) x) (am_lf 1 (some (.getfield 10, 3, 11000330)) x) x) (am_br 5 (am_lf 4 (some (.iload_n 1, 1, 0)) x) (am_lf 5 (some (.iload_n 2, 1, 0)) x) x) x) (am_br 12 (am_br 9 (am_lf 6 (some (.invokevirtual 69, 3, 30366)) x) (am_lf 9 (some (.ifCond .ne 5, 3, 0)) x) x) (am_br 13 (am_lf 12 (some (.iconst (-1), 1, 0)) x) (am_br 14 (am_lf 13 (some (.ireturn, 1, 0)) x) (am_lf 14 (some (.aload_n 0, 1, 0)) x) x) x) x) x) (am_br 23 (am_br 19 (am_br 18 (am_lf 15 (some (.getfield 10, 3, 11000330)) x) (am_lf 18 (some (.iload_n 1, 1, 0)) x) x) (am_br 20 (am_lf 19 (some (.iload_n 2, 1, 0)) x) (am_lf 20 (some (.invokevirtual 81, 3, 60383)) x) x) x) (am_br 27 (am_br 26 (am_lf 23 (some (.ifCond .eq 7, 3, 0)) x) (am_lf 26 (some (.iconst 1, 1, 0)) x) x) (am_br 30 (am_lf 27 (some (.goto 4, 3, 0)) x) (am_br 31 (am_lf 30 (some (.iconst 0, 1, 0)) x) (am_lf 31 (some (.ireturn, 1, 0)) x) x) x) x) x) x
def am_i_Desk_about : Nat → Option (ClassFile.Instr × Nat × Nat) := fun x => am_br 85 (am_br 67 (am_br 56 (am_br 52 (am_br 1 (am_lf 0 (some (.iload_n 1, 1, 0)) x) (am_lf 1 (some (.tableswitch 117 0 8 #[51, 59, 67, 75, 83, 91, 96, 101, 109], 51, 0)) x) x) (am_br 53 (am_lf 52 (some (.aload_n 0, 1, 0)) x) (am_lf 53 (some (.getfield 10, 3, 11000330)) x) x) x) (am_br 60 (am_br 59 (am_lf 56 (some (.getfield 84, 3, 92)) x) (am_lf 59 (some (.ireturn, 1, 0)) x) x) (am_br 61 (am_lf 60 (some (.aload_n 0, 1, 0)) x) (am_br 64 (am_lf 61 (some (.getfield 10, 3, 11000330)) x) (am_lf 64 (some (.getfield 87, 3, 10097)) x) x) x) x) x) (am_br 76 (am_br 69 (am_br 68 (am_lf 67 (some (.ireturn, 1, 0)) x) (am_lf 68 (some (.aload_n 0, 1, 0)) x) x) (am_br 72 (am_lf 69 (some (.getfield 10, 3, 11000330)) x) (am_br 75 (am_lf 72 (some (.getfield 90, 3, 20104)) x) (am_lf 75 (some (.ireturn, 1, 0)) x) x) x) x) (am_br 80 (am_br 77 (am_lf 76 (some (.aload_n 0, 1, 0)) x) (am_lf 77 (some (.getfield 10, 3, 11000330)) x) x) (am_br 83 (am_lf 80 (some (.getfield 93, 3, 30106)) x) (am_br 84 (am_lf 83 (some (.ireturn, 1, 0)) x) (am_lf 84 (some (.aload_n 0, 1, 0)) x) x) x) x) x) x) (am_br 102 (am_br 93 (am_br 91 (am_br 88 (am_lf 85 (some (.getfield 10, 3, 11000330)) x) (am_lf 88 (some (.invokevirtual 96, 3, 90391)) x) x) (am_br 92 (am_lf 91 (some (.ireturn, 1, 0)) x) (am_lf 92 (some (.aload_n 0, 1, 0)) x) x) x) (am_br 97 (am_br 96 (am_lf 93 (some (.getfield 51, 3, 11060336)) x) (am_lf 96 (some (.ireturn, 1, 0)) x) x) (am_br 98 (am_lf 97 (some (.aload_n 0, 1, 0)) x) (am_br 101 (am_lf 98 (some (.getfield 55, 3, 11070337)) x) (am_lf 101 (some (.ireturn, 1, 0)) x) x) x) x) x) (am_br 111 (am_br 106 (am_br 103 (am_lf 102 (some (.aload_n 0, 1, 0)) x) (am_lf 103 (some (.getfield 19, 3, 11010331)) x) x) (am_br 109 (am_lf 106 (some (.invokevirtual 100, 3, 730395)) x) (am_br 110 (am_lf 109 (some (.ireturn, 1, 0)) x) (am_lf 110 (some (.aload_n 0, 1, 0)) x) x) x) x) (am_br 117 (am_br 114 (am_lf 111 (some (.getfield 19, 3, 11010331)) x) (am_lf 114 (some (.getfield 103, 3, 10020133)) x) x) (am_br 118 (am_lf 117 (some (.ireturn, 1, 0)) x) (am_br 119 (am_lf 118 (some (.iconst (-1), 1, 0)) x) (am_lf 119 (some (.ireturn, 1, 0)) x) x) x) x) x) x) x
def am_i_Desk_used : Nat → Option (ClassFile.Instr × Nat × Nat) := fun x => am_br 11 (am_br 4 (am_br 1 (am_lf 0 (some (.iload_n 1, 1, 0)) x) (am_lf 1 (some (.invokestatic 106, 3, 1060411)) x) x) (am_br 7 (am_lf 4 (some (.ifCond .eq 14, 3, 0)) x) (am_br 8 (am_lf 7 (some (.aload_n 0, 1, 0)) x) (am_lf 8 (some (.getfield 10, 3, 11000330)) x) x) x) x) (am_br 15 (am_br 12 (am_lf 11 (some (.iload_n 1, 1, 0)) x) (am_lf 12 (some (.invokevirtual 110, 3, 100414)) x) x) (am_br 18 (am_lf 15 (some (.goto 4, 3, 0)) x) (am_br 19 (am_lf 18 (some (.iconst (-1), 1, 0)) x) (am_lf 19 (some (.ireturn, 1, 0)) x) x) x) x) x
def am_i_Desk_floats : Nat → Option (ClassFile.Instr × Nat × Nat) := fun x => am_br 14 (am_br 6 (am_br 4 (am_br 1 (am_lf 0 (some (.iload_n 1, 1, 0)) x) (am_lf 1 (some (.ifCond .lt 12, 3, 0)) x) x) (am_br 5 (am_lf 4 (some (.iload_n 3, 1, 0)) x) (am_lf 5 (some (.iconst 0, 1, 0)) x) x) x) (am_br 10 (am_br 7 (am_lf 6 (some (.iconst 3, 1, 0)) x) (am_lf 7 (some (.invokestatic 65, 3, 1050359)) x) x) (am_br 13 (am_lf 10 (some (.ifCond .ne 5, 3, 0)) x) (am_lf 13 (some (.iconst (-1), 1, 0)) x) x) x) x) (am_br 20 (am_br 16 (am_br 15 (am_lf 14 (some (.ireturn, 1, 0)) x) (am_lf 15 (some (.aload_n 0, 1, 0)) x) x) (am_br 19 (am_lf 16 (some (.getfield 10, 3, 11000330)) x) (am_lf 19 (some (.iload_n 1, 1, 0)) x) x) x) (am_br 22 (am_br 21 (am_lf 20 (some (.iload_n 2, 1, 0)) x) (am_lf 21 (some (.iload_n 3, 1, 0)) x) x) (am_br 25 (am_lf 22 (some (.invokevirtual 114, 3, 130423)) x) (am_lf 25 (some (.ireturn, 1, 0)) x) x) x) x) x
def am_i_Desk_run : Nat → Option (ClassFile.Instr × Nat × Nat) := fun x => am_br 40 (am_br 25 (am_br 11 (am_br 4 (am_br 1 (am_lf 0 (some (.iload_n 1, 1, 0)) x) (am_br 2 (am_lf 1 (some (.iconst 0, 1, 0)) x) (am_lf 2 (some (.bipush 12, 2, 0)) x) x) x) (am_br 7 (am_lf 4 (some (.invokestatic 65, 3, 1050359)) x) (am_br 10 (am_lf 7 (some (.ifCond .ne 5, 3, 0)) x) (am_lf 10 (some (.iconst (-1), 1, 0)) x) x) x) x) (am_br 16 (am_br 12 (am_lf 11 (some (.ireturn, 1, 0)) x) (am_br 13 (am_lf 12 (some (.aload_n 0, 1, 0)) x) (am_lf 13 (some (.getfield 19, 3, 11010331)) x) x) x) (am_br 22 (am_br 19 (am_lf 16 (some (.invokevirtual 117, 3, 670439)) x) (am_lf 19 (some (.ifCond .eq 6, 3, 0)) x) x) (am_br 24 (am_lf 22 (some (.bipush (-3), 2, 0)) x) (am_lf 24 (some (.ireturn, 1, 0)) x) x) x) x) x) (am_br 32 (am_br 29 (am_br 26 (am_lf 25 (some (.iconst 5, 1, 0)) x) (am_br 28 (am_lf 26 (some (.newarray .int, 2, 0)) x) (am_lf 28 (some (.dup, 1, 0)) x) x) x) (am_br 30 (am_lf 29 (some (.iconst 0, 1, 0)) x) (am_br 31 (am_lf 30 (some (.iload_n 2, 1, 0)) x) (am_lf 31 (some (.iastore, 1, 0)) x) x) x) x) (am_br 35 (am_br 33 (am_lf 32 (some (.dup, 1, 0)) x) (am_br 34 (am_lf 33 (some (.iconst 1, 1, 0)) x) (am_lf 34 (some (.iload_n 3, 1, 0)) x) x) x) (am_br 37 (am_br 36 (am_lf 35 (some (.iastore, 1, 0)) x) (am_lf 36 (some (.dup, 1, 0)) x) x) (am_br 38 (am_lf 37 (some (.iconst 2, 1, 0)) x) (am_lf 38 (some (.iload 4, 2, 0)) x) x) x) x) x) x) (am_br 58 (am_br 47 (am_br 43 (am_br 41 (am_lf 40 (some (.iastore, 1, 0)) x) (am_br 42 (am_lf 41 (some (.dup, 1, 0)) x) (am_lf 42 (some (.iconst 3, 1, 0)) x) x) x) (am_br 45 (am_lf 43 (some (.iload 5, 2, 0)) x) (am_br 46 (am_lf 45 (some (.iastore, 1, 0)) x) (am_lf 46 (some (.dup, 1, 0)) x) x) x) x) (am_br 51 (am_br 48 (am_lf 47 (some (.iconst 4, 1, 0)) x) (am_br 50 (am_lf 48 (some (.iload 6, 2, 0)) x) (am_lf 50 (some (.iastore, 1, 0)) x) x) x) (am_br 54 (am_br 53 (am_lf 51 (some (.astore 7, 2, 0)) x) (am_lf 53 (some (.aload_n 0, 1, 0)) x) x) (am_br 57 (am_lf 54 (some (.getfield 35, 3, 11030333)) x) (am_lf 57 (some (.iload_n 1, 1, 0)) x) x) x) x) x) (am_br 74 (am_br 64 (am_br 60 (am_lf 58 (some (.aload 7, 2, 0)) x) (am_br 63 (am_lf 60 (some (.invokevirtual 121, 3, 180440)) x) (am_lf 63 (some (.aload_n 0, 1, 0)) x) x) x) (am_br 70 (am_br 67 (am_lf 64 (some (.getfield 28, 3, 11020332)) x) (am_lf 67 (some (.invokevirtual 125, 3, 580448)) x) x) (am_br 71 (am_lf 70 (some (.aload_n 0, 1, 0)) x) (am_lf 71 (some (.getfield 28, 3, 11020332)) x) x) x) x) (am_br 79 (am_br 75 (am_lf 74 (some (.aload_n 0, 1, 0)) x) (am_br 78 (am_lf 75 (some (.getfield 35, 3, 11030333)) x) (am_lf 78 (some (.iconst 0, 1, 0)) x) x) x) (am_br 83 (am_br 82 (am_lf 79 (some (.invokevirtual 128, 3, 590452)) x) (am_lf 82 (some (.aload_n 0, 1, 0)) x) x) (am_br 86 (am_lf 83 (some (.invokevirtual 132, 3, 1100593)) x) (am_lf 86 (some (.ireturn, 1, 0)) x) x) x) x) x) x) x
def am_i_Desk_handle : Nat → Option (ClassFile.Instr × Nat × Nat) := fun x => am_br 20 (am_br 10 (am_br 2 (am_br 1 (am_lf 0 (some (.iload_n 1, 1, 0)) x) (am_lf 1 (some (.iconst 0, 1, 0)) x) x) (am_br 4 (am_lf 2 (some (.bipush 12, 2, 0)) x) (am_br 7 (am_lf 4 (some (.invokestatic 65, 3, 1050359)) x) (am_lf 7 (some (.ifCond .ne 5, 3, 0)) x) x) x) x) (am_br 13 (am_br 11 (am_lf 10 (some (.iconst (-1), 1, 0)) x) (am_br 12 (am_lf 11 (some (.ireturn, 1, 0)) x) (am_lf 12 (some (.aload_n 0, 1, 0)) x) x) x) (am_br 16 (am_lf 13 (some (.getfield 51, 3, 11060336)) x) (am_br 17 (am_lf 16 (some (.aload_n 0, 1, 0)) x) (am_lf 17 (some (.getfield 41, 3, 11040334)) x) x) x) x) x) (am_br 28 (am_br 24 (am_br 21 (am_lf 20 (some (.arraylength, 1, 0)) x) (am_lf 21 (some (.if_icmp .lt 6, 3, 0)) x) x) (am_br 26 (am_lf 24 (some (.bipush (-3), 2, 0)) x) (am_br 27 (am_lf 26 (some (.ireturn, 1, 0)) x) (am_lf 27 (some (.aload_n 0, 1, 0)) x) x) x) x) (am_br 33 (am_br 31 (am_lf 28 (some (.new 39, 3, 20283)) x) (am_br 32 (am_lf 31 (some (.dup, 1, 0)) x) (am_lf 32 (some (.iload_n 1, 1, 0)) x) x) x) (am_br 36 (am_lf 33 (some (.invokespecial 135, 3, 200617)) x) (am_br 39 (am_lf 36 (some (.invokevirtual 138, 3, 1090632)) x) (am_lf 39 (some (.ireturn, 1, 0)) x) x) x) x) x) x
def am_i_Desk_bind : Nat → Option (ClassFile.Instr × Nat × Nat) := fun x => am_br 32 (am_br 14 (am_br 7 (am_br 2 (am_br 1 (am_lf 0 (some (.aload_n 0, 1, 0)) x) (am_lf 1 (some (.iload_n 1, 1, 0)) x) x) (am_br 5 (am_lf 2 (some (.invokevirtual 142, 3, 1070640)) x) (am_lf 5 (some (.astore 4, 2, 0)) x) x) x) (am_br 12 (am_br 9 (am_lf 7 (some (.aload 4, 2, 0)) x) (am_lf 9 (some (.ifnull 12, 3, 0)) x) x) (am_br 13 (am_lf 12 (some (.iload_n 2, 1, 0)) x) (am_lf 13 (some (.iconst 0, 1, 0)) x) x) x) x) (am_br 22 (am_br 18 (am_br 15 (am_lf 14 (some (.iconst 4, 1, 0)) x) (am_lf 15 (some (.invokestatic 65, 3, 1050359)) x) x) (am_br 21 (am_lf 18 (some (.ifCond .ne 5, 3, 0)) x) (am_lf 21 (some (.iconst (-1), 1, 0)) x) x) x) (am_br 25 (am_br 23 (am_lf 22 (some (.ireturn, 1, 0)) x) (am_lf 23 (some (.aload 4, 2, 0)) x) x) (am_br 26 (am_lf 25 (some (.iload_n 2, 1, 0)) x) (am_br 29 (am_lf 26 (some (.invokevirtual 146, 3, 210644)) x) (am_lf 29 (some (.ifCond .eq 6, 3, 0)) x) x) x) x) x) x) (am_br 47 (am_br 39 (am_br 35 (am_br 34 (am_lf 32 (some (.bipush (-2), 2, 0)) x) (am_lf 34 (some (.ireturn, 1, 0)) x) x) (am_br 36 (am_lf 35 (some (.aload_n 0, 1, 0)) x) (am_lf 36 (some (.getfield 51, 3, 11060336)) x) x) x) (am_br 43 (am_br 40 (am_lf 39 (some (.aload_n 0, 1, 0)) x) (am_lf 40 (some (.getfield 41, 3, 11040334)) x) x) (am_br 44 (am_lf 43 (some (.arraylength, 1, 0)) x) (am_lf 44 (some (.if_icmp .lt 6, 3, 0)) x) x) x) x) (am_br 53 (am_br 50 (am_br 49 (am_lf 47 (some (.bipush (-3), 2, 0)) x) (am_lf 49 (some (.ireturn, 1, 0)) x) x) (am_br 51 (am_lf 50 (some (.aload_n 0, 1, 0)) x) (am_lf 51 (some (.aload 4, 2, 0)) x) x) x) (am_br 55 (am_br 54 (am_lf 53 (some (.iload_n 2, 1, 0)) x) (am_lf 54 (some (.iload_n 3, 1, 0)) x) x) (am_br 58 (am_lf 55 (some (.invokevirtual 149, 3, 220648)) x) (am_br 61 (am_lf 58 (some (.invokevirtual 138, 3, 1090632)) x) (am_lf 61 (some (.ireturn, 1, 0)) x) x) x) x) x) x) x
def am_i_Desk_same : Nat → Option (ClassFile.Instr × Nat × Nat) := fun x => am_br 19 (am_br 7 (am_br 2 (am_br 1 (am_lf 0 (some (.aload_n 0, 1, 0)) x) (am_lf 1 (some (.iload_n 1, 1, 0)) x) x) (am_br 5 (am_lf 2 (some (.invokevirtual 142, 3, 1070640)) x) (am_br 6 (am_lf 5 (some (.astore_n 3, 1, 0)) x) (am_lf 6 (some (.aload_n 0, 1, 0)) x) x) x) x) (am_br 13 (am_br 8 (am_lf 7 (some (.iload_n 2, 1, 0)) x) (am_br 11 (am_lf 8 (some (.invokevirtual 142, 3, 1070640)) x) (am_lf 11 (some (.astore 4, 2, 0)) x) x) x) (am_br 14 (am_lf 13 (some (.aload_n 3, 1, 0)) x) (am_br 17 (am_lf 14 (some (.ifnull 8, 3, 0)) x) (am_lf 17 (some (.aload 4, 2, 0)) x) x) x) x) x) (am_br 27 (am_br 23 (am_br 22 (am_lf 19 (some (.ifnonnull 5, 3, 0)) x) (am_lf 22 (some (.iconst (-1), 1, 0)) x) x) (am_br 24 (am_lf 23 (some (.ireturn, 1, 0)) x) (am_br 25 (am_lf 24 (some (.aload_n 3, 1, 0)) x) (am_lf 25 (some (.aload 4, 2, 0)) x) x) x) x) (am_br 34 (am_br 30 (am_lf 27 (some (.invokevirtual 153, 3, 230658)) x) (am_br 33 (am_lf 30 (some (.ifCond .eq 7, 3, 0)) x) (am_lf 33 (some (.iconst 1, 1, 0)) x) x) x) (am_br 37 (am_lf 34 (some (.goto 4, 3, 0)) x) (am_br 38 (am_lf 37 (some (.iconst 0, 1, 0)) x) (am_lf 38 (some (.ireturn, 1, 0)) x) x) x) x) x) x
def am_i_Desk_call : Nat → Option (ClassFile.Instr × Nat × Nat) := fun x => am_br 42 (am_br 26 (am_br 12 (am_br 5 (am_br 1 (am_lf 0 (some (.aload_n 0, 1, 0)) x) (am_br 2 (am_lf 1 (some (.iload_n 1, 1, 0)) x) (am_lf 2 (some (.invokevirtual 142, 3, 1070640)) x) x) x) (am_br 7 (am_lf 5 (some (.astore 7, 2, 0)) x) (am_br 9 (am_lf 7 (some (.aload 7, 2, 0)) x) (am_lf 9 (some (.ifnonnull 5, 3, 0)) x) x) x) x) (am_br 15 (am_br 13 (am_lf 12 (some (.iconst (-1), 1, 0)) x) (am_br 14 (am_lf 13 (some (.ireturn, 1, 0)) x) (am_lf 14 (some (.aload_n 0, 1, 0)) x) x) x) (am_br 21 (am_br 18 (am_lf 15 (some (.getfield 19, 3, 11010331)) x) (am_lf 18 (some (.invokevirtual 117, 3, 670439)) x) x) (am_br 24 (am_lf 21 (some (.ifCond .eq 6, 3, 0)) x) (am_lf 24 (some (.bipush (-3), 2, 0)) x) x) x) x) x) (am_br 34 (am_br 30 (am_br 27 (am_lf 26 (some (.ireturn, 1, 0)) x) (am_br 28 (am_lf 27 (some (.iconst 5, 1, 0)) x) (am_lf 28 (some (.newarray .int, 2, 0)) x) x) x) (am_br 32 (am_br 31 (am_lf 30 (some (.dup, 1, 0)) x) (am_lf 31 (some (.iconst 0, 1, 0)) x) x) (am_br 33 (am_lf 32 (some (.iload_n 2, 1, 0)) x) (am_lf 33 (some (.iastore, 1, 0)) x) x) x) x) (am_br 37 (am_br 35 (am_lf 34 (some (.dup, 1, 0)) x) (am_br 36 (am_lf 35 (some (.iconst 1, 1, 0)) x) (am_lf 36 (some (.iload_n 3, 1, 0)) x) x) x) (am_br 39 (am_br 38 (am_lf 37 (some (.iastore, 1, 0)) x) (am_lf 38 (some (.dup, 1, 0)) x) x) (am_br 40 (am_lf 39 (some (.iconst 2, 1, 0)) x) (am_lf 40 (some (.iload 4, 2, 0)) x) x) x) x) x) x) (am_br 61 (am_br 49 (am_br 45 (am_br 43 (am_lf 42 (some (.iastore, 1, 0)) x) (am_br 44 (am_lf 43 (some (.dup, 1, 0)) x) (am_lf 44 (some (.iconst 3, 1, 0)) x) x) x) (am_br 47 (am_lf 45 (some (.iload 5, 2, 0)) x) (am_br 48 (am_lf 47 (some (.iastore, 1, 0)) x) (am_lf 48 (some (.dup, 1, 0)) x) x) x) x) (am_br 53 (am_br 50 (am_lf 49 (some (.iconst 4, 1, 0)) x) (am_br 52 (am_lf 50 (some (.iload 6, 2, 0)) x) (am_lf 52 (some (.iastore, 1, 0)) x) x) x) (am_br 57 (am_br 55 (am_lf 53 (some (.astore 8, 2, 0)) x) (am_lf 55 (some (.aload 7, 2, 0)) x) x) (am_br 58 (am_lf 57 (some (.aload_n 0, 1, 0)) x) (am_lf 58 (some (.getfield 35, 3, 11030333)) x) x) x) x) x) (am_br 77 (am_br 67 (am_br 63 (am_lf 61 (some (.aload 8, 2, 0)) x) (am_br 66 (am_lf 63 (some (.invokevirtual 157, 3, 240666)) x) (am_lf 66 (some (.aload_n 0, 1, 0)) x) x) x) (am_br 73 (am_br 70 (am_lf 67 (some (.getfield 28, 3, 11020332)) x) (am_lf 70 (some (.invokevirtual 125, 3, 580448)) x) x) (am_br 74 (am_lf 73 (some (.aload_n 0, 1, 0)) x) (am_lf 74 (some (.getfield 28, 3, 11020332)) x) x) x) x) (am_br 82 (am_br 78 (am_lf 77 (some (.aload_n 0, 1, 0)) x) (am_br 81 (am_lf 78 (some (.getfield 35, 3, 11030333)) x) (am_lf 81 (some (.iconst 0, 1, 0)) x) x) x) (am_br 86 (am_br 85 (am_lf 82 (some (.invokevirtual 128, 3, 590452)) x) (am_lf 85 (some (.aload_n 0, 1, 0)) x) x) (am_br 89 (am_lf 86 (some (.invokevirtual 132, 3, 1100593)) x) (am_lf 89 (some (.ireturn, 1, 0)) x) x) x) x) x) x) x
def am_i_Desk_macro : Nat → Option (ClassFile.Instr × Nat × Nat) := fun x => am_br 96 (am_br 61 (am_br 42 (am_br 35 (am_br 32 (am_br 1 (am_lf 0 (some (.iload_n 1, 1, 0)) x) (am_lf 1 (some (.tableswitch 90 0 3 #[31, 37, 49, 31], 31, 0)) x) x) (am_br 33 (am_lf 32 (some (.iconst 1, 1, 0)) x) (am_lf 33 (some (.istore 5, 2, 0)) x) x) x) (am_br 39 (am_br 38 (am_lf 35 (some (.goto 59, 3, 0)) x) (am_lf 38 (some (.iload_n 2, 1, 0)) x) x) (am_br 40 (am_lf 39 (some (.iconst 0, 1, 0)) x) (am_lf 40 (some (.bipush 9, 2, 0)) x) x) x) x) (am_br 51 (am_br 47 (am_br 45 (am_lf 42 (some (.invokestatic 65, 3, 1050359)) x) (am_lf 45 (some (.istore 5, 2, 0)) x) x) (am_br 50 (am_lf 47 (some (.goto 47, 3, 0)) x) (am_lf 50 (some (.iload_n 2, 1, 0)) x) x) x) (am_br 54 (am_br 52 (am_lf 51 (some (.iconst 0, 1, 0)) x) (am_lf 52 (some (.bipush 9, 2, 0)) x) x) (am_br 57 (am_lf 54 (some (.invokestatic 65, 3, 1050359)) x) (am_br 60 (am_lf 57 (some (.ifCond .eq 28, 3, 0)) x) (am_lf 60 (some (.iload_n 3, 1, 0)) x) x) x) x) x) x) (am_br 78 (am_br 70 (am_br 64 (am_br 62 (am_lf 61 (some (.iconst 0, 1, 0)) x) (am_lf 62 (some (.bipush 9, 2, 0)) x) x) (am_br 67 (am_lf 64 (some (.invokestatic 65, 3, 1050359)) x) (am_lf 67 (some (.ifCond .eq 18, 3, 0)) x) x) x) (am_br 73 (am_br 72 (am_lf 70 (some (.iload 4, 2, 0)) x) (am_lf 72 (some (.iconst 0, 1, 0)) x) x) (am_br 75 (am_lf 73 (some (.bipush 9, 2, 0)) x) (am_lf 75 (some (.invokestatic 65, 3, 1050359)) x) x) x) x) (am_br 86 (am_br 82 (am_br 81 (am_lf 78 (some (.ifCond .eq 7, 3, 0)) x) (am_lf 81 (some (.iconst 1, 1, 0)) x) x) (am_br 85 (am_lf 82 (some (.goto 4, 3, 0)) x) (am_lf 85 (some (.iconst 0, 1, 0)) x) x) x) (am_br 91 (am_br 88 (am_lf 86 (some (.istore 5, 2, 0)) x) (am_lf 88 (some (.goto 6, 3, 0)) x) x) (am_br 92 (am_lf 91 (some (.iconst 0, 1, 0)) x) (am_br 94 (am_lf 92 (some (.istore 5, 2, 0)) x) (am_lf 94 (some (.iload 5, 2, 0)) x) x) x) x) x) x) x) (am_br 128 (am_br 110 (am_br 102 (am_br 100 (am_br 99 (am_lf 96 (some (.ifCond .ne 5, 3, 0)) x) (am_lf 99 (some (.iconst (-1), 1, 0)) x) x) (am_br 101 (am_lf 100 (some (.ireturn, 1, 0)) x) (am_lf 101 (some (.aload_n 0, 1, 0)) x) x) x) (am_br 106 (am_br 105 (am_lf 102 (some (.getfield 55, 3, 11070337)) x) (am_lf 105 (some (.aload_n 0, 1, 0)) x) x) (am_br 109 (am_lf 106 (some (.getfield 47, 3, 11050335)) x) (am_lf 109 (some (.arraylength, 1, 0)) x) x) x) x) (am_br 117 (am_br 115 (am_br 113 (am_lf 110 (some (.if_icmp .lt 6, 3, 0)) x) (am_lf 113 (some (.bipush (-3), 2, 0)) x) x) (am_br 116 (am_lf 115 (some (.ireturn, 1, 0)) x) (am_lf 116 (some (.aload_n 0, 1, 0)) x) x) x) (am_br 121 (am_br 120 (am_lf 117 (some (.getfield 47, 3, 11050335)) x) (am_lf 120 (some (.aload_n 0, 1, 0)) x) x) (am_br 124 (am_lf 121 (some (.getfield 55, 3, 11070337)) x) (am_br 127 (am_lf 124 (some (.new 45, 3, 40285)) x) (am_lf 127 (some (.dup, 1, 0)) x) x) x) x) x) x) (am_br 139 (am_br 133 (am_br 130 (am_br 129 (am_lf 128 (some (.iload_n 1, 1, 0)) x) (am_lf 129 (some (.iload_n 2, 1, 0)) x) x) (am_br 131 (am_lf 130 (some (.iload_n 3, 1, 0)) x) (am_lf 131 (some (.iload 4, 2, 0)) x) x) x) (am_br 137 (am_br 136 (am_lf 133 (some (.invokespecial 160, 3, 310676)) x) (am_lf 136 (some (.aastore, 1, 0)) x) x) (am_br 138 (am_lf 137 (some (.aload_n 0, 1, 0)) x) (am_lf 138 (some (.dup, 1, 0)) x) x) x) x) (am_br 147 (am_br 143 (am_br 142 (am_lf 139 (some (.getfield 55, 3, 11070337)) x) (am_lf 142 (some (.iconst 1, 1, 0)) x) x) (am_br 144 (am_lf 143 (some (.iadd, 1, 0)) x) (am_lf 144 (some (.putfield 55, 3, 11070337)) x) x) x) (am_br 151 (am_br 148 (am_lf 147 (some (.aload_n 0, 1, 0)) x) (am_lf 148 (some (.getfield 55, 3, 11070337)) x) x) (am_br 152 (am_lf 151 (some (.iconst 1, 1, 0)) x) (am_br 153 (am_lf 152 (some (.isub, 1, 0)) x) (am_lf 153 (some (.ireturn, 1, 0)) x) x) x) x) x) x) x) x
def am_i_Desk_part : Nat → Option (ClassFile.Instr × Nat × Nat) := fun x => am_br 42 (am_br 21 (am_br 8 (am_br 2 (am_br 1 (am_lf 0 (some (.aload_n 0, 1, 0)) x) (am_lf 1 (some (.iload_n 1, 1, 0)) x) x) (am_br 5 (am_lf 2 (some (.invokevirtual 163, 3, 1080712)) x) (am_br 7 (am_lf 5 (some (.astore 7, 2, 0)) x) (am_lf 7 (some (.aload_n 0, 1, 0)) x) x) x) x) (am_br 14 (am_br 9 (am_lf 8 (some (.iload_n 2, 1, 0)) x) (am_br 12 (am_lf 9 (some (.invokevirtual 142, 3, 1070640)) x) (am_lf 12 (some (.astore 8, 2, 0)) x) x) x) (am_br 16 (am_lf 14 (some (.aload 7, 2, 0)) x) (am_br 19 (am_lf 16 (some (.ifnull 8, 3, 0)) x) (am_lf 19 (some (.aload 8, 2, 0)) x) x) x) x) x) (am_br 34 (am_br 26 (am_br 24 (am_lf 21 (some (.ifnonnull 5, 3, 0)) x) (am_br 25 (am_lf 24 (some (.iconst (-1), 1, 0)) x) (am_lf 25 (some (.ireturn, 1, 0)) x) x) x) (am_br 28 (am_lf 26 (some (.aload 7, 2, 0)) x) (am_br 31 (am_lf 28 (some (.invokevirtual 167, 3, 320716)) x) (am_lf 31 (some (.ifCond .eq 6, 3, 0)) x) x) x) x) (am_br 38 (am_br 36 (am_lf 34 (some (.bipush (-3), 2, 0)) x) (am_br 37 (am_lf 36 (some (.ireturn, 1, 0)) x) (am_lf 37 (some (.iconst 4, 1, 0)) x) x) x) (am_br 40 (am_lf 38 (some (.newarray .int, 2, 0)) x) (am_br 41 (am_lf 40 (some (.dup, 1, 0)) x) (am_lf 41 (some (.iconst 0, 1, 0)) x) x) x) x) x) x) (am_br 56 (am_br 49 (am_br 45 (am_br 43 (am_lf 42 (some (.iload_n 3, 1, 0)) x) (am_br 44 (am_lf 43 (some (.iastore, 1, 0)) x) (am_lf 44 (some (.dup, 1, 0)) x) x) x) (am_br 46 (am_lf 45 (some (.iconst 1, 1, 0)) x) (am_br 48 (am_lf 46 (some (.iload 4, 2, 0)) x) (am_lf 48 (some (.iastore, 1, 0)) x) x) x) x) (am_br 53 (am_br 50 (am_lf 49 (some (.dup, 1, 0)) x) (am_br 51 (am_lf 50 (some (.iconst 2, 1, 0)) x) (am_lf 51 (some (.iload 5, 2, 0)) x) x) x) (am_br 54 (am_lf 53 (some (.iastore, 1, 0)) x) (am_br 55 (am_lf 54 (some (.dup, 1, 0)) x) (am_lf 55 (some (.iconst 3, 1, 0)) x) x) x) x) x) (am_br 67 (am_br 61 (am_br 58 (am_lf 56 (some (.iload 6, 2, 0)) x) (am_br 59 (am_lf 58 (some (.iastore, 1, 0)) x) (am_lf 59 (some (.astore 9, 2, 0)) x) x) x) (am_br 63 (am_lf 61 (some (.aload 7, 2, 0)) x) (am_br 66 (am_lf 63 (some (.new 168, 3, 70720)) x) (am_lf 66 (some (.dup, 1, 0)) x) x) x) x) (am_br 72 (am_br 69 (am_lf 67 (some (.aload 8, 2, 0)) x) (am_br 70 (am_lf 69 (some (.aconst_null, 1, 0)) x) (am_lf 70 (some (.aload 9, 2, 0)) x) x) x) (am_br 75 (am_lf 72 (some (.invokespecial 170, 3, 490722)) x) (am_br 78 (am_lf 75 (some (.invokevirtual 173, 3, 330739)) x) (am_lf 78 (some (.ireturn, 1, 0)) x) x) x) x) x) x) x
def am_i_Desk_nest : Nat → Option (ClassFile.Instr × Nat × Nat) := fun x => am_br 27 (am_br 11 (am_br 5 (am_br 1 (am_lf 0 (some (.aload_n 0, 1, 0)) x) (am_br 2 (am_lf 1 (some (.iload_n 1, 1, 0)) x) (am_lf 2 (some (.invokevirtual 163, 3, 1080712)) x) x) x) (am_br 7 (am_br 6 (am_lf 5 (some (.astore_n 3, 1, 0)) x) (am_lf 6 (some (.aload_n 0, 1, 0)) x) x) (am_br 8 (am_lf 7 (some (.iload_n 2, 1, 0)) x) (am_lf 8 (some (.invokevirtual 163, 3, 1080712)) x) x) x) x) (am_br 19 (am_br 14 (am_br 13 (am_lf 11 (some (.astore 4, 2, 0)) x) (am_lf 13 (some (.aload_n 3, 1, 0)) x) x) (am_br 17 (am_lf 14 (some (.ifnull 13, 3, 0)) x) (am_lf 17 (some (.aload 4, 2, 0)) x) x) x) (am_br 23 (am_br 22 (am_lf 19 (some (.ifnull 8, 3, 0)) x) (am_lf 22 (some (.iload_n 2, 1, 0)) x) x) (am_br 24 (am_lf 23 (some (.iload_n 1, 1, 0)) x) (am_lf 24 (some (.if_icmp .lt 5, 3, 0)) x) x) x) x) x) (am_br 40 (am_br 33 (am_br 29 (am_br 28 (am_lf 27 (some (.iconst (-1), 1, 0)) x) (am_lf 28 (some (.ireturn, 1, 0)) x) x) (am_br 30 (am_lf 29 (some (.aload_n 3, 1, 0)) x) (am_lf 30 (some (.invokevirtual 167, 3, 320716)) x) x) x) (am_br 38 (am_br 36 (am_lf 33 (some (.ifCond .eq 6, 3, 0)) x) (am_lf 36 (some (.bipush (-3), 2, 0)) x) x) (am_br 39 (am_lf 38 (some (.ireturn, 1, 0)) x) (am_lf 39 (some (.aload_n 3, 1, 0)) x) x) x) x) (am_br 47 (am_br 44 (am_br 43 (am_lf 40 (some (.new 168, 3, 70720)) x) (am_lf 43 (some (.dup, 1, 0)) x) x) (am_br 45 (am_lf 44 (some (.aconst_null, 1, 0)) x) (am_lf 45 (some (.aload 4, 2, 0)) x) x) x) (am_br 51 (am_br 48 (am_lf 47 (some (.aconst_null, 1, 0)) x) (am_lf 48 (some (.invokespecial 170, 3, 490722)) x) x) (am_br 54 (am_lf 51 (some (.invokevirtual 173, 3, 330739)) x) (am_lf 54 (some (.ireturn, 1, 0)) x) x) x) x) x) x
def am_i_Desk_times : Nat → Option (ClassFile.Instr × Nat × Nat) := fun x => am_br 20 (am_br 10 (am_br 5 (am_br 1 (am_lf 0 (some (.aload_n 0, 1, 0)) x) (am_br 2 (am_lf 1 (some (.iload_n 1, 1, 0)) x) (am_lf 2 (some (.invokevirtual 163, 3, 1080712)) x) x) x) (am_br 6 (am_lf 5 (some (.astore_n 3, 1, 0)) x) (am_br 7 (am_lf 6 (some (.aload_n 3, 1, 0)) x) (am_lf 7 (some (.ifnull 21, 3, 0)) x) x) x) x) (am_br 15 (am_br 11 (am_lf 10 (some (.aload_n 3, 1, 0)) x) (am_br 14 (am_lf 11 (some (.getfield 177, 3, 4000684)) x) (am_lf 14 (some (.iconst 1, 1, 0)) x) x) x) (am_br 18 (am_lf 15 (some (.if_icmp .ne 13, 3, 0)) x) (am_br 19 (am_lf 18 (some (.iload_n 2, 1, 0)) x) (am_lf 19 (some (.iconst 0, 1, 0)) x) x) x) x) x) (am_br 31 (am_br 28 (am_br 22 (am_lf 20 (some (.bipush 9, 2, 0)) x) (am_br 25 (am_lf 22 (some (.invokestatic 65, 3, 1050359)) x) (am_lf 25 (some (.ifCond .ne 5, 3, 0)) x) x) x) (am_br 29 (am_lf 28 (some (.iconst (-1), 1, 0)) x) (am_br 30 (am_lf 29 (some (.ireturn, 1, 0)) x) (am_lf 30 (some (.aload_n 3, 1, 0)) x) x) x) x) (am_br 37 (am_br 34 (am_lf 31 (some (.getfield 180, 3, 4030691)) x) (am_br 36 (am_lf 34 (some (.istore 4, 2, 0)) x) (am_lf 36 (some (.aload_n 3, 1, 0)) x) x) x) (am_br 41 (am_br 38 (am_lf 37 (some (.iload_n 2, 1, 0)) x) (am_lf 38 (some (.putfield 180, 3, 4030691)) x) x) (am_br 43 (am_lf 41 (some (.iload 4, 2, 0)) x) (am_lf 43 (some (.ireturn, 1, 0)) x) x) x) x) x) x
def am_i_Desk_play : Nat → Option (ClassFile.Instr × Nat × Nat) := fun x => am_br 22 (am_br 10 (am_br 5 (am_br 1 (am_lf 0 (some (.aload_n 0, 1, 0)) x) (am_br 2 (am_lf 1 (some (.iload_n 1, 1, 0)) x) (am_lf 2 (some (.invokevirtual 163, 3, 1080712)) x) x) x) (am_br 6 (am_lf 5 (some (.astore_n 2, 1, 0)) x) (am_br 7 (am_lf 6 (some (.aload_n 2, 1, 0)) x) (am_lf 7 (some (.ifnonnull 5, 3, 0)) x) x) x) x) (am_br 13 (am_br 11 (am_lf 10 (some (.iconst (-1), 1, 0)) x) (am_br 12 (am_lf 11 (some (.ireturn, 1, 0)) x) (am_lf 12 (some (.aload_n 0, 1, 0)) x) x) x) (am_br 16 (am_lf 13 (some (.getfield 19, 3, 11010331)) x) (am_br 19 (am_lf 16 (some (.invokevirtual 117, 3, 670439)) x) (am_lf 19 (some (.ifCond .eq 6, 3, 0)) x) x) x) x) x) (am_br 33 (am_br 26 (am_br 24 (am_lf 22 (some (.bipush (-3), 2, 0)) x) (am_br 25 (am_lf 24 (some (.ireturn, 1, 0)) x) (am_lf 25 (some (.aload_n 0, 1, 0)) x) x) x) (am_br 29 (am_lf 26 (some (.getfield 28, 3, 11020332)) x) (am_br 32 (am_lf 29 (some (.invokevirtual 125, 3, 580448)) x) (am_lf 32 (some (.aload_n 0, 1, 0)) x) x) x) x) (am_br 38 (am_br 36 (am_lf 33 (some (.getfield 28, 3, 11020332)) x) (am_br 37 (am_lf 36 (some (.aload_n 2, 1, 0)) x) (am_lf 37 (some (.iconst 1, 1, 0)) x) x) x) (am_br 42 (am_br 41 (am_lf 38 (some (.invokevirtual 183, 3, 600756)) x) (am_lf 41 (some (.aload_n 0, 1, 0)) x) x) (am_br 45 (am_lf 42 (some (.invokevirtual 132, 3, 1100593)) x) (am_lf 45 (some (.ireturn, 1, 0)) x) x) x) x) x) x
def am_i_Desk_outcome : Nat → Option (ClassFile.Instr × Nat × Nat) := fun x => am_br 56 (am_br 44 (am_br 37 (am_br 1 (am_lf 0 (some (.iload_n 1, 1, 0)) x) (am_br 36 (am_lf 1 (some (.tableswitch 75 0 4 #[35, 43, 51, 59, 67], 35, 0)) x) (am_lf 36 (some (.aload_n 0, 1, 0)) x) x) x) (am_br 40 (am_lf 37 (some (.getfield 28, 3, 11020332)) x) (am_br 43 (am_lf 40 (some (.getfield 187, 3, 9010244)) x) (am_lf 43 (some (.ireturn, 1, 0)) x) x) x) x) (am_br 51 (am_br 45 (am_lf 44 (some (.aload_n 0, 1, 0)) x) (am_br 48 (am_lf 45 (some (.getfield 28, 3, 11020332)) x) (am_lf 48 (some (.getfield 190, 3, 9020246)) x) x) x) (am_br 52 (am_lf 51 (some (.ireturn, 1, 0)) x) (am_br 53 (am_lf 52 (some (.aload_n 0, 1, 0)) x) (am_lf 53 (some (.getfield 28, 3, 11020332)) x) x) x) x) x) (am_br 68 (am_br 61 (am_br 59 (am_lf 56 (some (.getfield 193, 3, 9030248)) x) (am_br 60 (am_lf 59 (some (.ireturn, 1, 0)) x) (am_lf 60 (some (.aload_n 0, 1, 0)) x) x) x) (am_br 64 (am_lf 61 (some (.getfield 28, 3, 11020332)) x) (am_br 67 (am_lf 64 (some (.getfield 196, 3, 9040250)) x) (am_lf 67 (some (.ireturn, 1, 0)) x) x) x) x) (am_br 75 (am_br 69 (am_lf 68 (some (.aload_n 0, 1, 0)) x) (am_br 72 (am_lf 69 (some (.getfield 28, 3, 11020332)) x) (am_lf 72 (some (.getfield 199, 3, 9050252)) x) x) x) (am_br 76 (am_lf 75 (some (.ireturn, 1, 0)) x) (am_br 77 (am_lf 76 (some (.iconst (-1), 1, 0)) x) (am_lf 77 (some (.ireturn, 1, 0)) x) x) x) x) x) x
def am_i_Desk_node : Nat → Option (ClassFile.Instr × Nat × Nat) := fun x => am_br 4 (am_br 1 (am_lf 0 (some (.aload_n 0, 1, 0)) x) (am_lf 1 (some (.getfield 19, 3, 11010331)) x) x) (am_br 7 (am_lf 4 (some (.getfield 202, 3, 10010131)) x) (am_lf 7 (some (.ireturn, 1, 0)) x) x) x
def am_i_Desk_go : Nat → Option (ClassFile.Instr × Nat × Nat) := fun x => am_br 18 (am_br 11 (am_br 4 (am_br 1 (am_lf 0 (some (.aload_n 0, 1, 0)) x) (am_lf 1 (some (.getfield 19, 3, 11010331)) x) x) (am_br 5 (am_lf 4 (some (.iload_n 1, 1, 0)) x) (am_br 8 (am_lf 5 (some (.invokevirtual 205, 3, 700793)) x) (am_lf 8 (some (.ifCond .ne 5, 3, 0)) x) x) x) x) (am_br 13 (am_br 12 (am_lf 11 (some (.iconst (-1), 1, 0)) x) (am_lf 12 (some (.ireturn, 1, 0)) x) x) (am_br 14 (am_lf 13 (some (.aload_n 0, 1, 0)) x) (am_br 17 (am_lf 14 (some (.getfield 19, 3, 11010331)) x) (am_lf 17 (some (.aload_n 0, 1, 0)) x) x) x) x) x) (am_br 29 (am_br 24 (am_br 21 (am_lf 18 (some (.getfield 19, 3, 11010331)) x) (am_lf 21 (some (.getfield 202, 3, 10010131)) x) x) (am_br 25 (am_lf 24 (some (.iload_n 1, 1, 0)) x) (am_br 28 (am_lf 25 (some (.invokevirtual 208, 3, 770794)) x) (am_lf 28 (some (.istore_n 2, 1, 0)) x) x) x) x) (am_br 34 (am_br 30 (am_lf 29 (some (.aload_n 0, 1, 0)) x) (am_br 31 (am_lf 30 (some (.iload_n 1, 1, 0)) x) (am_lf 31 (some (.invokevirtual 211, 3, 1110802)) x) x) x) (am_br 35 (am_lf 34 (some (.pop, 1, 0)) x) (am_br 36 (am_lf 35 (some (.iload_n 2, 1, 0)) x) (am_lf 36 (some (.ireturn, 1, 0)) x) x) x) x) x) x
def am_i_Desk_undo : Nat → Option (ClassFile.Instr × Nat × Nat) := fun x => am_br 16 (am_br 8 (am_br 4 (am_br 1 (am_lf 0 (some (.aload_n 0, 1, 0)) x) (am_lf 1 (some (.getfield 19, 3, 11010331)) x) x) (am_br 5 (am_lf 4 (some (.aload_n 0, 1, 0)) x) (am_lf 5 (some (.getfield 19, 3, 11010331)) x) x) x) (am_br 14 (am_br 11 (am_lf 8 (some (.getfield 202, 3, 10010131)) x) (am_lf 11 (some (.invokevirtual 214, 3, 720810)) x) x) (am_br 15 (am_lf 14 (some (.istore_n 1, 1, 0)) x) (am_lf 15 (some (.iload_n 1, 1, 0)) x) x) x) x) (am_br 26 (am_br 21 (am_br 18 (am_lf 16 (some (.bipush (-9), 2, 0)) x) (am_lf 18 (some (.if_icmp .ne 8, 3, 0)) x) x) (am_br 23 (am_lf 21 (some (.bipush (-2), 2, 0)) x) (am_lf 23 (some (.goto 8, 3, 0)) x) x) x) (am_br 28 (am_br 27 (am_lf 26 (some (.aload_n 0, 1, 0)) x) (am_lf 27 (some (.iload_n 1, 1, 0)) x) x) (am_br 31 (am_lf 28 (some (.invokevirtual 211, 3, 1110802)) x) (am_lf 31 (some (.ireturn, 1, 0)) x) x) x) x) x
def am_i_Desk_redo : Nat → Option (ClassFile.Instr × Nat × Nat) := fun x => am_br 16 (am_br 8 (am_br 4 (am_br 1 (am_lf 0 (some (.aload_n 0, 1, 0)) x) (am_lf 1 (some (.getfield 19, 3, 11010331)) x) x) (am_br 5 (am_lf 4 (some (.aload_n 0, 1, 0)) x) (am_lf 5 (some (.getfield 19, 3, 11010331)) x) x) x) (am_br 14 (am_br 11 (am_lf 8 (some (.getfield 202, 3, 10010131)) x) (am_lf 11 (some (.invokevirtual 217, 3, 750815)) x) x) (am_br 15 (am_lf 14 (some (.istore_n 1, 1, 0)) x) (am_lf 15 (some (.iload_n 1, 1, 0)) x) x) x) x) (am_br 26 (am_br 21 (am_br 18 (am_lf 16 (some (.bipush (-9), 2, 0)) x) (am_lf 18 (some (.if_icmp .ne 8, 3, 0)) x) x) (am_br 23 (am_lf 21 (some (.bipush (-2), 2, 0)) x) (am_lf 23 (some (.goto 8, 3, 0)) x) x) x) (am_br 28 (am_br 27 (am_lf 26 (some (.aload_n 0, 1, 0)) x) (am_lf 27 (some (.iload_n 1, 1, 0)) x) x) (am_br 31 (am_lf 28 (some (.invokevirtual 211, 3, 1110802)) x) (am_lf 31 (some (.ireturn, 1, 0)) x) x) x) x) x
def am_i_Desk_told : Nat → Option (ClassFile.Instr × Nat × Nat) := fun x => am_br 65 (am_br 48 (am_br 8 (am_br 4 (am_br 1 (am_lf 0 (some (.aload_n 0, 1, 0)) x) (am_lf 1 (some (.getfield 19, 3, 11010331)) x) x) (am_br 5 (am_lf 4 (some (.iload_n 1, 1, 0)) x) (am_lf 5 (some (.invokevirtual 205, 3, 700793)) x) x) x) (am_br 12 (am_br 11 (am_lf 8 (some (.ifCond .ne 5, 3, 0)) x) (am_lf 11 (some (.iconst (-1), 1, 0)) x) x) (am_br 13 (am_lf 12 (some (.ireturn, 1, 0)) x) (am_br 14 (am_lf 13 (some (.iload_n 2, 1, 0)) x) (am_lf 14 (some (.tableswitch 80 0 4 #[34, 43, 52, 61, 70], 34, 0)) x) x) x) x) x) (am_br 56 (am_br 52 (am_br 49 (am_lf 48 (some (.aload_n 0, 1, 0)) x) (am_lf 49 (some (.getfield 19, 3, 11010331)) x) x) (am_br 53 (am_lf 52 (some (.iload_n 1, 1, 0)) x) (am_lf 53 (some (.invokevirtual 214, 3, 720810)) x) x) x) (am_br 58 (am_br 57 (am_lf 56 (some (.ireturn, 1, 0)) x) (am_lf 57 (some (.aload_n 0, 1, 0)) x) x) (am_br 61 (am_lf 58 (some (.getfield 19, 3, 11010331)) x) (am_br 62 (am_lf 61 (some (.iload_n 1, 1, 0)) x) (am_lf 62 (some (.invokevirtual 220, 3, 740823)) x) x) x) x) x) x) (am_br 80 (am_br 71 (am_br 67 (am_br 66 (am_lf 65 (some (.ireturn, 1, 0)) x) (am_lf 66 (some (.aload_n 0, 1, 0)) x) x) (am_br 70 (am_lf 67 (some (.getfield 19, 3, 11010331)) x) (am_lf 70 (some (.iload_n 1, 1, 0)) x) x) x) (am_br 75 (am_br 74 (am_lf 71 (some (.invokevirtual 217, 3, 750815)) x) (am_lf 74 (some (.ireturn, 1, 0)) x) x) (am_br 76 (am_lf 75 (some (.aload_n 0, 1, 0)) x) (am_br 79 (am_lf 76 (some (.getfield 19, 3, 11010331)) x) (am_lf 79 (some (.iload_n 1, 1, 0)) x) x) x) x) x) (am_br 89 (am_br 84 (am_br 83 (am_lf 80 (some (.invokevirtual 223, 3, 760827)) x) (am_lf 83 (some (.ireturn, 1, 0)) x) x) (am_br 85 (am_lf 84 (some (.aload_n 0, 1, 0)) x) (am_br 88 (am_lf 85 (some (.getfield 19, 3, 11010331)) x) (am_lf 88 (some (.iload_n 1, 1, 0)) x) x) x) x) (am_br 93 (am_br 90 (am_lf 89 (some (.iconst 0, 1, 0)) x) (am_lf 90 (some (.invokevirtual 208, 3, 770794)) x) x) (am_br 94 (am_lf 93 (some (.ireturn, 1, 0)) x) (am_br 95 (am_lf 94 (some (.iconst (-1), 1, 0)) x) (am_lf 95 (some (.ireturn, 1, 0)) x) x) x) x) x) x) x
def am_i_Desk_squeeze : Nat → Option (ClassFile.Instr × Nat × Nat) := fun x => am_br 25 (am_br 12 (am_br 5 (am_br 1 (am_lf 0 (some (.aload_n 0, 1, 0)) x) (am_br 4 (am_lf 1 (some (.getfield 19, 3, 11010331)) x) (am_lf 4 (some (.iload_n 1, 1, 0)) x) x) x) (am_br 8 (am_lf 5 (some (.invokevirtual 205, 3, 700793)) x) (am_br 11 (am_lf 8 (some (.ifCond .ne 5, 3, 0)) x) (am_lf 11 (some (.iconst (-1), 1, 0)) x) x) x) x) (am_br 17 (am_br 13 (am_lf 12 (some (.ireturn, 1, 0)) x) (am_br 14 (am_lf 13 (some (.iload_n 1, 1, 0)) x) (am_lf 14 (some (.ifCond .eq 26, 3, 0)) x) x) x) (am_br 19 (am_br 18 (am_lf 17 (some (.iload_n 1, 1, 0)) x) (am_lf 18 (some (.aload_n 0, 1, 0)) x) x) (am_br 22 (am_lf 19 (some (.getfield 19, 3, 11010331)) x) (am_lf 22 (some (.getfield 202, 3, 10010131)) x) x) x) x) x) (am_br 40 (am_br 32 (am_br 28 (am_lf 25 (some (.if_icmp .eq 15, 3, 0)) x) (am_br 29 (am_lf 28 (some (.aload_n 0, 1, 0)) x) (am_lf 29 (some (.getfield 19, 3, 11010331)) x) x) x) (am_br 36 (am_br 33 (am_lf 32 (some (.iload_n 1, 1, 0)) x) (am_lf 33 (some (.invokevirtual 220, 3, 740823)) x) x) (am_br 37 (am_lf 36 (some (.iconst 1, 1, 0)) x) (am_lf 37 (some (.if_icmp .eq 6, 3, 0)) x) x) x) x) (am_br 44 (am_br 42 (am_lf 40 (some (.bipush (-2), 2, 0)) x) (am_br 43 (am_lf 42 (some (.ireturn, 1, 0)) x) (am_lf 43 (some (.aload_n 0, 1, 0)) x) x) x) (am_br 48 (am_br 47 (am_lf 44 (some (.getfield 19, 3, 11010331)) x) (am_lf 47 (some (.iload_n 1, 1, 0)) x) x) (am_br 51 (am_lf 48 (some (.invokevirtual 226, 3, 780837)) x) (am_lf 51 (some (.ireturn, 1, 0)) x) x) x) x) x) x
def am_i_Desk_trace : Nat → Option (ClassFile.Instr × Nat × Nat) := fun x => am_br 4 (am_br 1 (am_lf 0 (some (.aload_n 0, 1, 0)) x) (am_lf 1 (some (.getfield 28, 3, 11020332)) x) x) (am_br 7 (am_lf 4 (some (.getfield 229, 3, 9000242)) x) (am_br 10 (am_lf 7 (some (.getfield 233, 3, 8000154)) x) (am_lf 10 (some (.lreturn, 1, 0)) x) x) x) x
def am_i_Desk_digest : Nat → Option (ClassFile.Instr × Nat × Nat) := fun x => am_br 4 (am_br 1 (am_lf 0 (some (.aload_n 0, 1, 0)) x) (am_lf 1 (some (.getfield 10, 3, 11000330)) x) x) (am_br 7 (am_lf 4 (some (.invokevirtual 239, 3, 160850)) x) (am_lf 7 (some (.lreturn, 1, 0)) x) x) x
def am_i_Desk_within : Nat → Option (ClassFile.Instr × Nat × Nat) := fun x => am_br 7 (am_br 2 (am_br 1 (am_lf 0 (some (.iload_n 0, 1, 0)) x) (am_lf 1 (some (.iload_n 1, 1, 0)) x) x) (am_br 5 (am_lf 2 (some (.if_icmp .lt 12, 3, 0)) x) (am_br 6 (am_lf 5 (some (.iload_n 0, 1, 0)) x) (am_lf 6 (some (.iload_n 2, 1, 0)) x) x) x) x) (am_br 11 (am_br 10 (am_lf 7 (some (.if_icmp .gt 7, 3, 0)) x) (am_lf 10 (some (.iconst 1, 1, 0)) x) x) (am_br 14 (am_lf 11 (some (.goto 4, 3, 0)) x) (am_br 15 (am_lf 14 (some (.iconst 0, 1, 0)) x) (am_lf 15 (some (.ireturn, 1, 0)) x) x) x) x) x
def am_i_Desk_isWool : Nat → Option (ClassFile.Instr × Nat × Nat) := fun x => am_br 7 (am_br 4 (am_br 1 (am_lf 0 (some (.iload_n 0, 1, 0)) x) (am_lf 1 (some (.ifCond .lt 13, 3, 0)) x) x) (am_br 5 (am_lf 4 (some (.iload_n 0, 1, 0)) x) (am_lf 5 (some (.bipush 9, 2, 0)) x) x) x) (am_br 11 (am_br 10 (am_lf 7 (some (.if_icmp .gt 7, 3, 0)) x) (am_lf 10 (some (.iconst 1, 1, 0)) x) x) (am_br 14 (am_lf 11 (some (.goto 4, 3, 0)) x) (am_br 15 (am_lf 14 (some (.iconst 0, 1, 0)) x) (am_lf 15 (some (.ireturn, 1, 0)) x) x) x) x) x
def am_i_Desk_handleOf : Nat → Option (ClassFile.Instr × Nat × Nat) := fun x => am_br 17 (am_br 6 (am_br 4 (am_br 1 (am_lf 0 (some (.iload_n 1, 1, 0)) x) (am_lf 1 (some (.ifCond .lt 29, 3, 0)) x) x) (am_br 5 (am_lf 4 (some (.iload_n 1, 1, 0)) x) (am_lf 5 (some (.aload_n 0, 1, 0)) x) x) x) (am_br 12 (am_br 9 (am_lf 6 (some (.getfield 51, 3, 11060336)) x) (am_lf 9 (some (.if_icmp .ge 21, 3, 0)) x) x) (am_br 13 (am_lf 12 (some (.iload_n 1, 1, 0)) x) (am_br 14 (am_lf 13 (some (.aload_n 0, 1, 0)) x) (am_lf 14 (some (.getfield 41, 3, 11040334)) x) x) x) x) x) (am_br 25 (am_br 21 (am_br 18 (am_lf 17 (some (.arraylength, 1, 0)) x) (am_lf 18 (some (.if_icmp .ge 12, 3, 0)) x) x) (am_br 22 (am_lf 21 (some (.aload_n 0, 1, 0)) x) (am_lf 22 (some (.getfield 41, 3, 11040334)) x) x) x) (am_br 27 (am_br 26 (am_lf 25 (some (.iload_n 1, 1, 0)) x) (am_lf 26 (some (.aaload, 1, 0)) x) x) (am_br 30 (am_lf 27 (some (.goto 4, 3, 0)) x) (am_br 31 (am_lf 30 (some (.aconst_null, 1, 0)) x) (am_lf 31 (some (.areturn, 1, 0)) x) x) x) x) x) x
def am_i_Desk_macroOf : Nat → Option (ClassFile.Instr × Nat × Nat) := fun x => am_br 17 (am_br 6 (am_br 4 (am_br 1 (am_lf 0 (some (.iload_n 1, 1, 0)) x) (am_lf 1 (some (.ifCond .lt 29, 3, 0)) x) x) (am_br 5 (am_lf 4 (some (.iload_n 1, 1, 0)) x) (am_lf 5 (some (.aload_n 0, 1, 0)) x) x) x) (am_br 12 (am_br 9 (am_lf 6 (some (.getfield 55, 3, 11070337)) x) (am_lf 9 (some (.if_icmp .ge 21, 3, 0)) x) x) (am_br 13 (am_lf 12 (some (.iload_n 1, 1, 0)) x) (am_br 14 (am_lf 13 (some (.aload_n 0, 1, 0)) x) (am_lf 14 (some (.getfield 47, 3, 11050335)) x) x) x) x) x) (am_br 25 (am_br 21 (am_br 18 (am_lf 17 (some (.arraylength, 1, 0)) x) (am_lf 18 (some (.if_icmp .ge 12, 3, 0)) x) x) (am_br 22 (am_lf 21 (some (.aload_n 0, 1, 0)) x) (am_lf 22 (some (.getfield 47, 3, 11050335)) x) x) x) (am_br 27 (am_br 26 (am_lf 25 (some (.iload_n 1, 1, 0)) x) (am_lf 26 (some (.aaload, 1, 0)) x) x) (am_br 30 (am_lf 27 (some (.goto 4, 3, 0)) x) (am_br 31 (am_lf 30 (some (.aconst_null, 1, 0)) x) (am_lf 31 (some (.areturn, 1, 0)) x) x) x) x) x) x
def am_i_Desk_keepHandle : Nat → Option (ClassFile.Instr × Nat × Nat) := fun x => am_br 18 (am_br 7 (am_br 4 (am_br 1 (am_lf 0 (some (.aload_n 0, 1, 0)) x) (am_lf 1 (some (.getfield 51, 3, 11060336)) x) x) (am_br 5 (am_lf 4 (some (.istore_n 2, 1, 0)) x) (am_br 6 (am_lf 5 (some (.iload_n 2, 1, 0)) x) (am_lf 6 (some (.aload_n 0, 1, 0)) x) x) x) x) (am_br 11 (am_br 10 (am_lf 7 (some (.getfield 41, 3, 11040334)) x) (am_lf 10 (some (.arraylength, 1, 0)) x) x) (am_br 14 (am_lf 11 (some (.if_icmp .ge 20, 3, 0)) x) (am_br 15 (am_lf 14 (some (.aload_n 0, 1, 0)) x) (am_lf 15 (some (.getfield 41, 3, 11040334)) x) x) x) x) x) (am_br 23 (am_br 20 (am_br 19 (am_lf 18 (some (.iload_n 2, 1, 0)) x) (am_lf 19 (some (.aload_n 1, 1, 0)) x) x) (am_br 21 (am_lf 20 (some (.aastore, 1, 0)) x) (am_br 22 (am_lf 21 (some (.aload_n 0, 1, 0)) x) (am_lf 22 (some (.dup, 1, 0)) x) x) x) x) (am_br 28 (am_br 26 (am_lf 23 (some (.getfield 51, 3, 11060336)) x) (am_br 27 (am_lf 26 (some (.iconst 1, 1, 0)) x) (am_lf 27 (some (.iadd, 1, 0)) x) x) x) (am_br 31 (am_lf 28 (some (.putfield 51, 3, 11060336)) x) (am_br 32 (am_lf 31 (some (.iload_n 2, 1, 0)) x) (am_lf 32 (some (.ireturn, 1, 0)) x) x) x) x) x) x
def am_i_Desk_settle : Nat → Option (ClassFile.Instr × Nat × Nat) := fun x => am_br 36 (am_br 16 (am_br 8 (am_br 4 (am_br 1 (am_lf 0 (some (.aload_n 0, 1, 0)) x) (am_lf 1 (some (.getfield 19, 3, 11010331)) x) x) (am_br 5 (am_lf 4 (some (.aload_n 0, 1, 0)) x) (am_lf 5 (some (.getfield 19, 3, 11010331)) x) x) x) (am_br 14 (am_br 11 (am_lf 8 (some (.getfield 202, 3, 10010131)) x) (am_lf 11 (some (.invokevirtual 243, 3, 710597)) x) x) (am_br 15 (am_lf 14 (some (.astore_n 1, 1, 0)) x) (am_lf 15 (some (.aload_n 1, 1, 0)) x) x) x) x) (am_br 23 (am_br 21 (am_br 19 (am_lf 16 (some (.ifnonnull 6, 3, 0)) x) (am_lf 19 (some (.bipush (-5), 2, 0)) x) x) (am_br 22 (am_lf 21 (some (.ireturn, 1, 0)) x) (am_lf 22 (some (.aload_n 0, 1, 0)) x) x) x) (am_br 29 (am_br 26 (am_lf 23 (some (.getfield 28, 3, 11020332)) x) (am_lf 26 (some (.getfield 187, 3, 9010244)) x) x) (am_br 32 (am_lf 29 (some (.ifCond .eq 14, 3, 0)) x) (am_br 33 (am_lf 32 (some (.aload_n 0, 1, 0)) x) (am_lf 33 (some (.getfield 10, 3, 11000330)) x) x) x) x) x) x) (am_br 51 (am_br 43 (am_br 40 (am_br 37 (am_lf 36 (some (.aload_n 1, 1, 0)) x) (am_lf 37 (some (.invokevirtual 247, 3, 20601)) x) x) (am_br 42 (am_lf 40 (some (.bipush (-5), 2, 0)) x) (am_lf 42 (some (.ireturn, 1, 0)) x) x) x) (am_br 47 (am_br 44 (am_lf 43 (some (.aload_n 0, 1, 0)) x) (am_lf 44 (some (.getfield 28, 3, 11020332)) x) x) (am_br 48 (am_lf 47 (some (.aload_n 0, 1, 0)) x) (am_lf 48 (some (.getfield 10, 3, 11000330)) x) x) x) x) (am_br 59 (am_br 55 (am_br 52 (am_lf 51 (some (.aload_n 1, 1, 0)) x) (am_lf 52 (some (.invokevirtual 250, 3, 110602)) x) x) (am_br 58 (am_lf 55 (some (.putfield 190, 3, 9020246)) x) (am_lf 58 (some (.aload_n 0, 1, 0)) x) x) x) (am_br 63 (am_br 62 (am_lf 59 (some (.getfield 19, 3, 11010331)) x) (am_lf 62 (some (.aload_n 0, 1, 0)) x) x) (am_br 66 (am_lf 63 (some (.getfield 10, 3, 11000330)) x) (am_br 69 (am_lf 66 (some (.invokevirtual 254, 3, 680611)) x) (am_lf 69 (some (.ireturn, 1, 0)) x) x) x) x) x) x) x
def am_i_Desk_moveTo : Nat → Option (ClassFile.Instr × Nat × Nat) := fun x => am_br 14 (am_br 8 (am_br 4 (am_br 1 (am_lf 0 (some (.aload_n 0, 1, 0)) x) (am_lf 1 (some (.getfield 19, 3, 11010331)) x) x) (am_br 5 (am_lf 4 (some (.iload_n 1, 1, 0)) x) (am_lf 5 (some (.invokevirtual 243, 3, 710597)) x) x) x) (am_br 10 (am_br 9 (am_lf 8 (some (.astore_n 2, 1, 0)) x) (am_lf 9 (some (.aload_n 2, 1, 0)) x) x) (am_br 13 (am_lf 10 (some (.ifnull 19, 3, 0)) x) (am_lf 13 (some (.aload_n 0, 1, 0)) x) x) x) x) (am_br 22 (am_br 18 (am_br 17 (am_lf 14 (some (.getfield 10, 3, 11000330)) x) (am_lf 17 (some (.aload_n 2, 1, 0)) x) x) (am_br 21 (am_lf 18 (some (.invokevirtual 247, 3, 20601)) x) (am_lf 21 (some (.aload_n 0, 1, 0)) x) x) x) (am_br 26 (am_br 25 (am_lf 22 (some (.getfield 19, 3, 11010331)) x) (am_lf 25 (some (.iload_n 1, 1, 0)) x) x) (am_br 29 (am_lf 26 (some (.putfield 202, 3, 10010131)) x) (am_br 30 (am_lf 29 (some (.iload_n 1, 1, 0)) x) (am_lf 30 (some (.ireturn, 1, 0)) x) x) x) x) x) x
def am_i_Model_init : Nat → Option (ClassFile.Instr × Nat × Nat) := fun x => am_br 127 (am_br 64 (am_br 30 (am_br 13 (am_br 5 (am_br 1 (am_lf 0 (some (.aload_n 0, 1, 0)) x) (am_br 4 (am_lf 1 (some (.invokespecial 1, 3, 10000862)) x) (am_lf 4 (some (.aload_n 0, 1, 0)) x) x) x) (am_br 10 (am_br 7 (am_lf 5 (some (.bipush 8, 2, 0)) x) (am_lf 7 (some (.putfield 7, 3, 12010876)) x) x) (am_br 11 (am_lf 10 (some (.aload_n 0, 1, 0)) x) (am_lf 11 (some (.bipush 8, 2, 0)) x) x) x) x) (am_br 22 (am_br 17 (am_br 16 (am_lf 13 (some (.putfield 13, 3, 12020877)) x) (am_lf 16 (some (.aload_n 0, 1, 0)) x) x) (am_br 20 (am_lf 17 (some (.sipush 300, 3, 0)) x) (am_lf 20 (some (.newarray .int, 2, 0)) x) x) x) (am_br 26 (am_br 25 (am_lf 22 (some (.putfield 16, 3, 12030878)) x) (am_lf 25 (some (.aload_n 0, 1, 0)) x) x) (am_br 28 (am_lf 26 (some (.bipush 100, 2, 0)) x) (am_lf 28 (some (.newarray .boolean, 2, 10000)) x) x) x) x) x) (am_br 48 (am_br 39 (am_br 34 (am_br 33 (am_lf 30 (some (.putfield 20, 3, 12040879)) x) (am_lf 33 (some (.aload_n 0, 1, 0)) x) x) (am_br 36 (am_lf 34 (some (.bipush 7, 2, 0)) x) (am_lf 36 (some (.putfield 24, 3, 12060881)) x) x) x) (am_br 43 (am_br 40 (am_lf 39 (some (.aload_n 0, 1, 0)) x) (am_lf 40 (some (.sipush 24120, 3, 0)) x) x) (am_br 45 (am_lf 43 (some (.newarray .int, 2, 0)) x) (am_lf 45 (some (.putfield 27, 3, 12070882)) x) x) x) x) (am_br 56 (am_br 51 (am_br 49 (am_lf 48 (some (.aload_n 0, 1, 0)) x) (am_lf 49 (some (.bipush 60, 2, 0)) x) x) (am_br 53 (am_lf 51 (some (.newarray .int, 2, 0)) x) (am_lf 53 (some (.putfield 30, 3, 12080883)) x) x) x) (am_br 59 (am_br 57 (am_lf 56 (some (.aload_n 0, 1, 0)) x) (am_lf 57 (some (.bipush 60, 2, 0)) x) x) (am_br 61 (am_lf 59 (some (.newarray .boolean, 2, 10000)) x) (am_lf 61 (some (.putfield 33, 3, 12090884)) x) x) x) x) x) x) (am_br 95 (am_br 78 (am_br 69 (am_br 65 (am_lf 64 (some (.aload_n 0, 1, 0)) x) (am_br 67 (am_lf 65 (some (.bipush 40, 2, 0)) x) (am_lf 67 (some (.newarray .int, 2, 0)) x) x) x) (am_br 73 (am_br 72 (am_lf 69 (some (.putfield 36, 3, 12130888)) x) (am_lf 72 (some (.aload_n 0, 1, 0)) x) x) (am_br 76 (am_lf 73 (some (.sipush 200, 3, 0)) x) (am_lf 76 (some (.newarray .boolean, 2, 10000)) x) x) x) x) (am_br 87 (am_br 82 (am_br 81 (am_lf 78 (some (.putfield 39, 3, 12140889)) x) (am_lf 81 (some (.aload_n 0, 1, 0)) x) x) (am_br 85 (am_lf 82 (some (.sipush 200, 3, 0)) x) (am_lf 85 (some (.newarray .int, 2, 0)) x) x) x) (am_br 91 (am_br 90 (am_lf 87 (some (.putfield 42, 3, 12150890)) x) (am_lf 90 (some (.aload_n 0, 1, 0)) x) x) (am_br 93 (am_lf 91 (some (.bipush 20, 2, 0)) x) (am_lf 93 (some (.newarray .int, 2, 0)) x) x) x) x) x) (am_br 111 (am_br 103 (am_br 99 (am_br 98 (am_lf 95 (some (.putfield 45, 3, 12170892)) x) (am_lf 98 (some (.aload_n 0, 1, 0)) x) x) (am_br 101 (am_lf 99 (some (.bipush 20, 2, 0)) x) (am_lf 101 (some (.newarray .int, 2, 0)) x) x) x) (am_br 107 (am_br 106 (am_lf 103 (some (.putfield 48, 3, 12180893)) x) (am_lf 106 (some (.aload_n 0, 1, 0)) x) x) (am_br 109 (am_lf 107 (some (.bipush 20, 2, 0)) x) (am_lf 109 (some (.newarray .int, 2, 0)) x) x) x) x) (am_br 119 (am_br 115 (am_br 114 (am_lf 111 (some (.putfield 51, 3, 12190894)) x) (am_lf 114 (some (.aload_n 0, 1, 0)) x) x) (am_br 117 (am_lf 115 (some (.bipush 20, 2, 0)) x) (am_lf 117 (some (.newarray .int, 2, 0)) x) x) x) (am_br 123 (am_br 122 (am_lf 119 (some (.putfield 54, 3, 12200895)) x) (am_lf 122 (some (.aload_n 0, 1, 0)) x) x) (am_br 125 (am_lf 123 (some (.bipush 20, 2, 0)) x) (am_lf 125 (some (.newarray .int, 2, 0)) x) x) x) x) x) x) x) (am_br 189 (am_br 158 (am_br 143 (am_br 134 (am_br 130 (am_lf 127 (some (.putfield 57, 3, 12210896)) x) (am_br 131 (am_lf 130 (some (.aload_n 0, 1, 0)) x) (am_lf 131 (some (.sipush 160, 3, 0)) x) x) x) (am_br 139 (am_br 136 (am_lf 134 (some (.newarray .int, 2, 0)) x) (am_lf 136 (some (.putfield 60, 3, 12220897)) x) x) (am_br 140 (am_lf 139 (some (.aload_n 0, 1, 0)) x) (am_lf 140 (some (.sipush 640, 3, 0)) x) x) x) x) (am_br 151 (am_br 148 (am_br 145 (am_lf 143 (some (.newarray .int, 2, 0)) x) (am_lf 145 (some (.putfield 63, 3, 12230898)) x) x) (am_br 149 (am_lf 148 (some (.aload_n 0, 1, 0)) x) (am_lf 149 (some (.bipush (-9), 2, 0)) x) x) x) (am_br 155 (am_br 154 (am_lf 151 (some (.putfield 66, 3, 12270902)) x) (am_lf 154 (some (.aload_n 0, 1, 0)) x) x) (am_br 156 (am_lf 155 (some (.iconst 5, 1, 0)) x) (am_lf 156 (some (.newarray .int, 2, 0)) x) x) x) x) x) (am_br 174 (am_br 166 (am_br 162 (am_br 161 (am_lf 158 (some (.putfield 69, 3, 12300905)) x) (am_lf 161 (some (.aload_n 0, 1, 0)) x) x) (am_br 164 (am_lf 162 (some (.bipush 100, 2, 0)) x) (am_lf 164 (some (.newarray .int, 2, 0)) x) x) x) (am_br 170 (am_br 169 (am_lf 166 (some (.putfield 72, 3, 12310906)) x) (am_lf 169 (some (.aload_n 0, 1, 0)) x) x) (am_br 172 (am_lf 170 (some (.bipush 100, 2, 0)) x) (am_lf 172 (some (.newarray .boolean, 2, 10000)) x) x) x) x) (am_br 181 (am_br 178 (am_br 177 (am_lf 174 (some (.putfield 75, 3, 12360911)) x) (am_lf 177 (some (.aload_n 0, 1, 0)) x) x) (am_br 179 (am_lf 178 (some (.iconst 5, 1, 0)) x) (am_lf 179 (some (.newarray .int, 2, 0)) x) x) x) (am_br 185 (am_br 184 (am_lf 181 (some (.putfield 78, 3, 12370912)) x) (am_lf 184 (some (.aload_n 0, 1, 0)) x) x) (am_br 187 (am_lf 185 (some (.bipush 20, 2, 0)) x) (am_lf 187 (some (.newarray .int, 2, 0)) x) x) x) x) x) x) (am_br 219 (am_br 203 (am_br 195 (am_br 192 (am_lf 189 (some (.putfield 81, 3, 12380913)) x) (am_br 193 (am_lf 192 (some (.aload_n 0, 1, 0)) x) (am_lf 193 (some (.bipush 20, 2, 0)) x) x) x) (am_br 200 (am_br 197 (am_lf 195 (some (.newarray .int, 2, 0)) x) (am_lf 197 (some (.putfield 84, 3, 12390914)) x) x) (am_br 201 (am_lf 200 (some (.aload_n 0, 1, 0)) x) (am_lf 201 (some (.bipush 20, 2, 0)) x) x) x) x) (am_br 211 (am_br 208 (am_br 205 (am_lf 203 (some (.newarray .int, 2, 0)) x) (am_lf 205 (some (.putfield 87, 3, 12400915)) x) x) (am_br 209 (am_lf 208 (some (.aload_n 0, 1, 0)) x) (am_lf 209 (some (.bipush 20, 2, 0)) x) x) x) (am_br 216 (am_br 213 (am_lf 211 (some (.newarray .int, 2, 0)) x) (am_lf 213 (some (.putfield 90, 3, 12410916)) x) x) (am_br 217 (am_lf 216 (some (.aload_n 0, 1, 0)) x) (am_lf 217 (some (.bipush 20, 2, 0)) x) x) x) x) x) (am_br 235 (am_br 226 (am_br 224 (am_br 221 (am_lf 219 (some (.newarray .int, 2, 0)) x) (am_lf 221 (some (.putfield 93, 3, 12420917)) x) x) (am_br 225 (am_lf 224 (some (.aload_n 0, 1, 0)) x) (am_lf 225 (some (.iconst 0, 1, 0)) x) x) x) (am_br 230 (am_br 229 (am_lf 226 (some (.putfield 96, 3, 12100885)) x) (am_lf 229 (some (.aload_n 0, 1, 0)) x) x) (am_br 232 (am_lf 230 (some (.bipush (-9), 2, 0)) x) (am_lf 232 (some (.invokevirtual 99, 3, 1160863)) x) x) x) x) (am_br 241 (am_br 237 (am_br 236 (am_lf 235 (some (.pop, 1, 0)) x) (am_lf 236 (some (.aload_n 0, 1, 0)) x) x) (am_br 238 (am_lf 237 (some (.iconst 1, 1, 0)) x) (am_lf 238 (some (.invokevirtual 103, 3, 1140867)) x) x) x) (am_br 243 (am_br 242 (am_lf 241 (some (.aload_n 0, 1, 0)) x) (am_lf 242 (some (.iconst 0, 1, 0)) x) x) (am_br 246 (am_lf 243 (some (.invokevirtual 107, 3, 1170871)) x) (am_lf 246 (some (.return_, 1, 0)) x) x) x) x) x) x) x) x
def am_i_Model_in : Nat → Option (ClassFile.Instr × Nat × Nat) := fun x => am_br 7 (am_br 2 (am_br 1 (am_lf 0 (some (.iload_n 0, 1, 0)) x) (am_lf 1 (some (.iload_n 1, 1, 0)) x) x) (am_br 5 (am_lf 2 (some (.if_icmp .lt 12, 3, 0)) x) (am_br 6 (am_lf 5 (some (.iload_n 0, 1, 0)) x) (am_lf 6 (some (.iload_n 2, 1, 0)) x) x) x) x) (am_br 11 (am_br 10 (am_lf 7 (some (.if_icmp .gt 7, 3, 0)) x) (am_lf 10 (some (.iconst 1, 1, 0)) x) x) (am_br 14 (am_lf 11 (some (.goto 4, 3, 0)) x) (am_br 15 (am_lf 14 (some (.iconst 0, 1, 0)) x) (am_lf 15 (some (.ireturn, 1, 0)) x) x) x) x) x
def am_i_Model_all : Nat → Option (ClassFile.Instr × Nat × Nat) := fun x => am_br 22 (am_br 12 (am_br 3 (am_br 1 (am_lf 0 (some (.iconst 0, 1, 0)) x) (am_br 2 (am_lf 1 (some (.istore_n 2, 1, 0)) x) (am_lf 2 (some (.iload_n 2, 1, 0)) x) x) x) (am_br 8 (am_br 5 (am_lf 3 (some (.bipush 100, 2, 0)) x) (am_lf 5 (some (.if_icmp .ge 46, 3, 0)) x) x) (am_br 9 (am_lf 8 (some (.aload_n 0, 1, 0)) x) (am_lf 9 (some (.getfield 20, 3, 12040879)) x) x) x) x) (am_br 17 (am_br 13 (am_lf 12 (some (.iload_n 2, 1, 0)) x) (am_br 14 (am_lf 13 (some (.iload_n 1, 1, 0)) x) (am_lf 14 (some (.ifCond .eq 29, 3, 0)) x) x) x) (am_br 20 (am_br 18 (am_lf 17 (some (.iload_n 2, 1, 0)) x) (am_lf 18 (some (.bipush 10, 2, 0)) x) x) (am_br 21 (am_lf 20 (some (.idiv, 1, 0)) x) (am_lf 21 (some (.aload_n 0, 1, 0)) x) x) x) x) x) (am_br 36 (am_br 29 (am_br 25 (am_lf 22 (some (.getfield 7, 3, 12010876)) x) (am_br 28 (am_lf 25 (some (.if_icmp .ge 18, 3, 0)) x) (am_lf 28 (some (.iload_n 2, 1, 0)) x) x) x) (am_br 32 (am_br 31 (am_lf 29 (some (.bipush 10, 2, 0)) x) (am_lf 31 (some (.irem, 1, 0)) x) x) (am_br 33 (am_lf 32 (some (.aload_n 0, 1, 0)) x) (am_lf 33 (some (.getfield 13, 3, 12020877)) x) x) x) x) (am_br 44 (am_br 40 (am_br 39 (am_lf 36 (some (.if_icmp .ge 7, 3, 0)) x) (am_lf 39 (some (.iconst 1, 1, 0)) x) x) (am_br 43 (am_lf 40 (some (.goto 4, 3, 0)) x) (am_lf 43 (some (.iconst 0, 1, 0)) x) x) x) (am_br 48 (am_br 45 (am_lf 44 (some (.bastore, 1, 0)) x) (am_lf 45 (some (.iinc 2 1, 3, 0)) x) x) (am_br 51 (am_lf 48 (some (.goto (-46), 3, 0)) x) (am_lf 51 (some (.return_, 1, 0)) x) x) x) x) x) x
def am_i_Model_isKnot : Nat → Option (ClassFile.Instr × Nat × Nat) := fun x => am_br 16 (am_br 7 (am_br 2 (am_br 1 (am_lf 0 (some (.iload_n 1, 1, 0)) x) (am_lf 1 (some (.iconst 0, 1, 0)) x) x) (am_br 3 (am_lf 2 (some (.aload_n 0, 1, 0)) x) (am_br 6 (am_lf 3 (some (.getfield 7, 3, 12010876)) x) (am_lf 6 (some (.iconst 1, 1, 0)) x) x) x) x) (am_br 11 (am_br 8 (am_lf 7 (some (.isub, 1, 0)) x) (am_lf 8 (some (.invokestatic 114, 3, 1131012)) x) x) (am_br 14 (am_lf 11 (some (.ifCond .eq 21, 3, 0)) x) (am_br 15 (am_lf 14 (some (.iload_n 2, 1, 0)) x) (am_lf 15 (some (.iconst 0, 1, 0)) x) x) x) x) x) (am_br 25 (am_br 20 (am_br 17 (am_lf 16 (some (.aload_n 0, 1, 0)) x) (am_lf 17 (some (.getfield 13, 3, 12020877)) x) x) (am_br 21 (am_lf 20 (some (.iconst 1, 1, 0)) x) (am_br 22 (am_lf 21 (some (.isub, 1, 0)) x) (am_lf 22 (some (.invokestatic 114, 3, 1131012)) x) x) x) x) (am_br 29 (am_br 28 (am_lf 25 (some (.ifCond .eq 7, 3, 0)) x) (am_lf 28 (some (.iconst 1, 1, 0)) x) x) (am_br 32 (am_lf 29 (some (.goto 4, 3, 0)) x) (am_br 33 (am_lf 32 (some (.iconst 0, 1, 0)) x) (am_lf 33 (some (.ireturn, 1, 0)) x) x) x) x) x) x
def am_i_Model_adds : Nat → Option (ClassFile.Instr × Nat × Nat) := fun x => am_br 21 (am_br 10 (am_br 5 (am_br 1 (am_lf 0 (some (.aload_n 0, 1, 0)) x) (am_br 4 (am_lf 1 (some (.getfield 30, 3, 12080883)) x) (am_lf 4 (some (.aload_n 0, 1, 0)) x) x) x) (am_br 8 (am_lf 5 (some (.getfield 96, 3, 12100885)) x) (am_br 9 (am_lf 8 (some (.iload_n 1, 1, 0)) x) (am_lf 9 (some (.iastore, 1, 0)) x) x) x) x) (am_br 15 (am_br 11 (am_lf 10 (some (.aload_n 0, 1, 0)) x) (am_br 14 (am_lf 11 (some (.getfield 33, 3, 12090884)) x) (am_lf 14 (some (.aload_n 0, 1, 0)) x) x) x) (am_br 19 (am_br 18 (am_lf 15 (some (.getfield 96, 3, 12100885)) x) (am_lf 18 (some (.iconst 1, 1, 0)) x) x) (am_br 20 (am_lf 19 (some (.bastore, 1, 0)) x) (am_lf 20 (some (.aload_n 0, 1, 0)) x) x) x) x) x) (am_br 32 (am_br 26 (am_br 22 (am_lf 21 (some (.dup, 1, 0)) x) (am_br 25 (am_lf 22 (some (.getfield 96, 3, 12100885)) x) (am_lf 25 (some (.iconst 1, 1, 0)) x) x) x) (am_br 30 (am_br 27 (am_lf 26 (some (.iadd, 1, 0)) x) (am_lf 27 (some (.putfield 96, 3, 12100885)) x) x) (am_br 31 (am_lf 30 (some (.aload_n 0, 1, 0)) x) (am_lf 31 (some (.aload_n 0, 1, 0)) x) x) x) x) (am_br 37 (am_br 35 (am_lf 32 (some (.getfield 96, 3, 12100885)) x) (am_br 36 (am_lf 35 (some (.iconst 1, 1, 0)) x) (am_lf 36 (some (.isub, 1, 0)) x) x) x) (am_br 41 (am_br 40 (am_lf 37 (some (.putfield 118, 3, 12110886)) x) (am_lf 40 (some (.aload_n 0, 1, 0)) x) x) (am_br 44 (am_lf 41 (some (.getfield 118, 3, 12110886)) x) (am_lf 44 (some (.ireturn, 1, 0)) x) x) x) x) x) x
def am_i_Model_keeps : Nat → Option (ClassFile.Instr × Nat × Nat) := fun x => am_br 51 (am_br 23 (am_br 9 (am_br 5 (am_br 3 (am_lf 0 (some (.sipush 402, 3, 0)) x) (am_br 4 (am_lf 3 (some (.iload_n 1, 1, 0)) x) (am_lf 4 (some (.imul, 1, 0)) x) x) x) (am_br 7 (am_br 6 (am_lf 5 (some (.istore_n 2, 1, 0)) x) (am_lf 6 (some (.iconst 0, 1, 0)) x) x) (am_br 8 (am_lf 7 (some (.istore_n 3, 1, 0)) x) (am_lf 8 (some (.iload_n 3, 1, 0)) x) x) x) x) (am_br 19 (am_br 15 (am_br 12 (am_lf 9 (some (.sipush 300, 3, 0)) x) (am_lf 12 (some (.if_icmp .ge 23, 3, 0)) x) x) (am_br 16 (am_lf 15 (some (.aload_n 0, 1, 0)) x) (am_lf 16 (some (.getfield 27, 3, 12070882)) x) x) x) (am_br 21 (am_br 20 (am_lf 19 (some (.iload_n 2, 1, 0)) x) (am_lf 20 (some (.iload_n 3, 1, 0)) x) x) (am_br 22 (am_lf 21 (some (.iadd, 1, 0)) x) (am_lf 22 (some (.aload_n 0, 1, 0)) x) x) x) x) x) (am_br 36 (am_br 28 (am_br 26 (am_lf 23 (some (.getfield 16, 3, 12030878)) x) (am_br 27 (am_lf 26 (some (.iload_n 3, 1, 0)) x) (am_lf 27 (some (.iaload, 1, 0)) x) x) x) (am_br 32 (am_br 29 (am_lf 28 (some (.iastore, 1, 0)) x) (am_lf 29 (some (.iinc 3 1, 3, 0)) x) x) (am_br 35 (am_lf 32 (some (.goto (-24), 3, 0)) x) (am_lf 35 (some (.iconst 0, 1, 0)) x) x) x) x) (am_br 43 (am_br 38 (am_br 37 (am_lf 36 (some (.istore_n 3, 1, 0)) x) (am_lf 37 (some (.iload_n 3, 1, 0)) x) x) (am_br 40 (am_lf 38 (some (.bipush 100, 2, 0)) x) (am_lf 40 (some (.if_icmp .ge 35, 3, 0)) x) x) x) (am_br 47 (am_br 44 (am_lf 43 (some (.aload_n 0, 1, 0)) x) (am_lf 44 (some (.getfield 27, 3, 12070882)) x) x) (am_br 48 (am_lf 47 (some (.iload_n 2, 1, 0)) x) (am_lf 48 (some (.sipush 300, 3, 0)) x) x) x) x) x) x) (am_br 76 (am_br 60 (am_br 54 (am_br 52 (am_lf 51 (some (.iadd, 1, 0)) x) (am_br 53 (am_lf 52 (some (.iload_n 3, 1, 0)) x) (am_lf 53 (some (.iadd, 1, 0)) x) x) x) (am_br 58 (am_br 55 (am_lf 54 (some (.aload_n 0, 1, 0)) x) (am_lf 55 (some (.getfield 20, 3, 12040879)) x) x) (am_br 59 (am_lf 58 (some (.iload_n 3, 1, 0)) x) (am_lf 59 (some (.baload, 1, 0)) x) x) x) x) (am_br 68 (am_br 64 (am_br 63 (am_lf 60 (some (.ifCond .eq 7, 3, 0)) x) (am_lf 63 (some (.iconst 1, 1, 0)) x) x) (am_br 67 (am_lf 64 (some (.goto 4, 3, 0)) x) (am_lf 67 (some (.iconst 0, 1, 0)) x) x) x) (am_br 72 (am_br 69 (am_lf 68 (some (.iastore, 1, 0)) x) (am_lf 69 (some (.iinc 3 1, 3, 0)) x) x) (am_br 75 (am_lf 72 (some (.goto (-35), 3, 0)) x) (am_lf 75 (some (.aload_n 0, 1, 0)) x) x) x) x) x) (am_br 90 (am_br 84 (am_br 80 (am_br 79 (am_lf 76 (some (.getfield 27, 3, 12070882)) x) (am_lf 79 (some (.iload_n 2, 1, 0)) x) x) (am_br 83 (am_lf 80 (some (.sipush 400, 3, 0)) x) (am_lf 83 (some (.iadd, 1, 0)) x) x) x) (am_br 88 (am_br 85 (am_lf 84 (some (.aload_n 0, 1, 0)) x) (am_lf 85 (some (.getfield 121, 3, 12050880)) x) x) (am_br 89 (am_lf 88 (some (.iastore, 1, 0)) x) (am_lf 89 (some (.aload_n 0, 1, 0)) x) x) x) x) (am_br 98 (am_br 94 (am_br 93 (am_lf 90 (some (.getfield 27, 3, 12070882)) x) (am_lf 93 (some (.iload_n 2, 1, 0)) x) x) (am_br 97 (am_lf 94 (some (.sipush 401, 3, 0)) x) (am_lf 97 (some (.iadd, 1, 0)) x) x) x) (am_br 102 (am_br 99 (am_lf 98 (some (.aload_n 0, 1, 0)) x) (am_lf 99 (some (.getfield 24, 3, 12060881)) x) x) (am_br 103 (am_lf 102 (some (.iastore, 1, 0)) x) (am_lf 103 (some (.return_, 1, 0)) x) x) x) x) x) x) x
def am_i_Model_becomes : Nat → Option (ClassFile.Instr × Nat × Nat) := fun x => am_br 52 (am_br 25 (am_br 9 (am_br 5 (am_br 3 (am_lf 0 (some (.sipush 402, 3, 0)) x) (am_br 4 (am_lf 3 (some (.iload_n 1, 1, 0)) x) (am_lf 4 (some (.imul, 1, 0)) x) x) x) (am_br 7 (am_br 6 (am_lf 5 (some (.istore_n 2, 1, 0)) x) (am_lf 6 (some (.iconst 0, 1, 0)) x) x) (am_br 8 (am_lf 7 (some (.istore_n 3, 1, 0)) x) (am_lf 8 (some (.iload_n 3, 1, 0)) x) x) x) x) (am_br 19 (am_br 15 (am_br 12 (am_lf 9 (some (.sipush 300, 3, 0)) x) (am_lf 12 (some (.if_icmp .ge 23, 3, 0)) x) x) (am_br 16 (am_lf 15 (some (.aload_n 0, 1, 0)) x) (am_lf 16 (some (.getfield 16, 3, 12030878)) x) x) x) (am_br 21 (am_br 20 (am_lf 19 (some (.iload_n 3, 1, 0)) x) (am_lf 20 (some (.aload_n 0, 1, 0)) x) x) (am_br 24 (am_lf 21 (some (.getfield 27, 3, 12070882)) x) (am_lf 24 (some (.iload_n 2, 1, 0)) x) x) x) x) x) (am_br 37 (am_br 29 (am_br 27 (am_br 26 (am_lf 25 (some (.iload_n 3, 1, 0)) x) (am_lf 26 (some (.iadd, 1, 0)) x) x) (am_br 28 (am_lf 27 (some (.iaload, 1, 0)) x) (am_lf 28 (some (.iastore, 1, 0)) x) x) x) (am_br 35 (am_br 32 (am_lf 29 (some (.iinc 3 1, 3, 0)) x) (am_lf 32 (some (.goto (-24), 3, 0)) x) x) (am_br 36 (am_lf 35 (some (.iconst 0, 1, 0)) x) (am_lf 36 (some (.istore_n 3, 1, 0)) x) x) x) x) (am_br 44 (am_br 40 (am_br 38 (am_lf 37 (some (.iload_n 3, 1, 0)) x) (am_lf 38 (some (.bipush 100, 2, 0)) x) x) (am_br 43 (am_lf 40 (some (.if_icmp .ge 36, 3, 0)) x) (am_lf 43 (some (.aload_n 0, 1, 0)) x) x) x) (am_br 48 (am_br 47 (am_lf 44 (some (.getfield 20, 3, 12040879)) x) (am_lf 47 (some (.iload_n 3, 1, 0)) x) x) (am_br 49 (am_lf 48 (some (.aload_n 0, 1, 0)) x) (am_lf 49 (some (.getfield 27, 3, 12070882)) x) x) x) x) x) x) (am_br 77 (am_br 61 (am_br 57 (am_br 53 (am_lf 52 (some (.iload_n 2, 1, 0)) x) (am_br 56 (am_lf 53 (some (.sipush 300, 3, 0)) x) (am_lf 56 (some (.iadd, 1, 0)) x) x) x) (am_br 59 (am_br 58 (am_lf 57 (some (.iload_n 3, 1, 0)) x) (am_lf 58 (some (.iadd, 1, 0)) x) x) (am_br 60 (am_lf 59 (some (.iaload, 1, 0)) x) (am_lf 60 (some (.iconst 1, 1, 0)) x) x) x) x) (am_br 69 (am_br 65 (am_br 64 (am_lf 61 (some (.if_icmp .ne 7, 3, 0)) x) (am_lf 64 (some (.iconst 1, 1, 0)) x) x) (am_br 68 (am_lf 65 (some (.goto 4, 3, 0)) x) (am_lf 68 (some (.iconst 0, 1, 0)) x) x) x) (am_br 73 (am_br 70 (am_lf 69 (some (.bastore, 1, 0)) x) (am_lf 70 (some (.iinc 3 1, 3, 0)) x) x) (am_br 76 (am_lf 73 (some (.goto (-36), 3, 0)) x) (am_lf 76 (some (.aload_n 0, 1, 0)) x) x) x) x) x) (am_br 91 (am_br 85 (am_br 81 (am_br 78 (am_lf 77 (some (.aload_n 0, 1, 0)) x) (am_lf 78 (some (.getfield 27, 3, 12070882)) x) x) (am_br 82 (am_lf 81 (some (.iload_n 2, 1, 0)) x) (am_lf 82 (some (.sipush 400, 3, 0)) x) x) x) (am_br 87 (am_br 86 (am_lf 85 (some (.iadd, 1, 0)) x) (am_lf 86 (some (.iaload, 1, 0)) x) x) (am_br 90 (am_lf 87 (some (.putfield 121, 3, 12050880)) x) (am_lf 90 (some (.aload_n 0, 1, 0)) x) x) x) x) (am_br 99 (am_br 95 (am_br 92 (am_lf 91 (some (.aload_n 0, 1, 0)) x) (am_lf 92 (some (.getfield 27, 3, 12070882)) x) x) (am_br 96 (am_lf 95 (some (.iload_n 2, 1, 0)) x) (am_lf 96 (some (.sipush 401, 3, 0)) x) x) x) (am_br 101 (am_br 100 (am_lf 99 (some (.iadd, 1, 0)) x) (am_lf 100 (some (.iaload, 1, 0)) x) x) (am_br 104 (am_lf 101 (some (.putfield 24, 3, 12060881)) x) (am_lf 104 (some (.return_, 1, 0)) x) x) x) x) x) x) x
def am_i_Model_seen : Nat → Option (ClassFile.Instr × Nat × Nat) := fun x => am_br 26 (am_br 12 (am_br 6 (am_br 2 (am_br 1 (am_lf 0 (some (.iconst 2, 1, 0)) x) (am_lf 1 (some (.istore_n 2, 1, 0)) x) x) (am_br 3 (am_lf 2 (some (.iload_n 2, 1, 0)) x) (am_lf 3 (some (.ifCond .lt 47, 3, 0)) x) x) x) (am_br 10 (am_br 7 (am_lf 6 (some (.aload_n 0, 1, 0)) x) (am_lf 7 (some (.getfield 24, 3, 12060881)) x) x) (am_br 11 (am_lf 10 (some (.iload_n 2, 1, 0)) x) (am_lf 11 (some (.ishr, 1, 0)) x) x) x) x) (am_br 18 (am_br 14 (am_br 13 (am_lf 12 (some (.iconst 1, 1, 0)) x) (am_lf 13 (some (.iand, 1, 0)) x) x) (am_br 15 (am_lf 14 (some (.iconst 1, 1, 0)) x) (am_lf 15 (some (.if_icmp .ne 29, 3, 0)) x) x) x) (am_br 22 (am_br 19 (am_lf 18 (some (.aload_n 0, 1, 0)) x) (am_lf 19 (some (.getfield 16, 3, 12030878)) x) x) (am_br 24 (am_lf 22 (some (.bipush 100, 2, 0)) x) (am_br 25 (am_lf 24 (some (.iload_n 2, 1, 0)) x) (am_lf 25 (some (.imul, 1, 0)) x) x) x) x) x) x) (am_br 39 (am_br 32 (am_br 28 (am_br 27 (am_lf 26 (some (.iload_n 1, 1, 0)) x) (am_lf 27 (some (.iadd, 1, 0)) x) x) (am_br 29 (am_lf 28 (some (.iaload, 1, 0)) x) (am_lf 29 (some (.ifCond .eq 15, 3, 0)) x) x) x) (am_br 36 (am_br 33 (am_lf 32 (some (.aload_n 0, 1, 0)) x) (am_lf 33 (some (.getfield 16, 3, 12030878)) x) x) (am_br 38 (am_lf 36 (some (.bipush 100, 2, 0)) x) (am_lf 38 (some (.iload_n 2, 1, 0)) x) x) x) x) (am_br 43 (am_br 41 (am_br 40 (am_lf 39 (some (.imul, 1, 0)) x) (am_lf 40 (some (.iload_n 1, 1, 0)) x) x) (am_br 42 (am_lf 41 (some (.iadd, 1, 0)) x) (am_lf 42 (some (.iaload, 1, 0)) x) x) x) (am_br 47 (am_br 44 (am_lf 43 (some (.ireturn, 1, 0)) x) (am_lf 44 (some (.iinc 2 (-1), 3, 0)) x) x) (am_br 50 (am_lf 47 (some (.goto (-45), 3, 0)) x) (am_br 51 (am_lf 50 (some (.iconst 0, 1, 0)) x) (am_lf 51 (some (.ireturn, 1, 0)) x) x) x) x) x) x) x
def am_i_Model_cloth : Nat → Option (ClassFile.Instr × Nat × Nat) := fun x => am_br 59 (am_br 28 (am_br 15 (am_br 6 (am_br 2 (am_br 1 (am_lf 0 (some (.aload_n 0, 1, 0)) x) (am_lf 1 (some (.iconst 0, 1, 0)) x) x) (am_br 5 (am_lf 2 (some (.putfield 111, 3, 12000875)) x) (am_lf 5 (some (.iload_n 1, 1, 0)) x) x) x) (am_br 9 (am_br 7 (am_lf 6 (some (.iconst 1, 1, 0)) x) (am_lf 7 (some (.bipush 10, 2, 0)) x) x) (am_br 12 (am_lf 9 (some (.invokestatic 114, 3, 1131012)) x) (am_lf 12 (some (.ifCond .eq 13, 3, 0)) x) x) x) x) (am_br 22 (am_br 17 (am_br 16 (am_lf 15 (some (.iload_n 2, 1, 0)) x) (am_lf 16 (some (.iconst 1, 1, 0)) x) x) (am_br 19 (am_lf 17 (some (.bipush 10, 2, 0)) x) (am_lf 19 (some (.invokestatic 114, 3, 1131012)) x) x) x) (am_br 26 (am_br 25 (am_lf 22 (some (.ifCond .ne 5, 3, 0)) x) (am_lf 25 (some (.iconst (-1), 1, 0)) x) x) (am_br 27 (am_lf 26 (some (.ireturn, 1, 0)) x) (am_lf 27 (some (.aload_n 0, 1, 0)) x) x) x) x) x) (am_br 40 (am_br 34 (am_br 32 (am_br 29 (am_lf 28 (some (.iload_n 1, 1, 0)) x) (am_lf 29 (some (.putfield 7, 3, 12010876)) x) x) (am_br 33 (am_lf 32 (some (.aload_n 0, 1, 0)) x) (am_lf 33 (some (.iload_n 2, 1, 0)) x) x) x) (am_br 38 (am_br 37 (am_lf 34 (some (.putfield 13, 3, 12020877)) x) (am_lf 37 (some (.iconst 0, 1, 0)) x) x) (am_br 39 (am_lf 38 (some (.istore_n 3, 1, 0)) x) (am_lf 39 (some (.iload_n 3, 1, 0)) x) x) x) x) (am_br 50 (am_br 46 (am_br 43 (am_lf 40 (some (.sipush 300, 3, 0)) x) (am_lf 43 (some (.if_icmp .ge 16, 3, 0)) x) x) (am_br 47 (am_lf 46 (some (.aload_n 0, 1, 0)) x) (am_lf 47 (some (.getfield 16, 3, 12030878)) x) x) x) (am_br 52 (am_br 51 (am_lf 50 (some (.iload_n 3, 1, 0)) x) (am_lf 51 (some (.iconst 0, 1, 0)) x) x) (am_br 53 (am_lf 52 (some (.iastore, 1, 0)) x) (am_br 56 (am_lf 53 (some (.iinc 3 1, 3, 0)) x) (am_lf 56 (some (.goto (-17), 3, 0)) x) x) x) x) x) x) x) (am_br 87 (am_br 72 (am_br 65 (am_br 61 (am_br 60 (am_lf 59 (some (.aload_n 0, 1, 0)) x) (am_lf 60 (some (.iconst 1, 1, 0)) x) x) (am_br 64 (am_lf 61 (some (.invokevirtual 103, 3, 1140867)) x) (am_lf 64 (some (.aload_n 0, 1, 0)) x) x) x) (am_br 69 (am_br 66 (am_lf 65 (some (.iconst 0, 1, 0)) x) (am_lf 66 (some (.putfield 121, 3, 12050880)) x) x) (am_br 70 (am_lf 69 (some (.aload_n 0, 1, 0)) x) (am_lf 70 (some (.bipush 7, 2, 0)) x) x) x) x) (am_br 78 (am_br 76 (am_br 75 (am_lf 72 (some (.putfield 24, 3, 12060881)) x) (am_lf 75 (some (.iconst 0, 1, 0)) x) x) (am_br 77 (am_lf 76 (some (.istore_n 3, 1, 0)) x) (am_lf 77 (some (.iload_n 3, 1, 0)) x) x) x) (am_br 83 (am_br 80 (am_lf 78 (some (.bipush 60, 2, 0)) x) (am_lf 80 (some (.if_icmp .ge 16, 3, 0)) x) x) (am_br 84 (am_lf 83 (some (.aload_n 0, 1, 0)) x) (am_lf 84 (some (.getfield 33, 3, 12090884)) x) x) x) x) x) (am_br 101 (am_br 93 (am_br 89 (am_br 88 (am_lf 87 (some (.iload_n 3, 1, 0)) x) (am_lf 88 (some (.iconst 0, 1, 0)) x) x) (am_br 90 (am_lf 89 (some (.bastore, 1, 0)) x) (am_lf 90 (some (.iinc 3 1, 3, 0)) x) x) x) (am_br 97 (am_br 96 (am_lf 93 (some (.goto (-16), 3, 0)) x) (am_lf 96 (some (.aload_n 0, 1, 0)) x) x) (am_br 98 (am_lf 97 (some (.iconst 0, 1, 0)) x) (am_lf 98 (some (.putfield 96, 3, 12100885)) x) x) x) x) (am_br 108 (am_br 104 (am_br 102 (am_lf 101 (some (.aload_n 0, 1, 0)) x) (am_lf 102 (some (.bipush (-9), 2, 0)) x) x) (am_br 107 (am_lf 104 (some (.invokevirtual 99, 3, 1160863)) x) (am_lf 107 (some (.istore_n 3, 1, 0)) x) x) x) (am_br 110 (am_br 109 (am_lf 108 (some (.aload_n 0, 1, 0)) x) (am_lf 109 (some (.iload_n 3, 1, 0)) x) x) (am_br 113 (am_lf 110 (some (.invokevirtual 107, 3, 1170871)) x) (am_br 114 (am_lf 113 (some (.iconst 1, 1, 0)) x) (am_lf 114 (some (.ireturn, 1, 0)) x) x) x) x) x) x) x) x
def am_i_Model_at : Nat → Option (ClassFile.Instr × Nat × Nat) := fun x => am_br 31 (am_br 15 (am_br 6 (am_br 2 (am_br 1 (am_lf 0 (some (.aload_n 0, 1, 0)) x) (am_lf 1 (some (.iconst 0, 1, 0)) x) x) (am_br 5 (am_lf 2 (some (.putfield 111, 3, 12000875)) x) (am_lf 5 (some (.aload_n 0, 1, 0)) x) x) x) (am_br 8 (am_br 7 (am_lf 6 (some (.iload_n 1, 1, 0)) x) (am_lf 7 (some (.iload_n 2, 1, 0)) x) x) (am_br 11 (am_lf 8 (some (.invokevirtual 124, 3, 1151019)) x) (am_br 14 (am_lf 11 (some (.ifCond .eq 12, 3, 0)) x) (am_lf 14 (some (.iload_n 3, 1, 0)) x) x) x) x) x) (am_br 24 (am_br 17 (am_br 16 (am_lf 15 (some (.iconst (-1), 1, 0)) x) (am_lf 16 (some (.iconst 2, 1, 0)) x) x) (am_br 20 (am_lf 17 (some (.invokestatic 114, 3, 1131012)) x) (am_br 23 (am_lf 20 (some (.ifCond .ne 5, 3, 0)) x) (am_lf 23 (some (.iconst (-1), 1, 0)) x) x) x) x) (am_br 26 (am_br 25 (am_lf 24 (some (.ireturn, 1, 0)) x) (am_lf 25 (some (.iload_n 3, 1, 0)) x) x) (am_br 27 (am_lf 26 (some (.iconst (-1), 1, 0)) x) (am_br 30 (am_lf 27 (some (.if_icmp .ne 16, 3, 0)) x) (am_lf 30 (some (.aload_n 0, 1, 0)) x) x) x) x) x) x) (am_br 49 (am_br 37 (am_br 34 (am_br 33 (am_lf 31 (some (.bipush 10, 2, 0)) x) (am_lf 33 (some (.iload_n 1, 1, 0)) x) x) (am_br 35 (am_lf 34 (some (.imul, 1, 0)) x) (am_br 36 (am_lf 35 (some (.iload_n 2, 1, 0)) x) (am_lf 36 (some (.iadd, 1, 0)) x) x) x) x) (am_br 43 (am_br 40 (am_lf 37 (some (.invokevirtual 128, 3, 1191023)) x) (am_lf 40 (some (.goto 19, 3, 0)) x) x) (am_br 44 (am_lf 43 (some (.aload_n 0, 1, 0)) x) (am_br 47 (am_lf 44 (some (.getfield 16, 3, 12030878)) x) (am_lf 47 (some (.bipush 100, 2, 0)) x) x) x) x) x) (am_br 55 (am_br 51 (am_br 50 (am_lf 49 (some (.iload_n 3, 1, 0)) x) (am_lf 50 (some (.imul, 1, 0)) x) x) (am_br 53 (am_lf 51 (some (.bipush 10, 2, 0)) x) (am_br 54 (am_lf 53 (some (.iload_n 1, 1, 0)) x) (am_lf 54 (some (.imul, 1, 0)) x) x) x) x) (am_br 57 (am_br 56 (am_lf 55 (some (.iadd, 1, 0)) x) (am_lf 56 (some (.iload_n 2, 1, 0)) x) x) (am_br 58 (am_lf 57 (some (.iadd, 1, 0)) x) (am_br 59 (am_lf 58 (some (.iaload, 1, 0)) x) (am_lf 59 (some (.ireturn, 1, 0)) x) x) x) x) x) x) x
def am_i_Model_isSelected : Nat → Option (ClassFile.Instr × Nat × Nat) := fun x => am_br 19 (am_br 7 (am_br 2 (am_br 1 (am_lf 0 (some (.aload_n 0, 1, 0)) x) (am_lf 1 (some (.iconst 0, 1, 0)) x) x) (am_br 5 (am_lf 2 (some (.putfield 111, 3, 12000875)) x) (am_br 6 (am_lf 5 (some (.aload_n 0, 1, 0)) x) (am_lf 6 (some (.iload_n 1, 1, 0)) x) x) x) x) (am_br 14 (am_br 8 (am_lf 7 (some (.iload_n 2, 1, 0)) x) (am_br 11 (am_lf 8 (some (.invokevirtual 124, 3, 1151019)) x) (am_lf 11 (some (.ifCond .ne 7, 3, 0)) x) x) x) (am_br 15 (am_lf 14 (some (.iconst (-1), 1, 0)) x) (am_br 18 (am_lf 15 (some (.goto 22, 3, 0)) x) (am_lf 18 (some (.aload_n 0, 1, 0)) x) x) x) x) x) (am_br 28 (am_br 25 (am_br 22 (am_lf 19 (some (.getfield 20, 3, 12040879)) x) (am_br 24 (am_lf 22 (some (.bipush 10, 2, 0)) x) (am_lf 24 (some (.iload_n 1, 1, 0)) x) x) x) (am_br 26 (am_lf 25 (some (.imul, 1, 0)) x) (am_br 27 (am_lf 26 (some (.iload_n 2, 1, 0)) x) (am_lf 27 (some (.iadd, 1, 0)) x) x) x) x) (am_br 33 (am_br 29 (am_lf 28 (some (.baload, 1, 0)) x) (am_br 32 (am_lf 29 (some (.ifCond .eq 7, 3, 0)) x) (am_lf 32 (some (.iconst 1, 1, 0)) x) x) x) (am_br 36 (am_lf 33 (some (.goto 4, 3, 0)) x) (am_br 37 (am_lf 36 (some (.iconst 0, 1, 0)) x) (am_lf 37 (some (.ireturn, 1, 0)) x) x) x) x) x) x
def am_i_Model_selected : Nat → Option (ClassFile.Instr × Nat × Nat) := fun x => am_br 16 (am_br 5 (am_br 2 (am_br 1 (am_lf 0 (some (.iconst 0, 1, 0)) x) (am_lf 1 (some (.istore_n 1, 1, 0)) x) x) (am_br 3 (am_lf 2 (some (.iconst 0, 1, 0)) x) (am_br 4 (am_lf 3 (some (.istore_n 2, 1, 0)) x) (am_lf 4 (some (.iload_n 2, 1, 0)) x) x) x) x) (am_br 11 (am_br 7 (am_lf 5 (some (.bipush 100, 2, 0)) x) (am_br 10 (am_lf 7 (some (.if_icmp .ge 26, 3, 0)) x) (am_lf 10 (some (.iload_n 1, 1, 0)) x) x) x) (am_br 12 (am_lf 11 (some (.aload_n 0, 1, 0)) x) (am_br 15 (am_lf 12 (some (.getfield 20, 3, 12040879)) x) (am_lf 15 (some (.iload_n 2, 1, 0)) x) x) x) x) x) (am_br 25 (am_br 20 (am_br 17 (am_lf 16 (some (.baload, 1, 0)) x) (am_lf 17 (some (.ifCond .eq 7, 3, 0)) x) x) (am_br 21 (am_lf 20 (some (.iconst 1, 1, 0)) x) (am_br 24 (am_lf 21 (some (.goto 4, 3, 0)) x) (am_lf 24 (some (.iconst 0, 1, 0)) x) x) x) x) (am_br 30 (am_br 26 (am_lf 25 (some (.iadd, 1, 0)) x) (am_br 27 (am_lf 26 (some (.istore_n 1, 1, 0)) x) (am_lf 27 (some (.iinc 2 1, 3, 0)) x) x) x) (am_br 33 (am_lf 30 (some (.goto (-26), 3, 0)) x) (am_br 34 (am_lf 33 (some (.iload_n 1, 1, 0)) x) (am_lf 34 (some (.ireturn, 1, 0)) x) x) x) x) x) x
def am_i_Model_about : Nat → Option (ClassFile.Instr × Nat × Nat) := fun x => am_br 89 (am_br 20 (am_br 8 (am_br 5 (am_br 1 (am_lf 0 (some (.aload_n 0, 1, 0)) x) (am_br 2 (am_lf 1 (some (.iconst 0, 1, 0)) x) (am_lf 2 (some (.putfield 111, 3, 12000875)) x) x) x) (am_br 6 (am_lf 5 (some (.iconst 0, 1, 0)) x) (am_br 7 (am_lf 6 (some (.istore_n 2, 1, 0)) x) (am_lf 7 (some (.iconst 0, 1, 0)) x) x) x) x) (am_br 12 (am_br 9 (am_lf 8 (some (.istore_n 3, 1, 0)) x) (am_br 10 (am_lf 9 (some (.iload_n 3, 1, 0)) x) (am_lf 10 (some (.bipush 60, 2, 0)) x) x) x) (am_br 16 (am_br 15 (am_lf 12 (some (.if_icmp .ge 26, 3, 0)) x) (am_lf 15 (some (.iload_n 2, 1, 0)) x) x) (am_br 17 (am_lf 16 (some (.aload_n 0, 1, 0)) x) (am_lf 17 (some (.getfield 33, 3, 12090884)) x) x) x) x) x) (am_br 30 (am_br 25 (am_br 21 (am_lf 20 (some (.iload_n 3, 1, 0)) x) (am_br 22 (am_lf 21 (some (.baload, 1, 0)) x) (am_lf 22 (some (.ifCond .eq 7, 3, 0)) x) x) x) (am_br 26 (am_lf 25 (some (.iconst 1, 1, 0)) x) (am_br 29 (am_lf 26 (some (.goto 4, 3, 0)) x) (am_lf 29 (some (.iconst 0, 1, 0)) x) x) x) x) (am_br 35 (am_br 31 (am_lf 30 (some (.iadd, 1, 0)) x) (am_br 32 (am_lf 31 (some (.istore_n 2, 1, 0)) x) (am_lf 32 (some (.iinc 3 1, 3, 0)) x) x) x) (am_br 39 (am_br 38 (am_lf 35 (some (.goto (-26), 3, 0)) x) (am_lf 38 (some (.iload_n 1, 1, 0)) x) x) (am_br 88 (am_lf 39 (some (.tableswitch 91 0 8 #[49, 54, 59, 64, 69, 74, 79, 84, 86], 49, 0)) x) (am_lf 88 (some (.aload_n 0, 1, 0)) x) x) x) x) x) x) (am_br 112 (am_br 99 (am_br 94 (am_br 92 (am_lf 89 (some (.getfield 7, 3, 12010876)) x) (am_br 93 (am_lf 92 (some (.ireturn, 1, 0)) x) (am_lf 93 (some (.aload_n 0, 1, 0)) x) x) x) (am_br 97 (am_lf 94 (some (.getfield 13, 3, 12020877)) x) (am_br 98 (am_lf 97 (some (.ireturn, 1, 0)) x) (am_lf 98 (some (.aload_n 0, 1, 0)) x) x) x) x) (am_br 104 (am_br 102 (am_lf 99 (some (.getfield 121, 3, 12050880)) x) (am_br 103 (am_lf 102 (some (.ireturn, 1, 0)) x) (am_lf 103 (some (.aload_n 0, 1, 0)) x) x) x) (am_br 108 (am_br 107 (am_lf 104 (some (.getfield 24, 3, 12060881)) x) (am_lf 107 (some (.ireturn, 1, 0)) x) x) (am_br 109 (am_lf 108 (some (.aload_n 0, 1, 0)) x) (am_lf 109 (some (.invokevirtual 131, 3, 1231035)) x) x) x) x) x) (am_br 123 (am_br 117 (am_br 113 (am_lf 112 (some (.ireturn, 1, 0)) x) (am_br 114 (am_lf 113 (some (.aload_n 0, 1, 0)) x) (am_lf 114 (some (.getfield 135, 3, 12120887)) x) x) x) (am_br 119 (am_br 118 (am_lf 117 (some (.ireturn, 1, 0)) x) (am_lf 118 (some (.aload_n 0, 1, 0)) x) x) (am_br 122 (am_lf 119 (some (.getfield 138, 3, 12160891)) x) (am_lf 122 (some (.ireturn, 1, 0)) x) x) x) x) (am_br 126 (am_br 124 (am_lf 123 (some (.iload_n 2, 1, 0)) x) (am_br 125 (am_lf 124 (some (.ireturn, 1, 0)) x) (am_lf 125 (some (.aload_n 0, 1, 0)) x) x) x) (am_br 130 (am_br 129 (am_lf 126 (some (.getfield 96, 3, 12100885)) x) (am_lf 129 (some (.ireturn, 1, 0)) x) x) (am_br 131 (am_lf 130 (some (.iconst (-1), 1, 0)) x) (am_lf 131 (some (.ireturn, 1, 0)) x) x) x) x) x) x) x
def am_i_Model_used : Nat → Option (ClassFile.Instr × Nat × Nat) := fun x => am_br 35 (am_br 18 (am_br 7 (am_br 2 (am_br 1 (am_lf 0 (some (.aload_n 0, 1, 0)) x) (am_lf 1 (some (.iconst 0, 1, 0)) x) x) (am_br 5 (am_lf 2 (some (.putfield 111, 3, 12000875)) x) (am_br 6 (am_lf 5 (some (.iload_n 1, 1, 0)) x) (am_lf 6 (some (.iconst 0, 1, 0)) x) x) x) x) (am_br 15 (am_br 9 (am_lf 7 (some (.bipush 9, 2, 0)) x) (am_br 12 (am_lf 9 (some (.invokestatic 114, 3, 1131012)) x) (am_lf 12 (some (.ifCond .ne 5, 3, 0)) x) x) x) (am_br 16 (am_lf 15 (some (.iconst (-1), 1, 0)) x) (am_br 17 (am_lf 16 (some (.ireturn, 1, 0)) x) (am_lf 17 (some (.iconst 0, 1, 0)) x) x) x) x) x) (am_br 23 (am_br 20 (am_br 19 (am_lf 18 (some (.istore_n 2, 1, 0)) x) (am_lf 19 (some (.iconst 0, 1, 0)) x) x) (am_br 21 (am_lf 20 (some (.istore_n 3, 1, 0)) x) (am_br 22 (am_lf 21 (some (.iload_n 3, 1, 0)) x) (am_lf 22 (some (.aload_n 0, 1, 0)) x) x) x) x) (am_br 30 (am_br 26 (am_lf 23 (some (.getfield 7, 3, 12010876)) x) (am_br 29 (am_lf 26 (some (.if_icmp .ge 50, 3, 0)) x) (am_lf 29 (some (.iconst 0, 1, 0)) x) x) x) (am_br 32 (am_lf 30 (some (.istore 4, 2, 0)) x) (am_br 34 (am_lf 32 (some (.iload 4, 2, 0)) x) (am_lf 34 (some (.aload_n 0, 1, 0)) x) x) x) x) x) x) (am_br 54 (am_br 45 (am_br 41 (am_br 38 (am_lf 35 (some (.getfield 13, 3, 12020877)) x) (am_lf 38 (some (.if_icmp .ge 32, 3, 0)) x) x) (am_br 42 (am_lf 41 (some (.iload_n 2, 1, 0)) x) (am_br 43 (am_lf 42 (some (.aload_n 0, 1, 0)) x) (am_lf 43 (some (.bipush 10, 2, 0)) x) x) x) x) (am_br 49 (am_br 46 (am_lf 45 (some (.iload_n 3, 1, 0)) x) (am_br 47 (am_lf 46 (some (.imul, 1, 0)) x) (am_lf 47 (some (.iload 4, 2, 0)) x) x) x) (am_br 50 (am_lf 49 (some (.iadd, 1, 0)) x) (am_br 53 (am_lf 50 (some (.invokevirtual 128, 3, 1191023)) x) (am_lf 53 (some (.iload_n 1, 1, 0)) x) x) x) x) x) (am_br 64 (am_br 61 (am_br 57 (am_lf 54 (some (.if_icmp .ne 7, 3, 0)) x) (am_br 58 (am_lf 57 (some (.iconst 1, 1, 0)) x) (am_lf 58 (some (.goto 4, 3, 0)) x) x) x) (am_br 62 (am_lf 61 (some (.iconst 0, 1, 0)) x) (am_br 63 (am_lf 62 (some (.iadd, 1, 0)) x) (am_lf 63 (some (.istore_n 2, 1, 0)) x) x) x) x) (am_br 73 (am_br 67 (am_lf 64 (some (.iinc 4 1, 3, 0)) x) (am_br 70 (am_lf 67 (some (.goto (-35), 3, 0)) x) (am_lf 70 (some (.iinc 3 1, 3, 0)) x) x) x) (am_br 76 (am_lf 73 (some (.goto (-52), 3, 0)) x) (am_br 77 (am_lf 76 (some (.iload_n 2, 1, 0)) x) (am_lf 77 (some (.ireturn, 1, 0)) x) x) x) x) x) x) x
def am_i_Model_floats : Nat → Option (ClassFile.Instr × Nat × Nat) := fun x => am_br 79 (am_br 38 (am_br 19 (am_br 9 (am_br 2 (am_br 1 (am_lf 0 (some (.aload_n 0, 1, 0)) x) (am_lf 1 (some (.iconst 0, 1, 0)) x) x) (am_br 5 (am_lf 2 (some (.putfield 111, 3, 12000875)) x) (am_br 6 (am_lf 5 (some (.iload_n 1, 1, 0)) x) (am_lf 6 (some (.ifCond .lt 12, 3, 0)) x) x) x) x) (am_br 12 (am_br 10 (am_lf 9 (some (.iload_n 3, 1, 0)) x) (am_br 11 (am_lf 10 (some (.iconst 0, 1, 0)) x) (am_lf 11 (some (.iconst 3, 1, 0)) x) x) x) (am_br 15 (am_lf 12 (some (.invokestatic 114, 3, 1131012)) x) (am_br 18 (am_lf 15 (some (.ifCond .ne 5, 3, 0)) x) (am_lf 18 (some (.iconst (-1), 1, 0)) x) x) x) x) x) (am_br 26 (am_br 21 (am_br 20 (am_lf 19 (some (.ireturn, 1, 0)) x) (am_lf 20 (some (.iconst 0, 1, 0)) x) x) (am_br 23 (am_lf 21 (some (.istore 4, 2, 0)) x) (am_br 24 (am_lf 23 (some (.iconst 0, 1, 0)) x) (am_lf 24 (some (.istore 5, 2, 0)) x) x) x) x) (am_br 32 (am_br 28 (am_lf 26 (some (.iload 5, 2, 0)) x) (am_br 29 (am_lf 28 (some (.aload_n 0, 1, 0)) x) (am_lf 29 (some (.getfield 7, 3, 12010876)) x) x) x) (am_br 35 (am_lf 32 (some (.if_icmp .ge 138, 3, 0)) x) (am_br 36 (am_lf 35 (some (.iconst 0, 1, 0)) x) (am_lf 36 (some (.istore 6, 2, 0)) x) x) x) x) x) x) (am_br 59 (am_br 48 (am_br 41 (am_br 40 (am_lf 38 (some (.iload 6, 2, 0)) x) (am_lf 40 (some (.aload_n 0, 1, 0)) x) x) (am_br 44 (am_lf 41 (some (.getfield 13, 3, 12020877)) x) (am_br 47 (am_lf 44 (some (.if_icmp .ge 120, 3, 0)) x) (am_lf 47 (some (.aload_n 0, 1, 0)) x) x) x) x) (am_br 53 (am_br 50 (am_lf 48 (some (.bipush 10, 2, 0)) x) (am_br 52 (am_lf 50 (some (.iload 5, 2, 0)) x) (am_lf 52 (some (.imul, 1, 0)) x) x) x) (am_br 55 (am_lf 53 (some (.iload 6, 2, 0)) x) (am_br 56 (am_lf 55 (some (.iadd, 1, 0)) x) (am_lf 56 (some (.invokevirtual 128, 3, 1191023)) x) x) x) x) x) (am_br 67 (am_br 63 (am_br 61 (am_lf 59 (some (.istore 7, 2, 0)) x) (am_lf 61 (some (.iload 6, 2, 0)) x) x) (am_br 64 (am_lf 63 (some (.iconst 1, 1, 0)) x) (am_br 65 (am_lf 64 (some (.iadd, 1, 0)) x) (am_lf 65 (some (.istore 8, 2, 0)) x) x) x) x) (am_br 73 (am_br 69 (am_lf 67 (some (.iload 8, 2, 0)) x) (am_br 70 (am_lf 69 (some (.aload_n 0, 1, 0)) x) (am_lf 70 (some (.getfield 13, 3, 12020877)) x) x) x) (am_br 76 (am_lf 73 (some (.if_icmp .ge 26, 3, 0)) x) (am_br 77 (am_lf 76 (some (.aload_n 0, 1, 0)) x) (am_lf 77 (some (.bipush 10, 2, 0)) x) x) x) x) x) x) x) (am_br 125 (am_br 104 (am_br 88 (am_br 82 (am_br 81 (am_lf 79 (some (.iload 5, 2, 0)) x) (am_lf 81 (some (.imul, 1, 0)) x) x) (am_br 84 (am_lf 82 (some (.iload 8, 2, 0)) x) (am_br 85 (am_lf 84 (some (.iadd, 1, 0)) x) (am_lf 85 (some (.invokevirtual 128, 3, 1191023)) x) x) x) x) (am_br 96 (am_br 90 (am_lf 88 (some (.iload 7, 2, 0)) x) (am_br 93 (am_lf 90 (some (.if_icmp .ne 9, 3, 0)) x) (am_lf 93 (some (.iinc 8 1, 3, 0)) x) x) x) (am_br 99 (am_lf 96 (some (.goto (-29), 3, 0)) x) (am_br 101 (am_lf 99 (some (.iload 7, 2, 0)) x) (am_lf 101 (some (.ifCond .eq 56, 3, 0)) x) x) x) x) x) (am_br 113 (am_br 108 (am_br 106 (am_lf 104 (some (.iload 8, 2, 0)) x) (am_lf 106 (some (.iload 6, 2, 0)) x) x) (am_br 109 (am_lf 108 (some (.isub, 1, 0)) x) (am_br 110 (am_lf 109 (some (.iload_n 1, 1, 0)) x) (am_lf 110 (some (.if_icmp .le 47, 3, 0)) x) x) x) x) (am_br 119 (am_br 115 (am_lf 113 (some (.iload 4, 2, 0)) x) (am_br 116 (am_lf 115 (some (.iload_n 2, 1, 0)) x) (am_lf 116 (some (.if_icmp .ne 38, 3, 0)) x) x) x) (am_br 120 (am_lf 119 (some (.iload_n 3, 1, 0)) x) (am_br 123 (am_lf 120 (some (.ifCond .ne 8, 3, 0)) x) (am_lf 123 (some (.iload 5, 2, 0)) x) x) x) x) x) x) (am_br 147 (am_br 135 (am_br 129 (am_br 128 (am_lf 125 (some (.goto 28, 3, 0)) x) (am_lf 128 (some (.iload_n 3, 1, 0)) x) x) (am_br 130 (am_lf 129 (some (.iconst 1, 1, 0)) x) (am_br 133 (am_lf 130 (some (.if_icmp .ne 8, 3, 0)) x) (am_lf 133 (some (.iload 6, 2, 0)) x) x) x) x) (am_br 140 (am_br 138 (am_lf 135 (some (.goto 18, 3, 0)) x) (am_br 139 (am_lf 138 (some (.iload_n 3, 1, 0)) x) (am_lf 139 (some (.iconst 2, 1, 0)) x) x) x) (am_br 143 (am_lf 140 (some (.if_icmp .ne 11, 3, 0)) x) (am_br 145 (am_lf 143 (some (.iload 8, 2, 0)) x) (am_lf 145 (some (.iload 6, 2, 0)) x) x) x) x) x) (am_br 159 (am_br 153 (am_br 148 (am_lf 147 (some (.isub, 1, 0)) x) (am_br 151 (am_lf 148 (some (.goto 5, 3, 0)) x) (am_lf 151 (some (.iload 7, 2, 0)) x) x) x) (am_br 154 (am_lf 153 (some (.ireturn, 1, 0)) x) (am_br 157 (am_lf 154 (some (.iinc 4 1, 3, 0)) x) (am_lf 157 (some (.iload 8, 2, 0)) x) x) x) x) (am_br 167 (am_br 161 (am_lf 159 (some (.istore 6, 2, 0)) x) (am_br 164 (am_lf 161 (some (.goto (-123), 3, 0)) x) (am_lf 164 (some (.iinc 5 1, 3, 0)) x) x) x) (am_br 170 (am_lf 167 (some (.goto (-141), 3, 0)) x) (am_br 172 (am_lf 170 (some (.bipush (-9), 2, 0)) x) (am_lf 172 (some (.ireturn, 1, 0)) x) x) x) x) x) x) x) x
def am_i_Model_ready : Nat → Option (ClassFile.Instr × Nat × Nat) := fun x => am_br 226 (am_br 108 (am_br 52 (am_br 23 (am_br 12 (am_br 6 (am_br 4 (am_br 1 (am_lf 0 (some (.aload_n 0, 1, 0)) x) (am_lf 1 (some (.getfield 69, 3, 12300905)) x) x) (am_br 5 (am_lf 4 (some (.iconst 0, 1, 0)) x) (am_lf 5 (some (.iaload, 1, 0)) x) x) x) (am_br 8 (am_br 7 (am_lf 6 (some (.istore_n 2, 1, 0)) x) (am_lf 7 (some (.aload_n 0, 1, 0)) x) x) (am_br 11 (am_lf 8 (some (.getfield 69, 3, 12300905)) x) (am_lf 11 (some (.iconst 1, 1, 0)) x) x) x) x) (am_br 18 (am_br 14 (am_br 13 (am_lf 12 (some (.iaload, 1, 0)) x) (am_lf 13 (some (.istore_n 3, 1, 0)) x) x) (am_br 15 (am_lf 14 (some (.aload_n 0, 1, 0)) x) (am_lf 15 (some (.getfield 69, 3, 12300905)) x) x) x) (am_br 20 (am_br 19 (am_lf 18 (some (.iconst 2, 1, 0)) x) (am_lf 19 (some (.iaload, 1, 0)) x) x) (am_br 22 (am_lf 20 (some (.istore 4, 2, 0)) x) (am_lf 22 (some (.aload_n 0, 1, 0)) x) x) x) x) x) (am_br 36 (am_br 30 (am_br 27 (am_br 26 (am_lf 23 (some (.getfield 69, 3, 12300905)) x) (am_lf 26 (some (.iconst 3, 1, 0)) x) x) (am_br 28 (am_lf 27 (some (.iaload, 1, 0)) x) (am_lf 28 (some (.istore 5, 2, 0)) x) x) x) (am_br 34 (am_br 31 (am_lf 30 (some (.aload_n 0, 1, 0)) x) (am_lf 31 (some (.getfield 69, 3, 12300905)) x) x) (am_br 35 (am_lf 34 (some (.iconst 4, 1, 0)) x) (am_lf 35 (some (.iaload, 1, 0)) x) x) x) x) (am_br 44 (am_br 39 (am_br 38 (am_lf 36 (some (.istore 6, 2, 0)) x) (am_lf 38 (some (.iload_n 1, 1, 0)) x) x) (am_br 41 (am_lf 39 (some (.bipush 8, 2, 0)) x) (am_lf 41 (some (.if_icmp .le 156, 3, 0)) x) x) x) (am_br 46 (am_br 45 (am_lf 44 (some (.aload_n 0, 1, 0)) x) (am_lf 45 (some (.dup, 1, 0)) x) x) (am_br 49 (am_lf 46 (some (.getfield 141, 3, 12290904)) x) (am_lf 49 (some (.ldc2_w 145, 3, 1001063)) x) x) x) x) x) x) (am_br 83 (am_br 65 (am_br 59 (am_br 56 (am_br 53 (am_lf 52 (some (.ladd, 1, 0)) x) (am_lf 53 (some (.putfield 141, 3, 12290904)) x) x) (am_br 57 (am_lf 56 (some (.iload_n 1, 1, 0)) x) (am_lf 57 (some (.bipush 9, 2, 0)) x) x) x) (am_br 63 (am_br 62 (am_lf 59 (some (.if_icmp .ne 56, 3, 0)) x) (am_lf 62 (some (.aload_n 0, 1, 0)) x) x) (am_br 64 (am_lf 63 (some (.iload_n 2, 1, 0)) x) (am_lf 64 (some (.iload_n 3, 1, 0)) x) x) x) x) (am_br 74 (am_br 71 (am_br 68 (am_lf 65 (some (.invokevirtual 124, 3, 1151019)) x) (am_lf 68 (some (.ifCond .eq 45, 3, 0)) x) x) (am_br 73 (am_lf 71 (some (.iload 4, 2, 0)) x) (am_lf 73 (some (.iconst 1, 1, 0)) x) x) x) (am_br 79 (am_br 77 (am_lf 74 (some (.if_icmp .lt 39, 3, 0)) x) (am_lf 77 (some (.iload 5, 2, 0)) x) x) (am_br 80 (am_lf 79 (some (.iconst 1, 1, 0)) x) (am_lf 80 (some (.if_icmp .lt 33, 3, 0)) x) x) x) x) x) (am_br 94 (am_br 88 (am_br 85 (am_br 84 (am_lf 83 (some (.iload_n 2, 1, 0)) x) (am_lf 84 (some (.i2l, 1, 0)) x) x) (am_br 87 (am_lf 85 (some (.iload 4, 2, 0)) x) (am_lf 87 (some (.i2l, 1, 0)) x) x) x) (am_br 90 (am_br 89 (am_lf 88 (some (.ladd, 1, 0)) x) (am_lf 89 (some (.aload_n 0, 1, 0)) x) x) (am_br 93 (am_lf 90 (some (.getfield 7, 3, 12010876)) x) (am_lf 93 (some (.i2l, 1, 0)) x) x) x) x) (am_br 100 (am_br 98 (am_br 95 (am_lf 94 (some (.lcmp, 1, 0)) x) (am_lf 95 (some (.ifCond .gt 18, 3, 0)) x) x) (am_br 99 (am_lf 98 (some (.iload_n 3, 1, 0)) x) (am_lf 99 (some (.i2l, 1, 0)) x) x) x) (am_br 103 (am_br 102 (am_lf 100 (some (.iload 5, 2, 0)) x) (am_lf 102 (some (.i2l, 1, 0)) x) x) (am_br 104 (am_lf 103 (some (.ladd, 1, 0)) x) (am_br 105 (am_lf 104 (some (.aload_n 0, 1, 0)) x) (am_lf 105 (some (.getfield 13, 3, 12020877)) x) x) x) x) x) x) x) x) (am_br 163 (am_br 134 (am_br 121 (am_br 114 (am_br 110 (am_br 109 (am_lf 108 (some (.i2l, 1, 0)) x) (am_lf 109 (some (.lcmp, 1, 0)) x) x) (am_br 113 (am_lf 110 (some (.ifCond .le 5, 3, 0)) x) (am_lf 113 (some (.iconst 1, 1, 0)) x) x) x) (am_br 116 (am_br 115 (am_lf 114 (some (.ireturn, 1, 0)) x) (am_lf 115 (some (.iload_n 1, 1, 0)) x) x) (am_br 118 (am_lf 116 (some (.bipush 10, 2, 0)) x) (am_lf 118 (some (.if_icmp .ne 15, 3, 0)) x) x) x) x) (am_br 128 (am_br 123 (am_br 122 (am_lf 121 (some (.iload_n 2, 1, 0)) x) (am_lf 122 (some (.iconst 0, 1, 0)) x) x) (am_br 125 (am_lf 123 (some (.bipush 9, 2, 0)) x) (am_lf 125 (some (.invokestatic 114, 3, 1131012)) x) x) x) (am_br 132 (am_br 131 (am_lf 128 (some (.ifCond .ne 5, 3, 0)) x) (am_lf 131 (some (.iconst 2, 1, 0)) x) x) (am_br 133 (am_lf 132 (some (.ireturn, 1, 0)) x) (am_lf 133 (some (.iload_n 1, 1, 0)) x) x) x) x) x) (am_br 149 (am_br 141 (am_br 139 (am_br 136 (am_lf 134 (some (.bipush 10, 2, 0)) x) (am_lf 136 (some (.if_icmp .le 14, 3, 0)) x) x) (am_br 140 (am_lf 139 (some (.iload_n 2, 1, 0)) x) (am_lf 140 (some (.iconst 0, 1, 0)) x) x) x) (am_br 145 (am_br 142 (am_lf 141 (some (.iconst 2, 1, 0)) x) (am_lf 142 (some (.invokestatic 114, 3, 1131012)) x) x) (am_br 148 (am_lf 145 (some (.ifCond .ne 5, 3, 0)) x) (am_lf 148 (some (.iconst 1, 1, 0)) x) x) x) x) (am_br 155 (am_br 151 (am_br 150 (am_lf 149 (some (.ireturn, 1, 0)) x) (am_lf 150 (some (.aload_n 0, 1, 0)) x) x) (am_br 152 (am_lf 151 (some (.dup, 1, 0)) x) (am_lf 152 (some (.getfield 141, 3, 12290904)) x) x) x) (am_br 157 (am_br 156 (am_lf 155 (some (.lconst 1, 1, 0)) x) (am_lf 156 (some (.ladd, 1, 0)) x) x) (am_br 160 (am_lf 157 (some (.putfield 141, 3, 12290904)) x) (am_br 161 (am_lf 160 (some (.iload_n 1, 1, 0)) x) (am_lf 161 (some (.bipush 9, 2, 0)) x) x) x) x) x) x) x) (am_br 195 (am_br 179 (am_br 170 (am_br 168 (am_br 166 (am_lf 163 (some (.if_icmp .ne 13, 3, 0)) x) (am_lf 166 (some (.iload 6, 2, 0)) x) x) (am_br 169 (am_lf 168 (some (.iconst 0, 1, 0)) x) (am_lf 169 (some (.iconst 3, 1, 0)) x) x) x) (am_br 176 (am_br 173 (am_lf 170 (some (.invokestatic 114, 3, 1131012)) x) (am_lf 173 (some (.ifCond .eq 18, 3, 0)) x) x) (am_br 177 (am_lf 176 (some (.iload_n 1, 1, 0)) x) (am_lf 177 (some (.bipush 12, 2, 0)) x) x) x) x) (am_br 185 (am_br 183 (am_br 182 (am_lf 179 (some (.if_icmp .ne 16, 3, 0)) x) (am_lf 182 (some (.iload_n 3, 1, 0)) x) x) (am_br 184 (am_lf 183 (some (.iconst 0, 1, 0)) x) (am_lf 184 (some (.iconst 1, 1, 0)) x) x) x) (am_br 191 (am_br 188 (am_lf 185 (some (.invokestatic 114, 3, 1131012)) x) (am_lf 188 (some (.ifCond .ne 7, 3, 0)) x) x) (am_br 192 (am_lf 191 (some (.iconst 4, 1, 0)) x) (am_lf 192 (some (.goto 4, 3, 0)) x) x) x) x) x) (am_br 207 (am_br 199 (am_br 197 (am_br 196 (am_lf 195 (some (.iconst 0, 1, 0)) x) (am_lf 196 (some (.ireturn, 1, 0)) x) x) (am_br 198 (am_lf 197 (some (.iload_n 1, 1, 0)) x) (am_lf 198 (some (.iconst 2, 1, 0)) x) x) x) (am_br 203 (am_br 202 (am_lf 199 (some (.if_icmp .ne 28, 3, 0)) x) (am_lf 202 (some (.aload_n 0, 1, 0)) x) x) (am_br 204 (am_lf 203 (some (.dup, 1, 0)) x) (am_lf 204 (some (.getfield 141, 3, 12290904)) x) x) x) x) (am_br 215 (am_br 211 (am_br 210 (am_lf 207 (some (.ldc2_w 147, 3, 1000001064)) x) (am_lf 210 (some (.ladd, 1, 0)) x) x) (am_br 214 (am_lf 211 (some (.putfield 141, 3, 12290904)) x) (am_lf 214 (some (.aload_n 0, 1, 0)) x) x) x) (am_br 219 (am_br 217 (am_lf 215 (some (.iload 4, 2, 0)) x) (am_lf 217 (some (.iload 5, 2, 0)) x) x) (am_br 222 (am_lf 219 (some (.invokevirtual 124, 3, 1151019)) x) (am_br 225 (am_lf 222 (some (.ifCond .ne 5, 3, 0)) x) (am_lf 225 (some (.iconst 1, 1, 0)) x) x) x) x) x) x) x) x) x) (am_br 350 (am_br 285 (am_br 254 (am_br 240 (am_br 232 (am_br 228 (am_br 227 (am_lf 226 (some (.ireturn, 1, 0)) x) (am_lf 227 (some (.iload_n 1, 1, 0)) x) x) (am_br 229 (am_lf 228 (some (.iconst 4, 1, 0)) x) (am_lf 229 (some (.if_icmp .ge 26, 3, 0)) x) x) x) (am_br 234 (am_br 233 (am_lf 232 (some (.aload_n 0, 1, 0)) x) (am_lf 233 (some (.dup, 1, 0)) x) x) (am_br 237 (am_lf 234 (some (.getfield 141, 3, 12290904)) x) (am_lf 237 (some (.ldc2_w 149, 3, 10001065)) x) x) x) x) (am_br 246 (am_br 244 (am_br 241 (am_lf 240 (some (.ladd, 1, 0)) x) (am_lf 241 (some (.putfield 141, 3, 12290904)) x) x) (am_br 245 (am_lf 244 (some (.aload_n 0, 1, 0)) x) (am_lf 245 (some (.iload_n 2, 1, 0)) x) x) x) (am_br 250 (am_br 247 (am_lf 246 (some (.iload_n 3, 1, 0)) x) (am_lf 247 (some (.invokevirtual 124, 3, 1151019)) x) x) (am_br 253 (am_lf 250 (some (.ifCond .ne 26, 3, 0)) x) (am_lf 253 (some (.iconst 1, 1, 0)) x) x) x) x) x) (am_br 268 (am_br 260 (am_br 256 (am_br 255 (am_lf 254 (some (.ireturn, 1, 0)) x) (am_lf 255 (some (.aload_n 0, 1, 0)) x) x) (am_br 257 (am_lf 256 (some (.dup, 1, 0)) x) (am_lf 257 (some (.getfield 141, 3, 12290904)) x) x) x) (am_br 264 (am_br 263 (am_lf 260 (some (.ldc2_w 151, 3, 100001066)) x) (am_lf 263 (some (.ladd, 1, 0)) x) x) (am_br 267 (am_lf 264 (some (.putfield 141, 3, 12290904)) x) (am_lf 267 (some (.aload_n 0, 1, 0)) x) x) x) x) (am_br 276 (am_br 274 (am_br 271 (am_lf 268 (some (.invokevirtual 131, 3, 1231035)) x) (am_lf 271 (some (.ifCond .ne 5, 3, 0)) x) x) (am_br 275 (am_lf 274 (some (.iconst 3, 1, 0)) x) (am_lf 275 (some (.ireturn, 1, 0)) x) x) x) (am_br 278 (am_br 277 (am_lf 276 (some (.aload_n 0, 1, 0)) x) (am_lf 277 (some (.dup, 1, 0)) x) x) (am_br 281 (am_lf 278 (some (.getfield 141, 3, 12290904)) x) (am_br 284 (am_lf 281 (some (.ldc2_w 153, 3, 101067)) x) (am_lf 284 (some (.ladd, 1, 0)) x) x) x) x) x) x) x) (am_br 316 (am_br 300 (am_br 293 (am_br 289 (am_br 288 (am_lf 285 (some (.putfield 141, 3, 12290904)) x) (am_lf 288 (some (.iload_n 1, 1, 0)) x) x) (am_br 290 (am_lf 289 (some (.iconst 4, 1, 0)) x) (am_lf 290 (some (.if_icmp .lt 9, 3, 0)) x) x) x) (am_br 296 (am_br 294 (am_lf 293 (some (.iload_n 1, 1, 0)) x) (am_lf 294 (some (.bipush 6, 2, 0)) x) x) (am_br 299 (am_lf 296 (some (.if_icmp .ne 7, 3, 0)) x) (am_lf 299 (some (.iconst 1, 1, 0)) x) x) x) x) (am_br 308 (am_br 304 (am_br 303 (am_lf 300 (some (.goto 4, 3, 0)) x) (am_lf 303 (some (.iconst 0, 1, 0)) x) x) (am_br 306 (am_lf 304 (some (.istore 7, 2, 0)) x) (am_lf 306 (some (.iload 7, 2, 0)) x) x) x) (am_br 313 (am_br 311 (am_lf 308 (some (.ifCond .eq 14, 3, 0)) x) (am_lf 311 (some (.iload 6, 2, 0)) x) x) (am_br 314 (am_lf 313 (some (.iconst 0, 1, 0)) x) (am_lf 314 (some (.bipush 9, 2, 0)) x) x) x) x) x) (am_br 332 (am_br 325 (am_br 322 (am_br 319 (am_lf 316 (some (.invokestatic 114, 3, 1131012)) x) (am_lf 319 (some (.ifCond .eq 29, 3, 0)) x) x) (am_br 323 (am_lf 322 (some (.iload_n 1, 1, 0)) x) (am_lf 323 (some (.bipush 7, 2, 0)) x) x) x) (am_br 329 (am_br 328 (am_lf 325 (some (.if_icmp .ne 25, 3, 0)) x) (am_lf 328 (some (.iload_n 2, 1, 0)) x) x) (am_br 330 (am_lf 329 (some (.iconst 0, 1, 0)) x) (am_lf 330 (some (.bipush 9, 2, 0)) x) x) x) x) (am_br 340 (am_br 338 (am_br 335 (am_lf 332 (some (.invokestatic 114, 3, 1131012)) x) (am_lf 335 (some (.ifCond .eq 13, 3, 0)) x) x) (am_br 339 (am_lf 338 (some (.iload_n 3, 1, 0)) x) (am_lf 339 (some (.iconst 0, 1, 0)) x) x) x) (am_br 345 (am_br 342 (am_lf 340 (some (.bipush 9, 2, 0)) x) (am_lf 342 (some (.invokestatic 114, 3, 1131012)) x) x) (am_br 348 (am_lf 345 (some (.ifCond .ne 5, 3, 0)) x) (am_br 349 (am_lf 348 (some (.iconst 2, 1, 0)) x) (am_lf 349 (some (.ireturn, 1, 0)) x) x) x) x) x) x) x) x) (am_br 412 (am_br 380 (am_br 362 (am_br 356 (am_br 352 (am_br 351 (am_lf 350 (some (.aload_n 0, 1, 0)) x) (am_lf 351 (some (.dup, 1, 0)) x) x) (am_br 355 (am_lf 352 (some (.getfield 141, 3, 12290904)) x) (am_lf 355 (some (.lconst 1, 1, 0)) x) x) x) (am_br 360 (am_br 357 (am_lf 356 (some (.ladd, 1, 0)) x) (am_lf 357 (some (.putfield 141, 3, 12290904)) x) x) (am_br 361 (am_lf 360 (some (.iload_n 1, 1, 0)) x) (am_lf 361 (some (.iconst 3, 1, 0)) x) x) x) x) (am_br 371 (am_br 367 (am_br 365 (am_lf 362 (some (.if_icmp .ne 26, 3, 0)) x) (am_lf 365 (some (.iload 4, 2, 0)) x) x) (am_br 368 (am_lf 367 (some (.iconst 0, 1, 0)) x) (am_lf 368 (some (.sipush 511, 3, 0)) x) x) x) (am_br 377 (am_br 374 (am_lf 371 (some (.invokestatic 114, 3, 1131012)) x) (am_lf 374 (some (.ifCond .eq 86, 3, 0)) x) x) (am_br 379 (am_lf 377 (some (.iload 5, 2, 0)) x) (am_lf 379 (some (.iconst 0, 1, 0)) x) x) x) x) x) (am_br 395 (am_br 389 (am_br 385 (am_br 382 (am_lf 380 (some (.bipush 7, 2, 0)) x) (am_lf 382 (some (.invokestatic 114, 3, 1131012)) x) x) (am_br 388 (am_lf 385 (some (.ifCond .eq 75, 3, 0)) x) (am_lf 388 (some (.iload_n 1, 1, 0)) x) x) x) (am_br 393 (am_br 390 (am_lf 389 (some (.iconst 4, 1, 0)) x) (am_lf 390 (some (.if_icmp .ne 12, 3, 0)) x) x) (am_br 394 (am_lf 393 (some (.iload_n 2, 1, 0)) x) (am_lf 394 (some (.iconst 0, 1, 0)) x) x) x) x) (am_br 403 (am_br 399 (am_br 396 (am_lf 395 (some (.iconst 1, 1, 0)) x) (am_lf 396 (some (.invokestatic 114, 3, 1131012)) x) x) (am_br 402 (am_lf 399 (some (.ifCond .eq 61, 3, 0)) x) (am_lf 402 (some (.iload_n 1, 1, 0)) x) x) x) (am_br 407 (am_br 404 (am_lf 403 (some (.iconst 5, 1, 0)) x) (am_lf 404 (some (.if_icmp .ne 25, 3, 0)) x) x) (am_br 408 (am_lf 407 (some (.iload_n 2, 1, 0)) x) (am_br 410 (am_lf 408 (some (.bipush (-20), 2, 0)) x) (am_lf 410 (some (.bipush 20, 2, 0)) x) x) x) x) x) x) x) (am_br 445 (am_br 430 (am_br 421 (am_br 418 (am_br 415 (am_lf 412 (some (.invokestatic 114, 3, 1131012)) x) (am_lf 415 (some (.ifCond .eq 45, 3, 0)) x) x) (am_br 419 (am_lf 418 (some (.iload_n 3, 1, 0)) x) (am_lf 419 (some (.bipush (-20), 2, 0)) x) x) x) (am_br 426 (am_br 423 (am_lf 421 (some (.bipush 20, 2, 0)) x) (am_lf 423 (some (.invokestatic 114, 3, 1131012)) x) x) (am_br 429 (am_lf 426 (some (.ifCond .eq 34, 3, 0)) x) (am_lf 429 (some (.iload_n 1, 1, 0)) x) x) x) x) (am_br 437 (am_br 435 (am_br 432 (am_lf 430 (some (.bipush 6, 2, 0)) x) (am_lf 432 (some (.if_icmp .ne 12, 3, 0)) x) x) (am_br 436 (am_lf 435 (some (.iload_n 2, 1, 0)) x) (am_lf 436 (some (.iconst 1, 1, 0)) x) x) x) (am_br 441 (am_br 438 (am_lf 437 (some (.iconst 5, 1, 0)) x) (am_lf 438 (some (.invokestatic 114, 3, 1131012)) x) x) (am_br 444 (am_lf 441 (some (.ifCond .eq 19, 3, 0)) x) (am_lf 444 (some (.iload_n 1, 1, 0)) x) x) x) x) x) (am_br 461 (am_br 452 (am_br 450 (am_br 447 (am_lf 445 (some (.bipush 8, 2, 0)) x) (am_lf 447 (some (.if_icmp .ne 17, 3, 0)) x) x) (am_br 451 (am_lf 450 (some (.iload_n 2, 1, 0)) x) (am_lf 451 (some (.iconst 1, 1, 0)) x) x) x) (am_br 457 (am_br 454 (am_lf 452 (some (.bipush 9, 2, 0)) x) (am_lf 454 (some (.invokestatic 114, 3, 1131012)) x) x) (am_br 460 (am_lf 457 (some (.ifCond .ne 7, 3, 0)) x) (am_lf 460 (some (.iconst 1, 1, 0)) x) x) x) x) (am_br 469 (am_br 465 (am_br 464 (am_lf 461 (some (.goto 4, 3, 0)) x) (am_lf 464 (some (.iconst 0, 1, 0)) x) x) (am_br 467 (am_lf 465 (some (.istore 8, 2, 0)) x) (am_lf 467 (some (.iload 8, 2, 0)) x) x) x) (am_br 473 (am_br 472 (am_lf 469 (some (.ifCond .eq 7, 3, 0)) x) (am_lf 472 (some (.iconst 4, 1, 0)) x) x) (am_br 476 (am_lf 473 (some (.goto 4, 3, 0)) x) (am_br 477 (am_lf 476 (some (.iconst 0, 1, 0)) x) (am_lf 477 (some (.ireturn, 1, 0)) x) x) x) x) x) x) x) x) x) x
def am_i_Model_paints : Nat → Option (ClassFile.Instr × Nat × Nat) := fun x => am_br 23 (am_br 13 (am_br 3 (am_br 1 (am_lf 0 (some (.aload_n 0, 1, 0)) x) (am_br 2 (am_lf 1 (some (.iload_n 1, 1, 0)) x) (am_lf 2 (some (.iload_n 2, 1, 0)) x) x) x) (am_br 9 (am_br 6 (am_lf 3 (some (.invokevirtual 124, 3, 1151019)) x) (am_lf 6 (some (.ifCond .eq 37, 3, 0)) x) x) (am_br 10 (am_lf 9 (some (.aload_n 0, 1, 0)) x) (am_lf 10 (some (.getfield 20, 3, 12040879)) x) x) x) x) (am_br 17 (am_br 15 (am_lf 13 (some (.bipush 10, 2, 0)) x) (am_br 16 (am_lf 15 (some (.iload_n 1, 1, 0)) x) (am_lf 16 (some (.imul, 1, 0)) x) x) x) (am_br 19 (am_br 18 (am_lf 17 (some (.iload_n 2, 1, 0)) x) (am_lf 18 (some (.iadd, 1, 0)) x) x) (am_br 20 (am_lf 19 (some (.baload, 1, 0)) x) (am_lf 20 (some (.ifCond .eq 23, 3, 0)) x) x) x) x) x) (am_br 36 (am_br 29 (am_br 24 (am_lf 23 (some (.aload_n 0, 1, 0)) x) (am_br 27 (am_lf 24 (some (.getfield 16, 3, 12030878)) x) (am_lf 27 (some (.bipush 100, 2, 0)) x) x) x) (am_br 33 (am_br 30 (am_lf 29 (some (.aload_n 0, 1, 0)) x) (am_lf 30 (some (.getfield 121, 3, 12050880)) x) x) (am_br 34 (am_lf 33 (some (.imul, 1, 0)) x) (am_lf 34 (some (.bipush 10, 2, 0)) x) x) x) x) (am_br 40 (am_br 38 (am_br 37 (am_lf 36 (some (.iload_n 1, 1, 0)) x) (am_lf 37 (some (.imul, 1, 0)) x) x) (am_br 39 (am_lf 38 (some (.iadd, 1, 0)) x) (am_lf 39 (some (.iload_n 2, 1, 0)) x) x) x) (am_br 42 (am_br 41 (am_lf 40 (some (.iadd, 1, 0)) x) (am_lf 41 (some (.iload_n 3, 1, 0)) x) x) (am_br 43 (am_lf 42 (some (.iastore, 1, 0)) x) (am_lf 43 (some (.return_, 1, 0)) x) x) x) x) x) x
def am_i_Model_box : Nat → Option (ClassFile.Instr × Nat × Nat) := fun x => am_br 79 (am_br 41 (am_br 19 (am_br 9 (am_br 3 (am_br 1 (am_lf 0 (some (.aload_n 0, 1, 0)) x) (am_lf 1 (some (.bipush 99, 2, 0)) x) x) (am_br 6 (am_lf 3 (some (.putfield 155, 3, 12320907)) x) (am_br 7 (am_lf 6 (some (.aload_n 0, 1, 0)) x) (am_lf 7 (some (.bipush 99, 2, 0)) x) x) x) x) (am_br 14 (am_br 12 (am_lf 9 (some (.putfield 158, 3, 12340909)) x) (am_br 13 (am_lf 12 (some (.aload_n 0, 1, 0)) x) (am_lf 13 (some (.iconst (-1), 1, 0)) x) x) x) (am_br 17 (am_lf 14 (some (.putfield 161, 3, 12330908)) x) (am_br 18 (am_lf 17 (some (.aload_n 0, 1, 0)) x) (am_lf 18 (some (.iconst (-1), 1, 0)) x) x) x) x) x) (am_br 30 (am_br 24 (am_br 22 (am_lf 19 (some (.putfield 164, 3, 12350910)) x) (am_br 23 (am_lf 22 (some (.iconst 0, 1, 0)) x) (am_lf 23 (some (.istore_n 1, 1, 0)) x) x) x) (am_br 25 (am_lf 24 (some (.iload_n 1, 1, 0)) x) (am_br 27 (am_lf 25 (some (.bipush 100, 2, 0)) x) (am_lf 27 (some (.if_icmp .ge 142, 3, 0)) x) x) x) x) (am_br 35 (am_br 31 (am_lf 30 (some (.aload_n 0, 1, 0)) x) (am_br 34 (am_lf 31 (some (.getfield 72, 3, 12310906)) x) (am_lf 34 (some (.iload_n 1, 1, 0)) x) x) x) (am_br 36 (am_lf 35 (some (.aload_n 0, 1, 0)) x) (am_br 39 (am_lf 36 (some (.getfield 16, 3, 12030878)) x) (am_lf 39 (some (.bipush 100, 2, 0)) x) x) x) x) x) x) (am_br 59 (am_br 49 (am_br 46 (am_br 42 (am_lf 41 (some (.aload_n 0, 1, 0)) x) (am_br 45 (am_lf 42 (some (.getfield 121, 3, 12050880)) x) (am_lf 45 (some (.imul, 1, 0)) x) x) x) (am_br 47 (am_lf 46 (some (.iload_n 1, 1, 0)) x) (am_br 48 (am_lf 47 (some (.iadd, 1, 0)) x) (am_lf 48 (some (.iaload, 1, 0)) x) x) x) x) (am_br 54 (am_br 50 (am_lf 49 (some (.iastore, 1, 0)) x) (am_br 51 (am_lf 50 (some (.aload_n 0, 1, 0)) x) (am_lf 51 (some (.getfield 20, 3, 12040879)) x) x) x) (am_br 55 (am_lf 54 (some (.iload_n 1, 1, 0)) x) (am_br 56 (am_lf 55 (some (.baload, 1, 0)) x) (am_lf 56 (some (.ifCond .eq 107, 3, 0)) x) x) x) x) x) (am_br 68 (am_br 63 (am_br 60 (am_lf 59 (some (.aload_n 0, 1, 0)) x) (am_br 61 (am_lf 60 (some (.iload_n 1, 1, 0)) x) (am_lf 61 (some (.bipush 10, 2, 0)) x) x) x) (am_br 64 (am_lf 63 (some (.idiv, 1, 0)) x) (am_br 65 (am_lf 64 (some (.aload_n 0, 1, 0)) x) (am_lf 65 (some (.getfield 155, 3, 12320907)) x) x) x) x) (am_br 74 (am_br 71 (am_lf 68 (some (.if_icmp .ge 10, 3, 0)) x) (am_br 72 (am_lf 71 (some (.iload_n 1, 1, 0)) x) (am_lf 72 (some (.bipush 10, 2, 0)) x) x) x) (am_br 75 (am_lf 74 (some (.idiv, 1, 0)) x) (am_br 78 (am_lf 75 (some (.goto 7, 3, 0)) x) (am_lf 78 (some (.aload_n 0, 1, 0)) x) x) x) x) x) x) x) (am_br 123 (am_br 100 (am_br 89 (am_br 85 (am_br 82 (am_lf 79 (some (.getfield 155, 3, 12320907)) x) (am_lf 82 (some (.putfield 155, 3, 12320907)) x) x) (am_br 86 (am_lf 85 (some (.aload_n 0, 1, 0)) x) (am_br 87 (am_lf 86 (some (.iload_n 1, 1, 0)) x) (am_lf 87 (some (.bipush 10, 2, 0)) x) x) x) x) (am_br 94 (am_br 90 (am_lf 89 (some (.idiv, 1, 0)) x) (am_br 91 (am_lf 90 (some (.aload_n 0, 1, 0)) x) (am_lf 91 (some (.getfield 161, 3, 12330908)) x) x) x) (am_br 97 (am_lf 94 (some (.if_icmp .le 10, 3, 0)) x) (am_br 98 (am_lf 97 (some (.iload_n 1, 1, 0)) x) (am_lf 98 (some (.bipush 10, 2, 0)) x) x) x) x) x) (am_br 112 (am_br 105 (am_br 101 (am_lf 100 (some (.idiv, 1, 0)) x) (am_br 104 (am_lf 101 (some (.goto 7, 3, 0)) x) (am_lf 104 (some (.aload_n 0, 1, 0)) x) x) x) (am_br 108 (am_lf 105 (some (.getfield 161, 3, 12330908)) x) (am_br 111 (am_lf 108 (some (.putfield 161, 3, 12330908)) x) (am_lf 111 (some (.aload_n 0, 1, 0)) x) x) x) x) (am_br 116 (am_br 113 (am_lf 112 (some (.iload_n 1, 1, 0)) x) (am_br 115 (am_lf 113 (some (.bipush 10, 2, 0)) x) (am_lf 115 (some (.irem, 1, 0)) x) x) x) (am_br 117 (am_lf 116 (some (.aload_n 0, 1, 0)) x) (am_br 120 (am_lf 117 (some (.getfield 158, 3, 12340909)) x) (am_lf 120 (some (.if_icmp .ge 10, 3, 0)) x) x) x) x) x) x) (am_br 143 (am_br 134 (am_br 127 (am_br 124 (am_lf 123 (some (.iload_n 1, 1, 0)) x) (am_br 126 (am_lf 124 (some (.bipush 10, 2, 0)) x) (am_lf 126 (some (.irem, 1, 0)) x) x) x) (am_br 130 (am_lf 127 (some (.goto 7, 3, 0)) x) (am_br 131 (am_lf 130 (some (.aload_n 0, 1, 0)) x) (am_lf 131 (some (.getfield 158, 3, 12340909)) x) x) x) x) (am_br 139 (am_br 137 (am_lf 134 (some (.putfield 158, 3, 12340909)) x) (am_br 138 (am_lf 137 (some (.aload_n 0, 1, 0)) x) (am_lf 138 (some (.iload_n 1, 1, 0)) x) x) x) (am_br 141 (am_lf 139 (some (.bipush 10, 2, 0)) x) (am_br 142 (am_lf 141 (some (.irem, 1, 0)) x) (am_lf 142 (some (.aload_n 0, 1, 0)) x) x) x) x) x) (am_br 156 (am_br 150 (am_br 146 (am_lf 143 (some (.getfield 164, 3, 12350910)) x) (am_br 149 (am_lf 146 (some (.if_icmp .le 10, 3, 0)) x) (am_lf 149 (some (.iload_n 1, 1, 0)) x) x) x) (am_br 152 (am_lf 150 (some (.bipush 10, 2, 0)) x) (am_br 153 (am_lf 152 (some (.irem, 1, 0)) x) (am_lf 153 (some (.goto 7, 3, 0)) x) x) x) x) (am_br 163 (am_br 157 (am_lf 156 (some (.aload_n 0, 1, 0)) x) (am_br 160 (am_lf 157 (some (.getfield 164, 3, 12350910)) x) (am_lf 160 (some (.putfield 164, 3, 12350910)) x) x) x) (am_br 166 (am_lf 163 (some (.iinc 1 1, 3, 0)) x) (am_br 169 (am_lf 166 (some (.goto (-142), 3, 0)) x) (am_lf 169 (some (.return_, 1, 0)) x) x) x) x) x) x) x) x
def am_i_Model_floor : Nat → Option (ClassFile.Instr × Nat × Nat) := fun x => am_br 12 (am_br 6 (am_br 4 (am_br 1 (am_lf 0 (some (.iload_n 0, 1, 0)) x) (am_lf 1 (some (.ifCond .lt 9, 3, 0)) x) x) (am_br 5 (am_lf 4 (some (.iload_n 0, 1, 0)) x) (am_lf 5 (some (.iload_n 1, 1, 0)) x) x) x) (am_br 10 (am_br 7 (am_lf 6 (some (.idiv, 1, 0)) x) (am_lf 7 (some (.goto 12, 3, 0)) x) x) (am_br 11 (am_lf 10 (some (.iload_n 0, 1, 0)) x) (am_lf 11 (some (.ineg, 1, 0)) x) x) x) x) (am_br 16 (am_br 14 (am_br 13 (am_lf 12 (some (.iload_n 1, 1, 0)) x) (am_lf 13 (some (.iadd, 1, 0)) x) x) (am_br 15 (am_lf 14 (some (.iconst 1, 1, 0)) x) (am_lf 15 (some (.isub, 1, 0)) x) x) x) (am_br 18 (am_br 17 (am_lf 16 (some (.iload_n 1, 1, 0)) x) (am_lf 17 (some (.idiv, 1, 0)) x) x) (am_br 19 (am_lf 18 (some (.ineg, 1, 0)) x) (am_lf 19 (some (.ireturn, 1, 0)) x) x) x) x) x
def am_i_Model_fills : Nat → Option (ClassFile.Instr × Nat × Nat) := fun x => am_br 133 (am_br 63 (am_br 31 (am_br 14 (am_br 7 (am_br 4 (am_br 1 (am_lf 0 (some (.aload_n 0, 1, 0)) x) (am_lf 1 (some (.getfield 20, 3, 12040879)) x) x) (am_br 6 (am_lf 4 (some (.bipush 10, 2, 0)) x) (am_lf 6 (some (.iload_n 1, 1, 0)) x) x) x) (am_br 9 (am_br 8 (am_lf 7 (some (.imul, 1, 0)) x) (am_lf 8 (some (.iload_n 2, 1, 0)) x) x) (am_br 10 (am_lf 9 (some (.iadd, 1, 0)) x) (am_br 11 (am_lf 10 (some (.baload, 1, 0)) x) (am_lf 11 (some (.ifCond .ne 4, 3, 0)) x) x) x) x) x) (am_br 20 (am_br 16 (am_br 15 (am_lf 14 (some (.return_, 1, 0)) x) (am_lf 15 (some (.iconst 0, 1, 0)) x) x) (am_br 18 (am_lf 16 (some (.istore 4, 2, 0)) x) (am_lf 18 (some (.iload 4, 2, 0)) x) x) x) (am_br 25 (am_br 22 (am_lf 20 (some (.bipush 100, 2, 0)) x) (am_lf 22 (some (.if_icmp .ge 32, 3, 0)) x) x) (am_br 26 (am_lf 25 (some (.aload_n 0, 1, 0)) x) (am_br 29 (am_lf 26 (some (.getfield 75, 3, 12360911)) x) (am_lf 29 (some (.iload 4, 2, 0)) x) x) x) x) x) x) (am_br 46 (am_br 37 (am_br 35 (am_br 33 (am_lf 31 (some (.iload 4, 2, 0)) x) (am_lf 33 (some (.bipush 10, 2, 0)) x) x) (am_br 36 (am_lf 35 (some (.iload_n 1, 1, 0)) x) (am_lf 36 (some (.imul, 1, 0)) x) x) x) (am_br 39 (am_br 38 (am_lf 37 (some (.iload_n 2, 1, 0)) x) (am_lf 38 (some (.iadd, 1, 0)) x) x) (am_br 42 (am_lf 39 (some (.if_icmp .ne 7, 3, 0)) x) (am_br 43 (am_lf 42 (some (.iconst 1, 1, 0)) x) (am_lf 43 (some (.goto 4, 3, 0)) x) x) x) x) x) (am_br 55 (am_br 48 (am_br 47 (am_lf 46 (some (.iconst 0, 1, 0)) x) (am_lf 47 (some (.bastore, 1, 0)) x) x) (am_br 51 (am_lf 48 (some (.iinc 4 1, 3, 0)) x) (am_br 54 (am_lf 51 (some (.goto (-33), 3, 0)) x) (am_lf 54 (some (.aload_n 0, 1, 0)) x) x) x) x) (am_br 60 (am_br 58 (am_lf 55 (some (.getfield 72, 3, 12310906)) x) (am_lf 58 (some (.bipush 10, 2, 0)) x) x) (am_br 61 (am_lf 60 (some (.iload_n 1, 1, 0)) x) (am_br 62 (am_lf 61 (some (.imul, 1, 0)) x) (am_lf 62 (some (.iload_n 2, 1, 0)) x) x) x) x) x) x) x) (am_br 96 (am_br 78 (am_br 68 (am_br 65 (am_br 64 (am_lf 63 (some (.iadd, 1, 0)) x) (am_lf 64 (some (.iaload, 1, 0)) x) x) (am_br 67 (am_lf 65 (some (.istore 4, 2, 0)) x) (am_lf 67 (some (.iconst 1, 1, 0)) x) x) x) (am_br 72 (am_br 70 (am_lf 68 (some (.istore 5, 2, 0)) x) (am_lf 70 (some (.iload 5, 2, 0)) x) x) (am_br 75 (am_lf 72 (some (.ifCond .eq 162, 3, 0)) x) (am_br 76 (am_lf 75 (some (.iconst 0, 1, 0)) x) (am_lf 76 (some (.istore 5, 2, 0)) x) x) x) x) x) (am_br 85 (am_br 81 (am_br 79 (am_lf 78 (some (.iconst 0, 1, 0)) x) (am_lf 79 (some (.istore 6, 2, 0)) x) x) (am_br 83 (am_lf 81 (some (.iload 6, 2, 0)) x) (am_lf 83 (some (.bipush 100, 2, 0)) x) x) x) (am_br 90 (am_br 88 (am_lf 85 (some (.if_icmp .ge 146, 3, 0)) x) (am_lf 88 (some (.iload 6, 2, 0)) x) x) (am_br 92 (am_lf 90 (some (.bipush 9, 2, 0)) x) (am_br 95 (am_lf 92 (some (.if_icmp .le 16, 3, 0)) x) (am_lf 95 (some (.aload_n 0, 1, 0)) x) x) x) x) x) x) (am_br 115 (am_br 104 (am_br 101 (am_br 99 (am_lf 96 (some (.getfield 75, 3, 12360911)) x) (am_lf 99 (some (.iload 6, 2, 0)) x) x) (am_br 103 (am_lf 101 (some (.bipush 10, 2, 0)) x) (am_lf 103 (some (.isub, 1, 0)) x) x) x) (am_br 108 (am_br 105 (am_lf 104 (some (.baload, 1, 0)) x) (am_lf 105 (some (.ifCond .ne 65, 3, 0)) x) x) (am_br 110 (am_lf 108 (some (.iload 6, 2, 0)) x) (am_br 112 (am_lf 110 (some (.bipush 90, 2, 0)) x) (am_lf 112 (some (.if_icmp .ge 16, 3, 0)) x) x) x) x) x) (am_br 124 (am_br 119 (am_br 116 (am_lf 115 (some (.aload_n 0, 1, 0)) x) (am_lf 116 (some (.getfield 75, 3, 12360911)) x) x) (am_br 121 (am_lf 119 (some (.iload 6, 2, 0)) x) (am_br 123 (am_lf 121 (some (.bipush 10, 2, 0)) x) (am_lf 123 (some (.iadd, 1, 0)) x) x) x) x) (am_br 128 (am_br 125 (am_lf 124 (some (.baload, 1, 0)) x) (am_lf 125 (some (.ifCond .ne 45, 3, 0)) x) x) (am_br 130 (am_lf 128 (some (.iload 6, 2, 0)) x) (am_br 132 (am_lf 130 (some (.bipush 10, 2, 0)) x) (am_lf 132 (some (.irem, 1, 0)) x) x) x) x) x) x) x) x) (am_br 203 (am_br 166 (am_br 150 (am_br 142 (am_br 137 (am_br 136 (am_lf 133 (some (.ifCond .le 15, 3, 0)) x) (am_lf 136 (some (.aload_n 0, 1, 0)) x) x) (am_br 140 (am_lf 137 (some (.getfield 75, 3, 12360911)) x) (am_lf 140 (some (.iload 6, 2, 0)) x) x) x) (am_br 144 (am_br 143 (am_lf 142 (some (.iconst 1, 1, 0)) x) (am_lf 143 (some (.isub, 1, 0)) x) x) (am_br 145 (am_lf 144 (some (.baload, 1, 0)) x) (am_br 148 (am_lf 145 (some (.ifCond .ne 25, 3, 0)) x) (am_lf 148 (some (.iload 6, 2, 0)) x) x) x) x) x) (am_br 158 (am_br 153 (am_br 152 (am_lf 150 (some (.bipush 10, 2, 0)) x) (am_lf 152 (some (.irem, 1, 0)) x) x) (am_br 155 (am_lf 153 (some (.bipush 9, 2, 0)) x) (am_lf 155 (some (.if_icmp .ge 19, 3, 0)) x) x) x) (am_br 162 (am_br 159 (am_lf 158 (some (.aload_n 0, 1, 0)) x) (am_lf 159 (some (.getfield 75, 3, 12360911)) x) x) (am_br 164 (am_lf 162 (some (.iload 6, 2, 0)) x) (am_br 165 (am_lf 164 (some (.iconst 1, 1, 0)) x) (am_lf 165 (some (.iadd, 1, 0)) x) x) x) x) x) x) (am_br 183 (am_br 174 (am_br 170 (am_br 167 (am_lf 166 (some (.baload, 1, 0)) x) (am_lf 167 (some (.ifCond .eq 7, 3, 0)) x) x) (am_br 171 (am_lf 170 (some (.iconst 1, 1, 0)) x) (am_lf 171 (some (.goto 4, 3, 0)) x) x) x) (am_br 177 (am_br 175 (am_lf 174 (some (.iconst 0, 1, 0)) x) (am_lf 175 (some (.istore 7, 2, 0)) x) x) (am_br 178 (am_lf 177 (some (.aload_n 0, 1, 0)) x) (am_br 181 (am_lf 178 (some (.getfield 75, 3, 12360911)) x) (am_lf 181 (some (.iload 6, 2, 0)) x) x) x) x) x) (am_br 193 (am_br 187 (am_br 184 (am_lf 183 (some (.baload, 1, 0)) x) (am_lf 184 (some (.ifCond .ne 41, 3, 0)) x) x) (am_br 188 (am_lf 187 (some (.aload_n 0, 1, 0)) x) (am_br 191 (am_lf 188 (some (.getfield 20, 3, 12040879)) x) (am_lf 191 (some (.iload 6, 2, 0)) x) x) x) x) (am_br 197 (am_br 194 (am_lf 193 (some (.baload, 1, 0)) x) (am_lf 194 (some (.ifCond .eq 31, 3, 0)) x) x) (am_br 198 (am_lf 197 (some (.aload_n 0, 1, 0)) x) (am_br 201 (am_lf 198 (some (.getfield 72, 3, 12310906)) x) (am_lf 201 (some (.iload 6, 2, 0)) x) x) x) x) x) x) x) (am_br 239 (am_br 221 (am_br 211 (am_br 206 (am_br 204 (am_lf 203 (some (.iaload, 1, 0)) x) (am_lf 204 (some (.iload 4, 2, 0)) x) x) (am_br 209 (am_lf 206 (some (.if_icmp .ne 19, 3, 0)) x) (am_lf 209 (some (.iload 7, 2, 0)) x) x) x) (am_br 215 (am_br 214 (am_lf 211 (some (.ifCond .eq 14, 3, 0)) x) (am_lf 214 (some (.aload_n 0, 1, 0)) x) x) (am_br 218 (am_lf 215 (some (.getfield 75, 3, 12360911)) x) (am_br 220 (am_lf 218 (some (.iload 6, 2, 0)) x) (am_lf 220 (some (.iconst 1, 1, 0)) x) x) x) x) x) (am_br 228 (am_br 223 (am_br 222 (am_lf 221 (some (.bastore, 1, 0)) x) (am_lf 222 (some (.iconst 1, 1, 0)) x) x) (am_br 225 (am_lf 223 (some (.istore 5, 2, 0)) x) (am_lf 225 (some (.iinc 6 1, 3, 0)) x) x) x) (am_br 234 (am_br 231 (am_lf 228 (some (.goto (-147), 3, 0)) x) (am_lf 231 (some (.goto (-161), 3, 0)) x) x) (am_br 235 (am_lf 234 (some (.iconst 0, 1, 0)) x) (am_br 237 (am_lf 235 (some (.istore 6, 2, 0)) x) (am_lf 237 (some (.iload 6, 2, 0)) x) x) x) x) x) x) (am_br 257 (am_br 248 (am_br 244 (am_br 241 (am_lf 239 (some (.bipush 100, 2, 0)) x) (am_lf 241 (some (.if_icmp .ge 34, 3, 0)) x) x) (am_br 245 (am_lf 244 (some (.aload_n 0, 1, 0)) x) (am_lf 245 (some (.getfield 75, 3, 12360911)) x) x) x) (am_br 251 (am_br 250 (am_lf 248 (some (.iload 6, 2, 0)) x) (am_lf 250 (some (.baload, 1, 0)) x) x) (am_br 254 (am_lf 251 (some (.ifCond .eq 18, 3, 0)) x) (am_br 255 (am_lf 254 (some (.aload_n 0, 1, 0)) x) (am_lf 255 (some (.iload 6, 2, 0)) x) x) x) x) x) (am_br 265 (am_br 260 (am_br 259 (am_lf 257 (some (.bipush 10, 2, 0)) x) (am_lf 259 (some (.idiv, 1, 0)) x) x) (am_br 262 (am_lf 260 (some (.iload 6, 2, 0)) x) (am_br 264 (am_lf 262 (some (.bipush 10, 2, 0)) x) (am_lf 264 (some (.irem, 1, 0)) x) x) x) x) (am_br 269 (am_br 266 (am_lf 265 (some (.iload_n 3, 1, 0)) x) (am_lf 266 (some (.invokevirtual 167, 3, 1281072)) x) x) (am_br 272 (am_lf 269 (some (.iinc 6 1, 3, 0)) x) (am_br 275 (am_lf 272 (some (.goto (-35), 3, 0)) x) (am_lf 275 (some (.return_, 1, 0)) x) x) x) x) x) x) x) x) x
def am_i_Model_lines : Nat → Option (ClassFile.Instr × Nat × Nat) := fun x => am_br 74 (am_br 32 (am_br 14 (am_br 7 (am_br 2 (am_br 1 (am_lf 0 (some (.iload_n 3, 1, 0)) x) (am_lf 1 (some (.iload_n 1, 1, 0)) x) x) (am_br 5 (am_lf 2 (some (.if_icmp .le 9, 3, 0)) x) (am_br 6 (am_lf 5 (some (.iload_n 3, 1, 0)) x) (am_lf 6 (some (.iload_n 1, 1, 0)) x) x) x) x) (am_br 11 (am_br 8 (am_lf 7 (some (.isub, 1, 0)) x) (am_lf 8 (some (.goto 6, 3, 0)) x) x) (am_br 12 (am_lf 11 (some (.iload_n 1, 1, 0)) x) (am_br 13 (am_lf 12 (some (.iload_n 3, 1, 0)) x) (am_lf 13 (some (.isub, 1, 0)) x) x) x) x) x) (am_br 24 (am_br 18 (am_br 16 (am_lf 14 (some (.istore 6, 2, 0)) x) (am_lf 16 (some (.iload 4, 2, 0)) x) x) (am_br 19 (am_lf 18 (some (.iload_n 2, 1, 0)) x) (am_br 22 (am_lf 19 (some (.if_icmp .le 10, 3, 0)) x) (am_lf 22 (some (.iload 4, 2, 0)) x) x) x) x) (am_br 26 (am_br 25 (am_lf 24 (some (.iload_n 2, 1, 0)) x) (am_lf 25 (some (.isub, 1, 0)) x) x) (am_br 29 (am_lf 26 (some (.goto 7, 3, 0)) x) (am_br 30 (am_lf 29 (some (.iload_n 2, 1, 0)) x) (am_lf 30 (some (.iload 4, 2, 0)) x) x) x) x) x) x) (am_br 52 (am_br 42 (am_br 35 (am_br 33 (am_lf 32 (some (.isub, 1, 0)) x) (am_lf 33 (some (.istore 7, 2, 0)) x) x) (am_br 37 (am_lf 35 (some (.iload 6, 2, 0)) x) (am_br 39 (am_lf 37 (some (.iload 7, 2, 0)) x) (am_lf 39 (some (.if_icmp .le 8, 3, 0)) x) x) x) x) (am_br 47 (am_br 44 (am_lf 42 (some (.iload 6, 2, 0)) x) (am_lf 44 (some (.goto 5, 3, 0)) x) x) (am_br 49 (am_lf 47 (some (.iload 7, 2, 0)) x) (am_br 51 (am_lf 49 (some (.istore 8, 2, 0)) x) (am_lf 51 (some (.iconst 0, 1, 0)) x) x) x) x) x) (am_br 63 (am_br 56 (am_br 54 (am_lf 52 (some (.istore 9, 2, 0)) x) (am_lf 54 (some (.iload 9, 2, 0)) x) x) (am_br 58 (am_lf 56 (some (.iload 8, 2, 0)) x) (am_br 61 (am_lf 58 (some (.if_icmp .gt 82, 3, 0)) x) (am_lf 61 (some (.iload 8, 2, 0)) x) x) x) x) (am_br 70 (am_br 66 (am_lf 63 (some (.ifCond .ne 7, 3, 0)) x) (am_br 67 (am_lf 66 (some (.iload_n 1, 1, 0)) x) (am_lf 67 (some (.goto 23, 3, 0)) x) x) x) (am_br 71 (am_lf 70 (some (.iload_n 1, 1, 0)) x) (am_br 72 (am_lf 71 (some (.iconst 2, 1, 0)) x) (am_lf 72 (some (.iload 9, 2, 0)) x) x) x) x) x) x) x) (am_br 105 (am_br 86 (am_br 79 (am_br 76 (am_br 75 (am_lf 74 (some (.imul, 1, 0)) x) (am_lf 75 (some (.iload_n 3, 1, 0)) x) x) (am_br 77 (am_lf 76 (some (.iload_n 1, 1, 0)) x) (am_br 78 (am_lf 77 (some (.isub, 1, 0)) x) (am_lf 78 (some (.imul, 1, 0)) x) x) x) x) (am_br 82 (am_br 81 (am_lf 79 (some (.iload 8, 2, 0)) x) (am_lf 81 (some (.iadd, 1, 0)) x) x) (am_br 83 (am_lf 82 (some (.iconst 2, 1, 0)) x) (am_br 85 (am_lf 83 (some (.iload 8, 2, 0)) x) (am_lf 85 (some (.imul, 1, 0)) x) x) x) x) x) (am_br 97 (am_br 90 (am_br 89 (am_lf 86 (some (.invokestatic 171, 3, 1301084)) x) (am_lf 89 (some (.iadd, 1, 0)) x) x) (am_br 92 (am_lf 90 (some (.istore 10, 2, 0)) x) (am_br 94 (am_lf 92 (some (.iload 8, 2, 0)) x) (am_lf 94 (some (.ifCond .ne 7, 3, 0)) x) x) x) x) (am_br 101 (am_br 98 (am_lf 97 (some (.iload_n 2, 1, 0)) x) (am_lf 98 (some (.goto 24, 3, 0)) x) x) (am_br 102 (am_lf 101 (some (.iload_n 2, 1, 0)) x) (am_br 103 (am_lf 102 (some (.iconst 2, 1, 0)) x) (am_lf 103 (some (.iload 9, 2, 0)) x) x) x) x) x) x) (am_br 118 (am_br 111 (am_br 108 (am_br 106 (am_lf 105 (some (.imul, 1, 0)) x) (am_lf 106 (some (.iload 4, 2, 0)) x) x) (am_br 109 (am_lf 108 (some (.iload_n 2, 1, 0)) x) (am_br 110 (am_lf 109 (some (.isub, 1, 0)) x) (am_lf 110 (some (.imul, 1, 0)) x) x) x) x) (am_br 114 (am_br 113 (am_lf 111 (some (.iload 8, 2, 0)) x) (am_lf 113 (some (.iadd, 1, 0)) x) x) (am_br 115 (am_lf 114 (some (.iconst 2, 1, 0)) x) (am_br 117 (am_lf 115 (some (.iload 8, 2, 0)) x) (am_lf 117 (some (.imul, 1, 0)) x) x) x) x) x) (am_br 127 (am_br 122 (am_br 121 (am_lf 118 (some (.invokestatic 171, 3, 1301084)) x) (am_lf 121 (some (.iadd, 1, 0)) x) x) (am_br 124 (am_lf 122 (some (.istore 11, 2, 0)) x) (am_br 125 (am_lf 124 (some (.aload_n 0, 1, 0)) x) (am_lf 125 (some (.iload 10, 2, 0)) x) x) x) x) (am_br 134 (am_br 129 (am_lf 127 (some (.iload 11, 2, 0)) x) (am_br 131 (am_lf 129 (some (.iload 5, 2, 0)) x) (am_lf 131 (some (.invokevirtual 167, 3, 1281072)) x) x) x) (am_br 137 (am_lf 134 (some (.iinc 9 1, 3, 0)) x) (am_br 140 (am_lf 137 (some (.goto (-83), 3, 0)) x) (am_lf 140 (some (.return_, 1, 0)) x) x) x) x) x) x) x) x
def am_i_Model_stamps : Nat → Option (ClassFile.Instr × Nat × Nat) := fun x => am_br 52 (am_br 24 (am_br 13 (am_br 5 (am_br 1 (am_lf 0 (some (.iconst 0, 1, 0)) x) (am_br 3 (am_lf 1 (some (.istore 6, 2, 0)) x) (am_lf 3 (some (.iload 6, 2, 0)) x) x) x) (am_br 10 (am_br 7 (am_lf 5 (some (.bipush 9, 2, 0)) x) (am_lf 7 (some (.if_icmp .ge 98, 3, 0)) x) x) (am_br 11 (am_lf 10 (some (.iload_n 3, 1, 0)) x) (am_lf 11 (some (.iload 6, 2, 0)) x) x) x) x) (am_br 17 (am_br 15 (am_br 14 (am_lf 13 (some (.ishr, 1, 0)) x) (am_lf 14 (some (.iconst 1, 1, 0)) x) x) (am_br 16 (am_lf 15 (some (.iand, 1, 0)) x) (am_lf 16 (some (.iconst 1, 1, 0)) x) x) x) (am_br 22 (am_br 20 (am_lf 17 (some (.if_icmp .ne 82, 3, 0)) x) (am_lf 20 (some (.iload 6, 2, 0)) x) x) (am_br 23 (am_lf 22 (some (.iconst 3, 1, 0)) x) (am_lf 23 (some (.idiv, 1, 0)) x) x) x) x) x) (am_br 37 (am_br 30 (am_br 28 (am_br 26 (am_lf 24 (some (.istore 7, 2, 0)) x) (am_lf 26 (some (.iload 6, 2, 0)) x) x) (am_br 29 (am_lf 28 (some (.iconst 3, 1, 0)) x) (am_lf 29 (some (.irem, 1, 0)) x) x) x) (am_br 33 (am_br 32 (am_lf 30 (some (.istore 8, 2, 0)) x) (am_lf 32 (some (.iconst 0, 1, 0)) x) x) (am_br 35 (am_lf 33 (some (.istore 9, 2, 0)) x) (am_lf 35 (some (.iload 9, 2, 0)) x) x) x) x) (am_br 44 (am_br 40 (am_br 39 (am_lf 37 (some (.iload 4, 2, 0)) x) (am_lf 39 (some (.iconst 4, 1, 0)) x) x) (am_br 41 (am_lf 40 (some (.irem, 1, 0)) x) (am_lf 41 (some (.if_icmp .ge 23, 3, 0)) x) x) x) (am_br 48 (am_br 46 (am_lf 44 (some (.iload 7, 2, 0)) x) (am_lf 46 (some (.istore 10, 2, 0)) x) x) (am_br 50 (am_lf 48 (some (.iload 8, 2, 0)) x) (am_lf 50 (some (.istore 7, 2, 0)) x) x) x) x) x) x) (am_br 81 (am_br 66 (am_br 56 (am_br 53 (am_lf 52 (some (.iconst 2, 1, 0)) x) (am_br 55 (am_lf 53 (some (.iload 10, 2, 0)) x) (am_lf 55 (some (.isub, 1, 0)) x) x) x) (am_br 61 (am_br 58 (am_lf 56 (some (.istore 8, 2, 0)) x) (am_lf 58 (some (.iinc 9 1, 3, 0)) x) x) (am_br 64 (am_lf 61 (some (.goto (-26), 3, 0)) x) (am_lf 64 (some (.iload 4, 2, 0)) x) x) x) x) (am_br 73 (am_br 70 (am_br 67 (am_lf 66 (some (.iconst 3, 1, 0)) x) (am_lf 67 (some (.if_icmp .le 10, 3, 0)) x) x) (am_br 71 (am_lf 70 (some (.iconst 2, 1, 0)) x) (am_lf 71 (some (.iload 8, 2, 0)) x) x) x) (am_br 77 (am_br 74 (am_lf 73 (some (.isub, 1, 0)) x) (am_lf 74 (some (.goto 5, 3, 0)) x) x) (am_br 79 (am_lf 77 (some (.iload 8, 2, 0)) x) (am_lf 79 (some (.istore 8, 2, 0)) x) x) x) x) x) (am_br 90 (am_br 85 (am_br 83 (am_br 82 (am_lf 81 (some (.aload_n 0, 1, 0)) x) (am_lf 82 (some (.iload_n 1, 1, 0)) x) x) (am_br 84 (am_lf 83 (some (.iconst 1, 1, 0)) x) (am_lf 84 (some (.isub, 1, 0)) x) x) x) (am_br 88 (am_br 87 (am_lf 85 (some (.iload 7, 2, 0)) x) (am_lf 87 (some (.iadd, 1, 0)) x) x) (am_br 89 (am_lf 88 (some (.iload_n 2, 1, 0)) x) (am_lf 89 (some (.iconst 1, 1, 0)) x) x) x) x) (am_br 96 (am_br 93 (am_br 91 (am_lf 90 (some (.isub, 1, 0)) x) (am_lf 91 (some (.iload 8, 2, 0)) x) x) (am_br 94 (am_lf 93 (some (.iadd, 1, 0)) x) (am_lf 94 (some (.iload 5, 2, 0)) x) x) x) (am_br 102 (am_br 99 (am_lf 96 (some (.invokevirtual 167, 3, 1281072)) x) (am_lf 99 (some (.iinc 6 1, 3, 0)) x) x) (am_br 105 (am_lf 102 (some (.goto (-99), 3, 0)) x) (am_lf 105 (some (.return_, 1, 0)) x) x) x) x) x) x) x
def am_i_Model_round : Nat → Option (ClassFile.Instr × Nat × Nat) := fun x => am_br 8 (am_br 3 (am_br 1 (am_lf 0 (some (.iload_n 0, 1, 0)) x) (am_br 2 (am_lf 1 (some (.iload_n 1, 1, 0)) x) (am_lf 2 (some (.irem, 1, 0)) x) x) x) (am_br 4 (am_lf 3 (some (.istore_n 2, 1, 0)) x) (am_br 5 (am_lf 4 (some (.iload_n 2, 1, 0)) x) (am_lf 5 (some (.ifCond .ge 9, 3, 0)) x) x) x) x) (am_br 11 (am_br 9 (am_lf 8 (some (.iload_n 2, 1, 0)) x) (am_br 10 (am_lf 9 (some (.iload_n 1, 1, 0)) x) (am_lf 10 (some (.iadd, 1, 0)) x) x) x) (am_br 14 (am_lf 11 (some (.goto 4, 3, 0)) x) (am_br 15 (am_lf 14 (some (.iload_n 2, 1, 0)) x) (am_lf 15 (some (.ireturn, 1, 0)) x) x) x) x) x
def am_i_Model_boxed : Nat → Option (ClassFile.Instr × Nat × Nat) := fun x => am_br 237 (am_br 131 (am_br 46 (am_br 22 (am_br 11 (am_br 5 (am_br 1 (am_lf 0 (some (.aload_n 0, 1, 0)) x) (am_br 4 (am_lf 1 (some (.getfield 69, 3, 12300905)) x) (am_lf 4 (some (.iconst 0, 1, 0)) x) x) x) (am_br 7 (am_br 6 (am_lf 5 (some (.iaload, 1, 0)) x) (am_lf 6 (some (.istore_n 2, 1, 0)) x) x) (am_br 8 (am_lf 7 (some (.aload_n 0, 1, 0)) x) (am_lf 8 (some (.getfield 69, 3, 12300905)) x) x) x) x) (am_br 14 (am_br 12 (am_lf 11 (some (.iconst 1, 1, 0)) x) (am_br 13 (am_lf 12 (some (.iaload, 1, 0)) x) (am_lf 13 (some (.istore_n 3, 1, 0)) x) x) x) (am_br 18 (am_br 15 (am_lf 14 (some (.aload_n 0, 1, 0)) x) (am_lf 15 (some (.getfield 161, 3, 12330908)) x) x) (am_br 19 (am_lf 18 (some (.aload_n 0, 1, 0)) x) (am_lf 19 (some (.getfield 155, 3, 12320907)) x) x) x) x) x) (am_br 32 (am_br 25 (am_br 23 (am_lf 22 (some (.isub, 1, 0)) x) (am_br 24 (am_lf 23 (some (.iconst 1, 1, 0)) x) (am_lf 24 (some (.iadd, 1, 0)) x) x) x) (am_br 28 (am_br 27 (am_lf 25 (some (.istore 4, 2, 0)) x) (am_lf 27 (some (.aload_n 0, 1, 0)) x) x) (am_br 31 (am_lf 28 (some (.getfield 164, 3, 12350910)) x) (am_lf 31 (some (.aload_n 0, 1, 0)) x) x) x) x) (am_br 38 (am_br 36 (am_br 35 (am_lf 32 (some (.getfield 158, 3, 12340909)) x) (am_lf 35 (some (.isub, 1, 0)) x) x) (am_br 37 (am_lf 36 (some (.iconst 1, 1, 0)) x) (am_lf 37 (some (.iadd, 1, 0)) x) x) x) (am_br 41 (am_br 40 (am_lf 38 (some (.istore 5, 2, 0)) x) (am_lf 40 (some (.aload_n 0, 1, 0)) x) x) (am_br 44 (am_lf 41 (some (.getfield 155, 3, 12320907)) x) (am_lf 44 (some (.istore 6, 2, 0)) x) x) x) x) x) x) (am_br 77 (am_br 61 (am_br 52 (am_br 48 (am_lf 46 (some (.iload 6, 2, 0)) x) (am_br 49 (am_lf 48 (some (.aload_n 0, 1, 0)) x) (am_lf 49 (some (.getfield 161, 3, 12330908)) x) x) x) (am_br 56 (am_br 55 (am_lf 52 (some (.if_icmp .gt 413, 3, 0)) x) (am_lf 55 (some (.aload_n 0, 1, 0)) x) x) (am_br 59 (am_lf 56 (some (.getfield 158, 3, 12340909)) x) (am_lf 59 (some (.istore 7, 2, 0)) x) x) x) x) (am_br 70 (am_br 64 (am_br 63 (am_lf 61 (some (.iload 7, 2, 0)) x) (am_lf 63 (some (.aload_n 0, 1, 0)) x) x) (am_br 67 (am_lf 64 (some (.getfield 164, 3, 12350910)) x) (am_lf 67 (some (.if_icmp .gt 392, 3, 0)) x) x) x) (am_br 74 (am_br 72 (am_lf 70 (some (.bipush 10, 2, 0)) x) (am_lf 72 (some (.iload 6, 2, 0)) x) x) (am_br 75 (am_lf 74 (some (.imul, 1, 0)) x) (am_lf 75 (some (.iload 7, 2, 0)) x) x) x) x) x) (am_br 117 (am_br 81 (am_br 78 (am_lf 77 (some (.iadd, 1, 0)) x) (am_br 80 (am_lf 78 (some (.istore 8, 2, 0)) x) (am_lf 80 (some (.iload_n 1, 1, 0)) x) x) x) (am_br 113 (am_br 112 (am_lf 81 (some (.tableswitch 262 4 7 #[31, 95, 153, 214], 31, 0)) x) (am_lf 112 (some (.aload_n 0, 1, 0)) x) x) (am_br 115 (am_lf 113 (some (.iload 6, 2, 0)) x) (am_lf 115 (some (.iload 7, 2, 0)) x) x) x) x) (am_br 125 (am_br 121 (am_br 118 (am_lf 117 (some (.iload_n 2, 1, 0)) x) (am_lf 118 (some (.ifCond .ne 29, 3, 0)) x) x) (am_br 122 (am_lf 121 (some (.aload_n 0, 1, 0)) x) (am_lf 122 (some (.getfield 72, 3, 12310906)) x) x) x) (am_br 129 (am_br 127 (am_lf 125 (some (.bipush 10, 2, 0)) x) (am_lf 127 (some (.iload 6, 2, 0)) x) x) (am_br 130 (am_lf 129 (some (.imul, 1, 0)) x) (am_lf 130 (some (.aload_n 0, 1, 0)) x) x) x) x) x) x) x) (am_br 185 (am_br 158 (am_br 143 (am_br 136 (am_br 134 (am_lf 131 (some (.getfield 158, 3, 12340909)) x) (am_br 135 (am_lf 134 (some (.iadd, 1, 0)) x) (am_lf 135 (some (.aload_n 0, 1, 0)) x) x) x) (am_br 140 (am_br 139 (am_lf 136 (some (.getfield 164, 3, 12350910)) x) (am_lf 139 (some (.iadd, 1, 0)) x) x) (am_br 142 (am_lf 140 (some (.iload 7, 2, 0)) x) (am_lf 142 (some (.isub, 1, 0)) x) x) x) x) (am_br 151 (am_br 147 (am_br 144 (am_lf 143 (some (.iaload, 1, 0)) x) (am_lf 144 (some (.goto 26, 3, 0)) x) x) (am_br 148 (am_lf 147 (some (.aload_n 0, 1, 0)) x) (am_lf 148 (some (.getfield 72, 3, 12310906)) x) x) x) (am_br 154 (am_br 153 (am_lf 151 (some (.bipush 10, 2, 0)) x) (am_lf 153 (some (.aload_n 0, 1, 0)) x) x) (am_br 157 (am_lf 154 (some (.getfield 155, 3, 12320907)) x) (am_lf 157 (some (.aload_n 0, 1, 0)) x) x) x) x) x) (am_br 169 (am_br 164 (am_br 161 (am_lf 158 (some (.getfield 161, 3, 12330908)) x) (am_br 162 (am_lf 161 (some (.iadd, 1, 0)) x) (am_lf 162 (some (.iload 6, 2, 0)) x) x) x) (am_br 166 (am_br 165 (am_lf 164 (some (.isub, 1, 0)) x) (am_lf 165 (some (.imul, 1, 0)) x) x) (am_br 168 (am_lf 166 (some (.iload 7, 2, 0)) x) (am_lf 168 (some (.iadd, 1, 0)) x) x) x) x) (am_br 177 (am_br 173 (am_br 170 (am_lf 169 (some (.iaload, 1, 0)) x) (am_lf 170 (some (.invokevirtual 167, 3, 1281072)) x) x) (am_br 176 (am_lf 173 (some (.goto 280, 3, 0)) x) (am_lf 176 (some (.aload_n 0, 1, 0)) x) x) x) (am_br 181 (am_br 179 (am_lf 177 (some (.iload 6, 2, 0)) x) (am_lf 179 (some (.iload 7, 2, 0)) x) x) (am_br 182 (am_lf 181 (some (.aload_n 0, 1, 0)) x) (am_lf 182 (some (.getfield 72, 3, 12310906)) x) x) x) x) x) x) (am_br 211 (am_br 198 (am_br 191 (am_br 187 (am_lf 185 (some (.bipush 10, 2, 0)) x) (am_br 188 (am_lf 187 (some (.aload_n 0, 1, 0)) x) (am_lf 188 (some (.getfield 155, 3, 12320907)) x) x) x) (am_br 194 (am_br 193 (am_lf 191 (some (.iload 6, 2, 0)) x) (am_lf 193 (some (.aload_n 0, 1, 0)) x) x) (am_br 197 (am_lf 194 (some (.getfield 155, 3, 12320907)) x) (am_lf 197 (some (.isub, 1, 0)) x) x) x) x) (am_br 205 (am_br 200 (am_br 199 (am_lf 198 (some (.iload_n 2, 1, 0)) x) (am_lf 199 (some (.isub, 1, 0)) x) x) (am_br 202 (am_lf 200 (some (.iload 4, 2, 0)) x) (am_lf 202 (some (.invokestatic 175, 3, 1341095)) x) x) x) (am_br 207 (am_br 206 (am_lf 205 (some (.iadd, 1, 0)) x) (am_lf 206 (some (.imul, 1, 0)) x) x) (am_br 208 (am_lf 207 (some (.aload_n 0, 1, 0)) x) (am_lf 208 (some (.getfield 158, 3, 12340909)) x) x) x) x) x) (am_br 221 (am_br 215 (am_br 212 (am_lf 211 (some (.iadd, 1, 0)) x) (am_br 214 (am_lf 212 (some (.iload 7, 2, 0)) x) (am_lf 214 (some (.aload_n 0, 1, 0)) x) x) x) (am_br 219 (am_br 218 (am_lf 215 (some (.getfield 158, 3, 12340909)) x) (am_lf 218 (some (.isub, 1, 0)) x) x) (am_br 220 (am_lf 219 (some (.iload_n 3, 1, 0)) x) (am_lf 220 (some (.isub, 1, 0)) x) x) x) x) (am_br 228 (am_br 226 (am_br 223 (am_lf 221 (some (.iload 5, 2, 0)) x) (am_lf 223 (some (.invokestatic 175, 3, 1341095)) x) x) (am_br 227 (am_lf 226 (some (.iadd, 1, 0)) x) (am_lf 227 (some (.iaload, 1, 0)) x) x) x) (am_br 234 (am_br 231 (am_lf 228 (some (.invokevirtual 167, 3, 1281072)) x) (am_lf 231 (some (.goto 222, 3, 0)) x) x) (am_br 236 (am_lf 234 (some (.iload 6, 2, 0)) x) (am_lf 236 (some (.aload_n 0, 1, 0)) x) x) x) x) x) x) x) x) (am_br 350 (am_br 292 (am_br 264 (am_br 251 (am_br 242 (am_br 240 (am_lf 237 (some (.getfield 155, 3, 12320907)) x) (am_br 241 (am_lf 240 (some (.isub, 1, 0)) x) (am_lf 241 (some (.iload_n 2, 1, 0)) x) x) x) (am_br 246 (am_br 245 (am_lf 242 (some (.if_icmp .lt 36, 3, 0)) x) (am_lf 245 (some (.aload_n 0, 1, 0)) x) x) (am_br 249 (am_lf 246 (some (.getfield 161, 3, 12330908)) x) (am_lf 249 (some (.iload 6, 2, 0)) x) x) x) x) (am_br 258 (am_br 253 (am_br 252 (am_lf 251 (some (.isub, 1, 0)) x) (am_lf 252 (some (.iload_n 2, 1, 0)) x) x) (am_br 256 (am_lf 253 (some (.if_icmp .lt 25, 3, 0)) x) (am_lf 256 (some (.iload 7, 2, 0)) x) x) x) (am_br 262 (am_br 259 (am_lf 258 (some (.aload_n 0, 1, 0)) x) (am_lf 259 (some (.getfield 158, 3, 12340909)) x) x) (am_br 263 (am_lf 262 (some (.isub, 1, 0)) x) (am_lf 263 (some (.iload_n 2, 1, 0)) x) x) x) x) x) (am_br 278 (am_br 271 (am_br 267 (am_lf 264 (some (.if_icmp .lt 14, 3, 0)) x) (am_br 268 (am_lf 267 (some (.aload_n 0, 1, 0)) x) (am_lf 268 (some (.getfield 164, 3, 12350910)) x) x) x) (am_br 274 (am_br 273 (am_lf 271 (some (.iload 7, 2, 0)) x) (am_lf 273 (some (.isub, 1, 0)) x) x) (am_br 275 (am_lf 274 (some (.iload_n 2, 1, 0)) x) (am_lf 275 (some (.if_icmp .ge 178, 3, 0)) x) x) x) x) (am_br 284 (am_br 281 (am_br 279 (am_lf 278 (some (.aload_n 0, 1, 0)) x) (am_lf 279 (some (.iload 6, 2, 0)) x) x) (am_br 283 (am_lf 281 (some (.iload 7, 2, 0)) x) (am_lf 283 (some (.aload_n 0, 1, 0)) x) x) x) (am_br 288 (am_br 287 (am_lf 284 (some (.getfield 69, 3, 12300905)) x) (am_lf 287 (some (.iconst 4, 1, 0)) x) x) (am_br 289 (am_lf 288 (some (.iaload, 1, 0)) x) (am_lf 289 (some (.invokevirtual 167, 3, 1281072)) x) x) x) x) x) x) (am_br 321 (am_br 306 (am_br 298 (am_br 295 (am_lf 292 (some (.goto 161, 3, 0)) x) (am_br 296 (am_lf 295 (some (.aload_n 0, 1, 0)) x) (am_lf 296 (some (.iload 6, 2, 0)) x) x) x) (am_br 301 (am_br 300 (am_lf 298 (some (.iload 7, 2, 0)) x) (am_lf 300 (some (.aload_n 0, 1, 0)) x) x) (am_br 304 (am_lf 301 (some (.getfield 72, 3, 12310906)) x) (am_lf 304 (some (.iload 8, 2, 0)) x) x) x) x) (am_br 312 (am_br 308 (am_br 307 (am_lf 306 (some (.iaload, 1, 0)) x) (am_lf 307 (some (.iload_n 2, 1, 0)) x) x) (am_br 311 (am_lf 308 (some (.if_icmp .ne 7, 3, 0)) x) (am_lf 311 (some (.iload_n 3, 1, 0)) x) x) x) (am_br 316 (am_br 315 (am_lf 312 (some (.goto 25, 3, 0)) x) (am_lf 315 (some (.aload_n 0, 1, 0)) x) x) (am_br 319 (am_lf 316 (some (.getfield 72, 3, 12310906)) x) (am_lf 319 (some (.iload 8, 2, 0)) x) x) x) x) x) (am_br 334 (am_br 326 (am_br 322 (am_lf 321 (some (.iaload, 1, 0)) x) (am_br 323 (am_lf 322 (some (.iload_n 3, 1, 0)) x) (am_lf 323 (some (.if_icmp .ne 7, 3, 0)) x) x) x) (am_br 330 (am_br 327 (am_lf 326 (some (.iload_n 2, 1, 0)) x) (am_lf 327 (some (.goto 10, 3, 0)) x) x) (am_br 331 (am_lf 330 (some (.aload_n 0, 1, 0)) x) (am_lf 331 (some (.getfield 72, 3, 12310906)) x) x) x) x) (am_br 343 (am_br 337 (am_br 336 (am_lf 334 (some (.iload 8, 2, 0)) x) (am_lf 336 (some (.iaload, 1, 0)) x) x) (am_br 340 (am_lf 337 (some (.invokevirtual 167, 3, 1281072)) x) (am_lf 340 (some (.goto 113, 3, 0)) x) x) x) (am_br 347 (am_br 344 (am_lf 343 (some (.aload_n 0, 1, 0)) x) (am_lf 344 (some (.getfield 16, 3, 12030878)) x) x) (am_br 349 (am_lf 347 (some (.bipush 100, 2, 0)) x) (am_lf 349 (some (.aload_n 0, 1, 0)) x) x) x) x) x) x) x) (am_br 407 (am_br 377 (am_br 362 (am_br 356 (am_br 353 (am_lf 350 (some (.getfield 121, 3, 12050880)) x) (am_br 354 (am_lf 353 (some (.imul, 1, 0)) x) (am_lf 354 (some (.iload 8, 2, 0)) x) x) x) (am_br 358 (am_br 357 (am_lf 356 (some (.iadd, 1, 0)) x) (am_lf 357 (some (.iaload, 1, 0)) x) x) (am_br 360 (am_lf 358 (some (.istore 9, 2, 0)) x) (am_lf 360 (some (.iload 9, 2, 0)) x) x) x) x) (am_br 371 (am_br 367 (am_br 365 (am_lf 362 (some (.ifCond .eq 18, 3, 0)) x) (am_lf 365 (some (.iload 7, 2, 0)) x) x) (am_br 368 (am_lf 367 (some (.aload_n 0, 1, 0)) x) (am_lf 368 (some (.getfield 158, 3, 12340909)) x) x) x) (am_br 373 (am_br 372 (am_lf 371 (some (.isub, 1, 0)) x) (am_lf 372 (some (.iload_n 2, 1, 0)) x) x) (am_br 376 (am_lf 373 (some (.if_icmp .lt 7, 3, 0)) x) (am_lf 376 (some (.iconst 1, 1, 0)) x) x) x) x) x) (am_br 389 (am_br 383 (am_br 380 (am_lf 377 (some (.goto 4, 3, 0)) x) (am_br 381 (am_lf 380 (some (.iconst 0, 1, 0)) x) (am_lf 381 (some (.istore 10, 2, 0)) x) x) x) (am_br 386 (am_br 384 (am_lf 383 (some (.iconst 1, 1, 0)) x) (am_lf 384 (some (.istore 11, 2, 0)) x) x) (am_br 388 (am_lf 386 (some (.iload 11, 2, 0)) x) (am_lf 388 (some (.iload_n 2, 1, 0)) x) x) x) x) (am_br 398 (am_br 394 (am_br 392 (am_lf 389 (some (.if_icmp .gt 44, 3, 0)) x) (am_lf 392 (some (.iload 10, 2, 0)) x) x) (am_br 397 (am_lf 394 (some (.ifCond .eq 39, 3, 0)) x) (am_lf 397 (some (.aload_n 0, 1, 0)) x) x) x) (am_br 403 (am_br 401 (am_lf 398 (some (.getfield 16, 3, 12030878)) x) (am_lf 401 (some (.bipush 100, 2, 0)) x) x) (am_br 404 (am_lf 403 (some (.aload_n 0, 1, 0)) x) (am_lf 404 (some (.getfield 121, 3, 12050880)) x) x) x) x) x) x) (am_br 435 (am_br 417 (am_br 411 (am_br 408 (am_lf 407 (some (.imul, 1, 0)) x) (am_br 410 (am_lf 408 (some (.iload 8, 2, 0)) x) (am_lf 410 (some (.iadd, 1, 0)) x) x) x) (am_br 414 (am_br 413 (am_lf 411 (some (.iload 11, 2, 0)) x) (am_lf 413 (some (.isub, 1, 0)) x) x) (am_br 415 (am_lf 414 (some (.iaload, 1, 0)) x) (am_lf 415 (some (.iload 9, 2, 0)) x) x) x) x) (am_br 425 (am_br 421 (am_br 420 (am_lf 417 (some (.if_icmp .ne 7, 3, 0)) x) (am_lf 420 (some (.iconst 1, 1, 0)) x) x) (am_br 424 (am_lf 421 (some (.goto 4, 3, 0)) x) (am_lf 424 (some (.iconst 0, 1, 0)) x) x) x) (am_br 430 (am_br 427 (am_lf 425 (some (.istore 10, 2, 0)) x) (am_lf 427 (some (.iinc 11 1, 3, 0)) x) x) (am_br 433 (am_lf 430 (some (.goto (-44), 3, 0)) x) (am_lf 433 (some (.iload 10, 2, 0)) x) x) x) x) x) (am_br 448 (am_br 441 (am_br 438 (am_lf 435 (some (.ifCond .eq 18, 3, 0)) x) (am_br 439 (am_lf 438 (some (.aload_n 0, 1, 0)) x) (am_lf 439 (some (.iload 6, 2, 0)) x) x) x) (am_br 445 (am_br 443 (am_lf 441 (some (.iload 7, 2, 0)) x) (am_lf 443 (some (.iload 9, 2, 0)) x) x) (am_br 447 (am_lf 445 (some (.bipush 9, 2, 0)) x) (am_lf 447 (some (.irem, 1, 0)) x) x) x) x) (am_br 456 (am_br 450 (am_br 449 (am_lf 448 (some (.iconst 1, 1, 0)) x) (am_lf 449 (some (.iadd, 1, 0)) x) x) (am_br 453 (am_lf 450 (some (.invokevirtual 167, 3, 1281072)) x) (am_lf 453 (some (.iinc 7 1, 3, 0)) x) x) x) (am_br 462 (am_br 459 (am_lf 456 (some (.goto (-395), 3, 0)) x) (am_lf 459 (some (.iinc 6 1, 3, 0)) x) x) (am_br 465 (am_lf 462 (some (.goto (-416), 3, 0)) x) (am_lf 465 (some (.return_, 1, 0)) x) x) x) x) x) x) x) x) x
def am_i_Model_looks : Nat → Option (ClassFile.Instr × Nat × Nat) := fun x => am_br 150 (am_br 71 (am_br 35 (am_br 14 (am_br 7 (am_br 4 (am_br 1 (am_lf 0 (some (.aload_n 0, 1, 0)) x) (am_lf 1 (some (.getfield 69, 3, 12300905)) x) x) (am_br 5 (am_lf 4 (some (.iconst 0, 1, 0)) x) (am_br 6 (am_lf 5 (some (.iaload, 1, 0)) x) (am_lf 6 (some (.istore_n 2, 1, 0)) x) x) x) x) (am_br 11 (am_br 8 (am_lf 7 (some (.aload_n 0, 1, 0)) x) (am_lf 8 (some (.getfield 69, 3, 12300905)) x) x) (am_br 12 (am_lf 11 (some (.iconst 1, 1, 0)) x) (am_br 13 (am_lf 12 (some (.iaload, 1, 0)) x) (am_lf 13 (some (.istore_n 3, 1, 0)) x) x) x) x) x) (am_br 24 (am_br 17 (am_br 15 (am_lf 14 (some (.iconst 0, 1, 0)) x) (am_lf 15 (some (.istore 4, 2, 0)) x) x) (am_br 19 (am_lf 17 (some (.iload 4, 2, 0)) x) (am_br 21 (am_lf 19 (some (.bipush 100, 2, 0)) x) (am_lf 21 (some (.if_icmp .ge 233, 3, 0)) x) x) x) x) (am_br 29 (am_br 26 (am_lf 24 (some (.iload 4, 2, 0)) x) (am_br 28 (am_lf 26 (some (.bipush 10, 2, 0)) x) (am_lf 28 (some (.idiv, 1, 0)) x) x) x) (am_br 31 (am_lf 29 (some (.istore 5, 2, 0)) x) (am_br 33 (am_lf 31 (some (.iload 4, 2, 0)) x) (am_lf 33 (some (.bipush 10, 2, 0)) x) x) x) x) x) x) (am_br 55 (am_br 44 (am_br 38 (am_br 36 (am_lf 35 (some (.irem, 1, 0)) x) (am_lf 36 (some (.istore 6, 2, 0)) x) x) (am_br 39 (am_lf 38 (some (.iload_n 1, 1, 0)) x) (am_br 41 (am_lf 39 (some (.bipush 9, 2, 0)) x) (am_lf 41 (some (.if_icmp .ne 169, 3, 0)) x) x) x) x) (am_br 47 (am_br 45 (am_lf 44 (some (.aload_n 0, 1, 0)) x) (am_lf 45 (some (.iload 5, 2, 0)) x) x) (am_br 49 (am_lf 47 (some (.iload 6, 2, 0)) x) (am_br 52 (am_lf 49 (some (.invokevirtual 124, 3, 1151019)) x) (am_lf 52 (some (.ifCond .eq 158, 3, 0)) x) x) x) x) x) (am_br 63 (am_br 58 (am_br 57 (am_lf 55 (some (.iload 5, 2, 0)) x) (am_lf 57 (some (.iload_n 2, 1, 0)) x) x) (am_br 59 (am_lf 58 (some (.iload_n 2, 1, 0)) x) (am_br 60 (am_lf 59 (some (.aload_n 0, 1, 0)) x) (am_lf 60 (some (.getfield 69, 3, 12300905)) x) x) x) x) (am_br 66 (am_br 64 (am_lf 63 (some (.iconst 2, 1, 0)) x) (am_br 65 (am_lf 64 (some (.iaload, 1, 0)) x) (am_lf 65 (some (.iadd, 1, 0)) x) x) x) (am_br 67 (am_lf 66 (some (.iconst 1, 1, 0)) x) (am_br 68 (am_lf 67 (some (.isub, 1, 0)) x) (am_lf 68 (some (.invokestatic 114, 3, 1131012)) x) x) x) x) x) x) x) (am_br 107 (am_br 86 (am_br 79 (am_br 76 (am_br 74 (am_lf 71 (some (.ifCond .eq 26, 3, 0)) x) (am_lf 74 (some (.iload 6, 2, 0)) x) x) (am_br 77 (am_lf 76 (some (.iload_n 3, 1, 0)) x) (am_br 78 (am_lf 77 (some (.iload_n 3, 1, 0)) x) (am_lf 78 (some (.aload_n 0, 1, 0)) x) x) x) x) (am_br 83 (am_br 82 (am_lf 79 (some (.getfield 69, 3, 12300905)) x) (am_lf 82 (some (.iconst 3, 1, 0)) x) x) (am_br 84 (am_lf 83 (some (.iaload, 1, 0)) x) (am_br 85 (am_lf 84 (some (.iadd, 1, 0)) x) (am_lf 85 (some (.iconst 1, 1, 0)) x) x) x) x) x) (am_br 97 (am_br 90 (am_br 87 (am_lf 86 (some (.isub, 1, 0)) x) (am_lf 87 (some (.invokestatic 114, 3, 1131012)) x) x) (am_br 93 (am_lf 90 (some (.ifCond .eq 7, 3, 0)) x) (am_br 94 (am_lf 93 (some (.iconst 1, 1, 0)) x) (am_lf 94 (some (.goto 4, 3, 0)) x) x) x) x) (am_br 101 (am_br 98 (am_lf 97 (some (.iconst 0, 1, 0)) x) (am_br 100 (am_lf 98 (some (.istore 7, 2, 0)) x) (am_lf 100 (some (.aload_n 0, 1, 0)) x) x) x) (am_br 104 (am_lf 101 (some (.getfield 20, 3, 12040879)) x) (am_br 106 (am_lf 104 (some (.iload 4, 2, 0)) x) (am_lf 106 (some (.aload_n 0, 1, 0)) x) x) x) x) x) x) (am_br 127 (am_br 117 (am_br 111 (am_br 110 (am_lf 107 (some (.getfield 69, 3, 12300905)) x) (am_lf 110 (some (.iconst 4, 1, 0)) x) x) (am_br 112 (am_lf 111 (some (.iaload, 1, 0)) x) (am_br 115 (am_lf 112 (some (.ifCond .ne 8, 3, 0)) x) (am_lf 115 (some (.iload 7, 2, 0)) x) x) x) x) (am_br 124 (am_br 120 (am_lf 117 (some (.goto 89, 3, 0)) x) (am_br 121 (am_lf 120 (some (.aload_n 0, 1, 0)) x) (am_lf 121 (some (.getfield 69, 3, 12300905)) x) x) x) (am_br 125 (am_lf 124 (some (.iconst 4, 1, 0)) x) (am_br 126 (am_lf 125 (some (.iaload, 1, 0)) x) (am_lf 126 (some (.iconst 1, 1, 0)) x) x) x) x) x) (am_br 137 (am_br 131 (am_br 130 (am_lf 127 (some (.if_icmp .ne 26, 3, 0)) x) (am_lf 130 (some (.aload_n 0, 1, 0)) x) x) (am_br 134 (am_lf 131 (some (.getfield 20, 3, 12040879)) x) (am_br 136 (am_lf 134 (some (.iload 4, 2, 0)) x) (am_lf 136 (some (.baload, 1, 0)) x) x) x) x) (am_br 145 (am_br 140 (am_lf 137 (some (.ifCond .ne 8, 3, 0)) x) (am_br 142 (am_lf 140 (some (.iload 7, 2, 0)) x) (am_lf 142 (some (.ifCond .eq 7, 3, 0)) x) x) x) (am_br 146 (am_lf 145 (some (.iconst 1, 1, 0)) x) (am_br 149 (am_lf 146 (some (.goto 60, 3, 0)) x) (am_lf 149 (some (.iconst 0, 1, 0)) x) x) x) x) x) x) x) x) (am_br 233 (am_br 192 (am_br 169 (am_br 159 (am_br 154 (am_br 153 (am_lf 150 (some (.goto 56, 3, 0)) x) (am_lf 153 (some (.aload_n 0, 1, 0)) x) x) (am_br 157 (am_lf 154 (some (.getfield 69, 3, 12300905)) x) (am_br 158 (am_lf 157 (some (.iconst 4, 1, 0)) x) (am_lf 158 (some (.iaload, 1, 0)) x) x) x) x) (am_br 163 (am_br 160 (am_lf 159 (some (.iconst 2, 1, 0)) x) (am_lf 160 (some (.if_icmp .ne 26, 3, 0)) x) x) (am_br 164 (am_lf 163 (some (.aload_n 0, 1, 0)) x) (am_br 167 (am_lf 164 (some (.getfield 20, 3, 12040879)) x) (am_lf 167 (some (.iload 4, 2, 0)) x) x) x) x) x) (am_br 179 (am_br 173 (am_br 170 (am_lf 169 (some (.baload, 1, 0)) x) (am_lf 170 (some (.ifCond .eq 12, 3, 0)) x) x) (am_br 175 (am_lf 173 (some (.iload 7, 2, 0)) x) (am_br 178 (am_lf 175 (some (.ifCond .ne 7, 3, 0)) x) (am_lf 178 (some (.iconst 1, 1, 0)) x) x) x) x) (am_br 186 (am_br 182 (am_lf 179 (some (.goto 27, 3, 0)) x) (am_br 183 (am_lf 182 (some (.iconst 0, 1, 0)) x) (am_lf 183 (some (.goto 23, 3, 0)) x) x) x) (am_br 187 (am_lf 186 (some (.aload_n 0, 1, 0)) x) (am_br 190 (am_lf 187 (some (.getfield 20, 3, 12040879)) x) (am_lf 190 (some (.iload 4, 2, 0)) x) x) x) x) x) x) (am_br 211 (am_br 202 (am_br 196 (am_br 193 (am_lf 192 (some (.baload, 1, 0)) x) (am_lf 193 (some (.ifCond .eq 12, 3, 0)) x) x) (am_br 198 (am_lf 196 (some (.iload 7, 2, 0)) x) (am_br 201 (am_lf 198 (some (.ifCond .eq 7, 3, 0)) x) (am_lf 201 (some (.iconst 1, 1, 0)) x) x) x) x) (am_br 206 (am_br 205 (am_lf 202 (some (.goto 4, 3, 0)) x) (am_lf 205 (some (.iconst 0, 1, 0)) x) x) (am_br 207 (am_lf 206 (some (.bastore, 1, 0)) x) (am_br 210 (am_lf 207 (some (.goto 41, 3, 0)) x) (am_lf 210 (some (.iload_n 1, 1, 0)) x) x) x) x) x) (am_br 222 (am_br 216 (am_br 213 (am_lf 211 (some (.bipush 10, 2, 0)) x) (am_lf 213 (some (.if_icmp .ne 35, 3, 0)) x) x) (am_br 217 (am_lf 216 (some (.aload_n 0, 1, 0)) x) (am_br 220 (am_lf 217 (some (.getfield 20, 3, 12040879)) x) (am_lf 220 (some (.iload 4, 2, 0)) x) x) x) x) (am_br 228 (am_br 223 (am_lf 222 (some (.aload_n 0, 1, 0)) x) (am_br 226 (am_lf 223 (some (.getfield 20, 3, 12040879)) x) (am_lf 226 (some (.iload 4, 2, 0)) x) x) x) (am_br 229 (am_lf 228 (some (.baload, 1, 0)) x) (am_br 232 (am_lf 229 (some (.ifCond .eq 17, 3, 0)) x) (am_lf 232 (some (.aload_n 0, 1, 0)) x) x) x) x) x) x) x) (am_br 275 (am_br 254 (am_br 243 (am_br 238 (am_br 235 (am_lf 233 (some (.iload 4, 2, 0)) x) (am_lf 235 (some (.invokevirtual 128, 3, 1191023)) x) x) (am_br 239 (am_lf 238 (some (.iload_n 2, 1, 0)) x) (am_br 242 (am_lf 239 (some (.if_icmp .ne 7, 3, 0)) x) (am_lf 242 (some (.iconst 1, 1, 0)) x) x) x) x) (am_br 247 (am_br 246 (am_lf 243 (some (.goto 4, 3, 0)) x) (am_lf 246 (some (.iconst 0, 1, 0)) x) x) (am_br 248 (am_lf 247 (some (.bastore, 1, 0)) x) (am_br 251 (am_lf 248 (some (.iinc 4 1, 3, 0)) x) (am_lf 251 (some (.goto (-234), 3, 0)) x) x) x) x) x) (am_br 262 (am_br 256 (am_br 255 (am_lf 254 (some (.aload_n 0, 1, 0)) x) (am_lf 255 (some (.iload_n 1, 1, 0)) x) x) (am_br 258 (am_lf 256 (some (.bipush 11, 2, 0)) x) (am_br 261 (am_lf 258 (some (.if_icmp .ne 7, 3, 0)) x) (am_lf 261 (some (.iload_n 2, 1, 0)) x) x) x) x) (am_br 269 (am_br 265 (am_lf 262 (some (.goto 7, 3, 0)) x) (am_br 266 (am_lf 265 (some (.aload_n 0, 1, 0)) x) (am_lf 266 (some (.getfield 121, 3, 12050880)) x) x) x) (am_br 272 (am_lf 269 (some (.putfield 121, 3, 12050880)) x) (am_br 273 (am_lf 272 (some (.iload_n 1, 1, 0)) x) (am_lf 273 (some (.bipush 12, 2, 0)) x) x) x) x) x) x) (am_br 292 (am_br 284 (am_br 279 (am_br 278 (am_lf 275 (some (.if_icmp .ne 33, 3, 0)) x) (am_lf 278 (some (.aload_n 0, 1, 0)) x) x) (am_br 280 (am_lf 279 (some (.iload_n 3, 1, 0)) x) (am_br 281 (am_lf 280 (some (.iconst 1, 1, 0)) x) (am_lf 281 (some (.if_icmp .ne 14, 3, 0)) x) x) x) x) (am_br 289 (am_br 285 (am_lf 284 (some (.aload_n 0, 1, 0)) x) (am_br 288 (am_lf 285 (some (.getfield 24, 3, 12060881)) x) (am_lf 288 (some (.iconst 1, 1, 0)) x) x) x) (am_br 290 (am_lf 289 (some (.iload_n 2, 1, 0)) x) (am_br 291 (am_lf 290 (some (.ishl, 1, 0)) x) (am_lf 291 (some (.ior, 1, 0)) x) x) x) x) x) (am_br 301 (am_br 296 (am_br 295 (am_lf 292 (some (.goto 13, 3, 0)) x) (am_lf 295 (some (.aload_n 0, 1, 0)) x) x) (am_br 299 (am_lf 296 (some (.getfield 24, 3, 12060881)) x) (am_br 300 (am_lf 299 (some (.iconst 1, 1, 0)) x) (am_lf 300 (some (.iload_n 2, 1, 0)) x) x) x) x) (am_br 304 (am_br 302 (am_lf 301 (some (.ishl, 1, 0)) x) (am_br 303 (am_lf 302 (some (.iconst (-1), 1, 0)) x) (am_lf 303 (some (.ixor, 1, 0)) x) x) x) (am_br 305 (am_lf 304 (some (.iand, 1, 0)) x) (am_br 308 (am_lf 305 (some (.putfield 24, 3, 12060881)) x) (am_lf 308 (some (.return_, 1, 0)) x) x) x) x) x) x) x) x) x
def am_i_Model_does : Nat → Option (ClassFile.Instr × Nat × Nat) := fun x => am_br 97 (am_br 47 (am_br 22 (am_br 11 (am_br 5 (am_br 1 (am_lf 0 (some (.aload_n 0, 1, 0)) x) (am_br 2 (am_lf 1 (some (.dup, 1, 0)) x) (am_lf 2 (some (.getfield 178, 3, 12260901)) x) x) x) (am_br 7 (am_br 6 (am_lf 5 (some (.iconst 1, 1, 0)) x) (am_lf 6 (some (.iadd, 1, 0)) x) x) (am_br 10 (am_lf 7 (some (.putfield 178, 3, 12260901)) x) (am_lf 10 (some (.aload_n 0, 1, 0)) x) x) x) x) (am_br 16 (am_br 12 (am_lf 11 (some (.iload_n 1, 1, 0)) x) (am_br 15 (am_lf 12 (some (.invokevirtual 181, 3, 1271059)) x) (am_lf 15 (some (.istore_n 2, 1, 0)) x) x) x) (am_br 20 (am_br 17 (am_lf 16 (some (.iload_n 2, 1, 0)) x) (am_lf 17 (some (.ifCond .le 10, 3, 0)) x) x) (am_br 21 (am_lf 20 (some (.aload_n 0, 1, 0)) x) (am_lf 21 (some (.iload_n 1, 1, 0)) x) x) x) x) x) (am_br 35 (am_br 27 (am_br 25 (am_lf 22 (some (.putfield 66, 3, 12270902)) x) (am_br 26 (am_lf 25 (some (.iload_n 2, 1, 0)) x) (am_lf 26 (some (.ireturn, 1, 0)) x) x) x) (am_br 31 (am_br 28 (am_lf 27 (some (.aload_n 0, 1, 0)) x) (am_lf 28 (some (.invokevirtual 184, 3, 1291068)) x) x) (am_br 32 (am_lf 31 (some (.iload_n 1, 1, 0)) x) (am_lf 32 (some (.ifCond .ne 28, 3, 0)) x) x) x) x) (am_br 41 (am_br 37 (am_br 36 (am_lf 35 (some (.aload_n 0, 1, 0)) x) (am_lf 36 (some (.aload_n 0, 1, 0)) x) x) (am_br 40 (am_lf 37 (some (.getfield 69, 3, 12300905)) x) (am_lf 40 (some (.iconst 0, 1, 0)) x) x) x) (am_br 43 (am_br 42 (am_lf 41 (some (.iaload, 1, 0)) x) (am_lf 42 (some (.aload_n 0, 1, 0)) x) x) (am_br 46 (am_lf 43 (some (.getfield 69, 3, 12300905)) x) (am_lf 46 (some (.iconst 1, 1, 0)) x) x) x) x) x) x) (am_br 72 (am_br 60 (am_br 52 (am_br 48 (am_lf 47 (some (.iaload, 1, 0)) x) (am_br 49 (am_lf 48 (some (.aload_n 0, 1, 0)) x) (am_lf 49 (some (.getfield 69, 3, 12300905)) x) x) x) (am_br 54 (am_br 53 (am_lf 52 (some (.iconst 4, 1, 0)) x) (am_lf 53 (some (.iaload, 1, 0)) x) x) (am_br 57 (am_lf 54 (some (.invokevirtual 167, 3, 1281072)) x) (am_lf 57 (some (.goto 136, 3, 0)) x) x) x) x) (am_br 66 (am_br 62 (am_br 61 (am_lf 60 (some (.iload_n 1, 1, 0)) x) (am_lf 61 (some (.iconst 1, 1, 0)) x) x) (am_br 65 (am_lf 62 (some (.if_icmp .ne 28, 3, 0)) x) (am_lf 65 (some (.aload_n 0, 1, 0)) x) x) x) (am_br 70 (am_br 67 (am_lf 66 (some (.aload_n 0, 1, 0)) x) (am_lf 67 (some (.getfield 69, 3, 12300905)) x) x) (am_br 71 (am_lf 70 (some (.iconst 0, 1, 0)) x) (am_lf 71 (some (.iaload, 1, 0)) x) x) x) x) x) (am_br 83 (am_br 77 (am_br 73 (am_lf 72 (some (.aload_n 0, 1, 0)) x) (am_br 76 (am_lf 73 (some (.getfield 69, 3, 12300905)) x) (am_lf 76 (some (.iconst 1, 1, 0)) x) x) x) (am_br 79 (am_br 78 (am_lf 77 (some (.iaload, 1, 0)) x) (am_lf 78 (some (.aload_n 0, 1, 0)) x) x) (am_br 82 (am_lf 79 (some (.getfield 69, 3, 12300905)) x) (am_lf 82 (some (.iconst 4, 1, 0)) x) x) x) x) (am_br 91 (am_br 87 (am_br 84 (am_lf 83 (some (.iaload, 1, 0)) x) (am_lf 84 (some (.invokevirtual 187, 3, 1311076)) x) x) (am_br 90 (am_lf 87 (some (.goto 106, 3, 0)) x) (am_lf 90 (some (.iload_n 1, 1, 0)) x) x) x) (am_br 95 (am_br 92 (am_lf 91 (some (.iconst 2, 1, 0)) x) (am_lf 92 (some (.if_icmp .ne 40, 3, 0)) x) x) (am_br 96 (am_lf 95 (some (.aload_n 0, 1, 0)) x) (am_lf 96 (some (.aload_n 0, 1, 0)) x) x) x) x) x) x) x) (am_br 144 (am_br 119 (am_br 108 (am_br 102 (am_br 100 (am_lf 97 (some (.getfield 69, 3, 12300905)) x) (am_br 101 (am_lf 100 (some (.iconst 0, 1, 0)) x) (am_lf 101 (some (.iaload, 1, 0)) x) x) x) (am_br 106 (am_br 103 (am_lf 102 (some (.aload_n 0, 1, 0)) x) (am_lf 103 (some (.getfield 69, 3, 12300905)) x) x) (am_br 107 (am_lf 106 (some (.iconst 1, 1, 0)) x) (am_lf 107 (some (.iaload, 1, 0)) x) x) x) x) (am_br 113 (am_br 109 (am_lf 108 (some (.aload_n 0, 1, 0)) x) (am_br 112 (am_lf 109 (some (.getfield 69, 3, 12300905)) x) (am_lf 112 (some (.iconst 2, 1, 0)) x) x) x) (am_br 115 (am_br 114 (am_lf 113 (some (.iaload, 1, 0)) x) (am_lf 114 (some (.aload_n 0, 1, 0)) x) x) (am_br 118 (am_lf 115 (some (.getfield 69, 3, 12300905)) x) (am_lf 118 (some (.iconst 3, 1, 0)) x) x) x) x) x) (am_br 132 (am_br 124 (am_br 120 (am_lf 119 (some (.iaload, 1, 0)) x) (am_br 121 (am_lf 120 (some (.aload_n 0, 1, 0)) x) (am_lf 121 (some (.getfield 69, 3, 12300905)) x) x) x) (am_br 126 (am_br 125 (am_lf 124 (some (.iconst 4, 1, 0)) x) (am_lf 125 (some (.iaload, 1, 0)) x) x) (am_br 129 (am_lf 126 (some (.invokevirtual 190, 3, 1321080)) x) (am_lf 129 (some (.goto 64, 3, 0)) x) x) x) x) (am_br 138 (am_br 134 (am_br 133 (am_lf 132 (some (.iload_n 1, 1, 0)) x) (am_lf 133 (some (.iconst 3, 1, 0)) x) x) (am_br 137 (am_lf 134 (some (.if_icmp .ne 40, 3, 0)) x) (am_lf 137 (some (.aload_n 0, 1, 0)) x) x) x) (am_br 142 (am_br 139 (am_lf 138 (some (.aload_n 0, 1, 0)) x) (am_lf 139 (some (.getfield 69, 3, 12300905)) x) x) (am_br 143 (am_lf 142 (some (.iconst 0, 1, 0)) x) (am_lf 143 (some (.iaload, 1, 0)) x) x) x) x) x) x) (am_br 167 (am_br 155 (am_br 149 (am_br 145 (am_lf 144 (some (.aload_n 0, 1, 0)) x) (am_br 148 (am_lf 145 (some (.getfield 69, 3, 12300905)) x) (am_lf 148 (some (.iconst 1, 1, 0)) x) x) x) (am_br 151 (am_br 150 (am_lf 149 (some (.iaload, 1, 0)) x) (am_lf 150 (some (.aload_n 0, 1, 0)) x) x) (am_br 154 (am_lf 151 (some (.getfield 69, 3, 12300905)) x) (am_lf 154 (some (.iconst 2, 1, 0)) x) x) x) x) (am_br 161 (am_br 157 (am_br 156 (am_lf 155 (some (.iaload, 1, 0)) x) (am_lf 156 (some (.aload_n 0, 1, 0)) x) x) (am_br 160 (am_lf 157 (some (.getfield 69, 3, 12300905)) x) (am_lf 160 (some (.iconst 3, 1, 0)) x) x) x) (am_br 163 (am_br 162 (am_lf 161 (some (.iaload, 1, 0)) x) (am_lf 162 (some (.aload_n 0, 1, 0)) x) x) (am_br 166 (am_lf 163 (some (.getfield 69, 3, 12300905)) x) (am_lf 166 (some (.iconst 4, 1, 0)) x) x) x) x) x) (am_br 181 (am_br 174 (am_br 168 (am_lf 167 (some (.iaload, 1, 0)) x) (am_br 171 (am_lf 168 (some (.invokevirtual 194, 3, 1331087)) x) (am_lf 171 (some (.goto 22, 3, 0)) x) x) x) (am_br 177 (am_br 175 (am_lf 174 (some (.iload_n 1, 1, 0)) x) (am_lf 175 (some (.bipush 9, 2, 0)) x) x) (am_br 180 (am_lf 177 (some (.if_icmp .ge 11, 3, 0)) x) (am_lf 180 (some (.aload_n 0, 1, 0)) x) x) x) x) (am_br 189 (am_br 185 (am_br 182 (am_lf 181 (some (.iload_n 1, 1, 0)) x) (am_lf 182 (some (.invokevirtual 197, 3, 1351091)) x) x) (am_br 188 (am_lf 185 (some (.goto 8, 3, 0)) x) (am_lf 188 (some (.aload_n 0, 1, 0)) x) x) x) (am_br 193 (am_br 190 (am_lf 189 (some (.iload_n 1, 1, 0)) x) (am_lf 190 (some (.invokevirtual 200, 3, 1361098)) x) x) (am_br 194 (am_lf 193 (some (.iconst 0, 1, 0)) x) (am_lf 194 (some (.ireturn, 1, 0)) x) x) x) x) x) x) x) x
def am_i_Model_begins : Nat → Option (ClassFile.Instr × Nat × Nat) := fun x => am_br 12 (am_br 6 (am_br 2 (am_br 1 (am_lf 0 (some (.aload_n 0, 1, 0)) x) (am_lf 1 (some (.iconst 0, 1, 0)) x) x) (am_br 5 (am_lf 2 (some (.putfield 203, 3, 12240899)) x) (am_lf 5 (some (.aload_n 0, 1, 0)) x) x) x) (am_br 10 (am_br 7 (am_lf 6 (some (.iconst 0, 1, 0)) x) (am_lf 7 (some (.putfield 206, 3, 12250900)) x) x) (am_br 11 (am_lf 10 (some (.aload_n 0, 1, 0)) x) (am_lf 11 (some (.iconst 0, 1, 0)) x) x) x) x) (am_br 21 (am_br 16 (am_br 15 (am_lf 12 (some (.putfield 178, 3, 12260901)) x) (am_lf 15 (some (.aload_n 0, 1, 0)) x) x) (am_br 18 (am_lf 16 (some (.bipush (-9), 2, 0)) x) (am_lf 18 (some (.putfield 66, 3, 12270902)) x) x) x) (am_br 23 (am_br 22 (am_lf 21 (some (.aload_n 0, 1, 0)) x) (am_lf 22 (some (.iconst 0, 1, 0)) x) x) (am_br 26 (am_lf 23 (some (.putfield 209, 3, 12280903)) x) (am_lf 26 (some (.return_, 1, 0)) x) x) x) x) x
def am_i_Model_differ : Nat → Option (ClassFile.Instr × Nat × Nat) := fun x => am_br 49 (am_br 24 (am_br 12 (am_br 3 (am_br 1 (am_lf 0 (some (.iconst 0, 1, 0)) x) (am_br 2 (am_lf 1 (some (.istore_n 3, 1, 0)) x) (am_lf 2 (some (.iconst 0, 1, 0)) x) x) x) (am_br 7 (am_br 5 (am_lf 3 (some (.istore 4, 2, 0)) x) (am_lf 5 (some (.iload 4, 2, 0)) x) x) (am_br 9 (am_lf 7 (some (.bipush 100, 2, 0)) x) (am_lf 9 (some (.if_icmp .ge 91, 3, 0)) x) x) x) x) (am_br 16 (am_br 13 (am_lf 12 (some (.iconst 0, 1, 0)) x) (am_br 15 (am_lf 13 (some (.istore 5, 2, 0)) x) (am_lf 15 (some (.iconst 0, 1, 0)) x) x) x) (am_br 20 (am_br 18 (am_lf 16 (some (.istore 6, 2, 0)) x) (am_lf 18 (some (.iload 6, 2, 0)) x) x) (am_br 21 (am_lf 20 (some (.iconst 3, 1, 0)) x) (am_lf 21 (some (.if_icmp .ge 60, 3, 0)) x) x) x) x) x) (am_br 37 (am_br 30 (am_br 26 (am_lf 24 (some (.iload 5, 2, 0)) x) (am_br 27 (am_lf 26 (some (.aload_n 0, 1, 0)) x) (am_lf 27 (some (.getfield 27, 3, 12070882)) x) x) x) (am_br 34 (am_br 33 (am_lf 30 (some (.sipush 402, 3, 0)) x) (am_lf 33 (some (.iload_n 1, 1, 0)) x) x) (am_br 35 (am_lf 34 (some (.imul, 1, 0)) x) (am_lf 35 (some (.bipush 100, 2, 0)) x) x) x) x) (am_br 43 (am_br 40 (am_br 39 (am_lf 37 (some (.iload 6, 2, 0)) x) (am_lf 39 (some (.imul, 1, 0)) x) x) (am_br 41 (am_lf 40 (some (.iadd, 1, 0)) x) (am_lf 41 (some (.iload 4, 2, 0)) x) x) x) (am_br 45 (am_br 44 (am_lf 43 (some (.iadd, 1, 0)) x) (am_lf 44 (some (.iaload, 1, 0)) x) x) (am_br 46 (am_lf 45 (some (.aload_n 0, 1, 0)) x) (am_lf 46 (some (.getfield 27, 3, 12070882)) x) x) x) x) x) x) (am_br 73 (am_br 60 (am_br 54 (am_br 52 (am_lf 49 (some (.sipush 402, 3, 0)) x) (am_br 53 (am_lf 52 (some (.iload_n 2, 1, 0)) x) (am_lf 53 (some (.imul, 1, 0)) x) x) x) (am_br 58 (am_br 56 (am_lf 54 (some (.bipush 100, 2, 0)) x) (am_lf 56 (some (.iload 6, 2, 0)) x) x) (am_br 59 (am_lf 58 (some (.imul, 1, 0)) x) (am_lf 59 (some (.iadd, 1, 0)) x) x) x) x) (am_br 67 (am_br 63 (am_br 62 (am_lf 60 (some (.iload 4, 2, 0)) x) (am_lf 62 (some (.iadd, 1, 0)) x) x) (am_br 64 (am_lf 63 (some (.iaload, 1, 0)) x) (am_lf 64 (some (.if_icmp .eq 7, 3, 0)) x) x) x) (am_br 71 (am_br 68 (am_lf 67 (some (.iconst 1, 1, 0)) x) (am_lf 68 (some (.goto 4, 3, 0)) x) x) (am_br 72 (am_lf 71 (some (.iconst 0, 1, 0)) x) (am_lf 72 (some (.ior, 1, 0)) x) x) x) x) x) (am_br 88 (am_br 81 (am_br 75 (am_lf 73 (some (.istore 5, 2, 0)) x) (am_br 78 (am_lf 75 (some (.iinc 6 1, 3, 0)) x) (am_lf 78 (some (.goto (-60), 3, 0)) x) x) x) (am_br 84 (am_br 82 (am_lf 81 (some (.iload_n 3, 1, 0)) x) (am_lf 82 (some (.iload 5, 2, 0)) x) x) (am_br 87 (am_lf 84 (some (.ifCond .eq 7, 3, 0)) x) (am_lf 87 (some (.iconst 1, 1, 0)) x) x) x) x) (am_br 94 (am_br 92 (am_br 91 (am_lf 88 (some (.goto 4, 3, 0)) x) (am_lf 91 (some (.iconst 0, 1, 0)) x) x) (am_br 93 (am_lf 92 (some (.iadd, 1, 0)) x) (am_lf 93 (some (.istore_n 3, 1, 0)) x) x) x) (am_br 100 (am_br 97 (am_lf 94 (some (.iinc 4 1, 3, 0)) x) (am_lf 97 (some (.goto (-92), 3, 0)) x) x) (am_br 101 (am_lf 100 (some (.iload_n 3, 1, 0)) x) (am_lf 101 (some (.ireturn, 1, 0)) x) x) x) x) x) x) x
def am_i_Model_ends : Nat → Option (ClassFile.Instr × Nat × Nat) := fun x => am_br 25 (am_br 11 (am_br 5 (am_br 1 (am_lf 0 (some (.aload_n 0, 1, 0)) x) (am_br 2 (am_lf 1 (some (.iload_n 1, 1, 0)) x) (am_lf 2 (some (.putfield 203, 3, 12240899)) x) x) x) (am_br 9 (am_br 6 (am_lf 5 (some (.iload_n 1, 1, 0)) x) (am_lf 6 (some (.ifCond .le 14, 3, 0)) x) x) (am_br 10 (am_lf 9 (some (.aload_n 0, 1, 0)) x) (am_lf 10 (some (.aload_n 0, 1, 0)) x) x) x) x) (am_br 19 (am_br 14 (am_lf 11 (some (.getfield 118, 3, 12110886)) x) (am_br 17 (am_lf 14 (some (.invokevirtual 212, 3, 1181106)) x) (am_lf 17 (some (.bipush (-5), 2, 0)) x) x) x) (am_br 21 (am_br 20 (am_lf 19 (some (.ireturn, 1, 0)) x) (am_lf 20 (some (.aload_n 0, 1, 0)) x) x) (am_br 24 (am_lf 21 (some (.getfield 118, 3, 12110886)) x) (am_lf 24 (some (.istore_n 2, 1, 0)) x) x) x) x) x) (am_br 36 (am_br 30 (am_br 26 (am_lf 25 (some (.aload_n 0, 1, 0)) x) (am_br 27 (am_lf 26 (some (.iload_n 2, 1, 0)) x) (am_lf 27 (some (.invokevirtual 99, 3, 1160863)) x) x) x) (am_br 32 (am_br 31 (am_lf 30 (some (.istore_n 3, 1, 0)) x) (am_lf 31 (some (.aload_n 0, 1, 0)) x) x) (am_br 33 (am_lf 32 (some (.iload_n 3, 1, 0)) x) (am_lf 33 (some (.invokevirtual 107, 3, 1170871)) x) x) x) x) (am_br 40 (am_br 38 (am_br 37 (am_lf 36 (some (.aload_n 0, 1, 0)) x) (am_lf 37 (some (.aload_n 0, 1, 0)) x) x) (am_br 39 (am_lf 38 (some (.iload_n 3, 1, 0)) x) (am_lf 39 (some (.iload_n 2, 1, 0)) x) x) x) (am_br 46 (am_br 43 (am_lf 40 (some (.invokevirtual 215, 3, 1391110)) x) (am_lf 43 (some (.putfield 206, 3, 12250900)) x) x) (am_br 47 (am_lf 46 (some (.iload_n 3, 1, 0)) x) (am_lf 47 (some (.ireturn, 1, 0)) x) x) x) x) x) x
def am_i_Model_run : Nat → Option (ClassFile.Instr × Nat × Nat) := fun x => am_br 41 (am_br 21 (am_br 9 (am_br 5 (am_br 1 (am_lf 0 (some (.aload_n 0, 1, 0)) x) (am_br 2 (am_lf 1 (some (.iconst 0, 1, 0)) x) (am_lf 2 (some (.putfield 111, 3, 12000875)) x) x) x) (am_br 6 (am_lf 5 (some (.iload_n 1, 1, 0)) x) (am_br 7 (am_lf 6 (some (.iconst 0, 1, 0)) x) (am_lf 7 (some (.bipush 12, 2, 0)) x) x) x) x) (am_br 16 (am_br 12 (am_lf 9 (some (.invokestatic 114, 3, 1131012)) x) (am_br 15 (am_lf 12 (some (.ifCond .ne 5, 3, 0)) x) (am_lf 15 (some (.iconst (-1), 1, 0)) x) x) x) (am_br 17 (am_lf 16 (some (.ireturn, 1, 0)) x) (am_br 18 (am_lf 17 (some (.aload_n 0, 1, 0)) x) (am_lf 18 (some (.getfield 96, 3, 12100885)) x) x) x) x) x) (am_br 33 (am_br 28 (am_br 23 (am_lf 21 (some (.bipush 60, 2, 0)) x) (am_br 26 (am_lf 23 (some (.if_icmp .ne 6, 3, 0)) x) (am_lf 26 (some (.bipush (-3), 2, 0)) x) x) x) (am_br 29 (am_lf 28 (some (.ireturn, 1, 0)) x) (am_br 30 (am_lf 29 (some (.aload_n 0, 1, 0)) x) (am_lf 30 (some (.invokevirtual 218, 3, 1381051)) x) x) x) x) (am_br 38 (am_br 34 (am_lf 33 (some (.aload_n 0, 1, 0)) x) (am_br 37 (am_lf 34 (some (.getfield 69, 3, 12300905)) x) (am_lf 37 (some (.iconst 0, 1, 0)) x) x) x) (am_br 39 (am_lf 38 (some (.iload_n 2, 1, 0)) x) (am_br 40 (am_lf 39 (some (.iastore, 1, 0)) x) (am_lf 40 (some (.aload_n 0, 1, 0)) x) x) x) x) x) x) (am_br 60 (am_br 51 (am_br 46 (am_br 44 (am_lf 41 (some (.getfield 69, 3, 12300905)) x) (am_br 45 (am_lf 44 (some (.iconst 1, 1, 0)) x) (am_lf 45 (some (.iload_n 3, 1, 0)) x) x) x) (am_br 47 (am_lf 46 (some (.iastore, 1, 0)) x) (am_br 48 (am_lf 47 (some (.aload_n 0, 1, 0)) x) (am_lf 48 (some (.getfield 69, 3, 12300905)) x) x) x) x) (am_br 55 (am_br 52 (am_lf 51 (some (.iconst 2, 1, 0)) x) (am_br 54 (am_lf 52 (some (.iload 4, 2, 0)) x) (am_lf 54 (some (.iastore, 1, 0)) x) x) x) (am_br 56 (am_lf 55 (some (.aload_n 0, 1, 0)) x) (am_br 59 (am_lf 56 (some (.getfield 69, 3, 12300905)) x) (am_lf 59 (some (.iconst 3, 1, 0)) x) x) x) x) x) (am_br 70 (am_br 64 (am_br 62 (am_lf 60 (some (.iload 5, 2, 0)) x) (am_br 63 (am_lf 62 (some (.iastore, 1, 0)) x) (am_lf 63 (some (.aload_n 0, 1, 0)) x) x) x) (am_br 67 (am_lf 64 (some (.getfield 69, 3, 12300905)) x) (am_br 68 (am_lf 67 (some (.iconst 4, 1, 0)) x) (am_lf 68 (some (.iload 6, 2, 0)) x) x) x) x) (am_br 73 (am_br 71 (am_lf 70 (some (.iastore, 1, 0)) x) (am_br 72 (am_lf 71 (some (.aload_n 0, 1, 0)) x) (am_lf 72 (some (.aload_n 0, 1, 0)) x) x) x) (am_br 77 (am_br 74 (am_lf 73 (some (.iload_n 1, 1, 0)) x) (am_lf 74 (some (.invokevirtual 221, 3, 1371055)) x) x) (am_br 80 (am_lf 77 (some (.invokevirtual 224, 3, 1401102)) x) (am_lf 80 (some (.ireturn, 1, 0)) x) x) x) x) x) x) x
def am_i_Model_isHandle : Nat → Option (ClassFile.Instr × Nat × Nat) := fun x => am_br 6 (am_br 2 (am_br 1 (am_lf 0 (some (.iload_n 1, 1, 0)) x) (am_lf 1 (some (.iconst 0, 1, 0)) x) x) (am_br 3 (am_lf 2 (some (.aload_n 0, 1, 0)) x) (am_lf 3 (some (.getfield 135, 3, 12120887)) x) x) x) (am_br 8 (am_br 7 (am_lf 6 (some (.iconst 1, 1, 0)) x) (am_lf 7 (some (.isub, 1, 0)) x) x) (am_br 11 (am_lf 8 (some (.invokestatic 114, 3, 1131012)) x) (am_lf 11 (some (.ireturn, 1, 0)) x) x) x) x
def am_i_Model_handle : Nat → Option (ClassFile.Instr × Nat × Nat) := fun x => am_br 42 (am_br 21 (am_br 9 (am_br 5 (am_br 1 (am_lf 0 (some (.aload_n 0, 1, 0)) x) (am_br 2 (am_lf 1 (some (.iconst 0, 1, 0)) x) (am_lf 2 (some (.putfield 111, 3, 12000875)) x) x) x) (am_br 6 (am_lf 5 (some (.iload_n 1, 1, 0)) x) (am_br 7 (am_lf 6 (some (.iconst 0, 1, 0)) x) (am_lf 7 (some (.bipush 12, 2, 0)) x) x) x) x) (am_br 16 (am_br 12 (am_lf 9 (some (.invokestatic 114, 3, 1131012)) x) (am_br 15 (am_lf 12 (some (.ifCond .ne 5, 3, 0)) x) (am_lf 15 (some (.iconst (-1), 1, 0)) x) x) x) (am_br 17 (am_lf 16 (some (.ireturn, 1, 0)) x) (am_br 18 (am_lf 17 (some (.aload_n 0, 1, 0)) x) (am_lf 18 (some (.getfield 135, 3, 12120887)) x) x) x) x) x) (am_br 33 (am_br 28 (am_br 23 (am_lf 21 (some (.bipush 40, 2, 0)) x) (am_br 26 (am_lf 23 (some (.if_icmp .ne 6, 3, 0)) x) (am_lf 26 (some (.bipush (-3), 2, 0)) x) x) x) (am_br 29 (am_lf 28 (some (.ireturn, 1, 0)) x) (am_br 30 (am_lf 29 (some (.aload_n 0, 1, 0)) x) (am_lf 30 (some (.getfield 36, 3, 12130888)) x) x) x) x) (am_br 38 (am_br 34 (am_lf 33 (some (.aload_n 0, 1, 0)) x) (am_br 37 (am_lf 34 (some (.getfield 135, 3, 12120887)) x) (am_lf 37 (some (.iload_n 1, 1, 0)) x) x) x) (am_br 40 (am_br 39 (am_lf 38 (some (.iastore, 1, 0)) x) (am_lf 39 (some (.iconst 0, 1, 0)) x) x) (am_br 41 (am_lf 40 (some (.istore_n 2, 1, 0)) x) (am_lf 41 (some (.iload_n 2, 1, 0)) x) x) x) x) x) x) (am_br 60 (am_br 52 (am_br 47 (am_br 43 (am_lf 42 (some (.iconst 5, 1, 0)) x) (am_br 46 (am_lf 43 (some (.if_icmp .ge 23, 3, 0)) x) (am_lf 46 (some (.aload_n 0, 1, 0)) x) x) x) (am_br 50 (am_lf 47 (some (.getfield 39, 3, 12140889)) x) (am_br 51 (am_lf 50 (some (.iconst 5, 1, 0)) x) (am_lf 51 (some (.aload_n 0, 1, 0)) x) x) x) x) (am_br 57 (am_br 55 (am_lf 52 (some (.getfield 135, 3, 12120887)) x) (am_br 56 (am_lf 55 (some (.imul, 1, 0)) x) (am_lf 56 (some (.iload_n 2, 1, 0)) x) x) x) (am_br 58 (am_lf 57 (some (.iadd, 1, 0)) x) (am_br 59 (am_lf 58 (some (.iconst 0, 1, 0)) x) (am_lf 59 (some (.bastore, 1, 0)) x) x) x) x) x) (am_br 72 (am_br 67 (am_br 63 (am_lf 60 (some (.iinc 2 1, 3, 0)) x) (am_br 66 (am_lf 63 (some (.goto (-22), 3, 0)) x) (am_lf 66 (some (.aload_n 0, 1, 0)) x) x) x) (am_br 68 (am_lf 67 (some (.dup, 1, 0)) x) (am_br 71 (am_lf 68 (some (.getfield 135, 3, 12120887)) x) (am_lf 71 (some (.iconst 1, 1, 0)) x) x) x) x) (am_br 77 (am_br 73 (am_lf 72 (some (.iadd, 1, 0)) x) (am_br 76 (am_lf 73 (some (.putfield 135, 3, 12120887)) x) (am_lf 76 (some (.aload_n 0, 1, 0)) x) x) x) (am_br 81 (am_br 80 (am_lf 77 (some (.getfield 135, 3, 12120887)) x) (am_lf 80 (some (.iconst 1, 1, 0)) x) x) (am_br 82 (am_lf 81 (some (.isub, 1, 0)) x) (am_lf 82 (some (.ireturn, 1, 0)) x) x) x) x) x) x) x
def am_i_Model_bind : Nat → Option (ClassFile.Instr × Nat × Nat) := fun x => am_br 88 (am_br 41 (am_br 23 (am_br 10 (am_br 5 (am_br 1 (am_lf 0 (some (.aload_n 0, 1, 0)) x) (am_br 2 (am_lf 1 (some (.iconst 0, 1, 0)) x) (am_lf 2 (some (.putfield 111, 3, 12000875)) x) x) x) (am_br 6 (am_lf 5 (some (.aload_n 0, 1, 0)) x) (am_br 7 (am_lf 6 (some (.iload_n 1, 1, 0)) x) (am_lf 7 (some (.invokevirtual 227, 3, 1421122)) x) x) x) x) (am_br 15 (am_br 13 (am_lf 10 (some (.ifCond .eq 12, 3, 0)) x) (am_br 14 (am_lf 13 (some (.iload_n 2, 1, 0)) x) (am_lf 14 (some (.iconst 0, 1, 0)) x) x) x) (am_br 19 (am_br 16 (am_lf 15 (some (.iconst 4, 1, 0)) x) (am_lf 16 (some (.invokestatic 114, 3, 1131012)) x) x) (am_br 22 (am_lf 19 (some (.ifCond .ne 5, 3, 0)) x) (am_lf 22 (some (.iconst (-1), 1, 0)) x) x) x) x) x) (am_br 31 (am_br 28 (am_br 24 (am_lf 23 (some (.ireturn, 1, 0)) x) (am_br 25 (am_lf 24 (some (.aload_n 0, 1, 0)) x) (am_lf 25 (some (.getfield 39, 3, 12140889)) x) x) x) (am_br 29 (am_lf 28 (some (.iconst 5, 1, 0)) x) (am_br 30 (am_lf 29 (some (.iload_n 1, 1, 0)) x) (am_lf 30 (some (.imul, 1, 0)) x) x) x) x) (am_br 34 (am_br 32 (am_lf 31 (some (.iload_n 2, 1, 0)) x) (am_br 33 (am_lf 32 (some (.iadd, 1, 0)) x) (am_lf 33 (some (.baload, 1, 0)) x) x) x) (am_br 39 (am_br 37 (am_lf 34 (some (.ifCond .eq 6, 3, 0)) x) (am_lf 37 (some (.bipush (-2), 2, 0)) x) x) (am_br 40 (am_lf 39 (some (.ireturn, 1, 0)) x) (am_lf 40 (some (.aload_n 0, 1, 0)) x) x) x) x) x) x) (am_br 66 (am_br 53 (am_br 49 (am_br 44 (am_lf 41 (some (.getfield 135, 3, 12120887)) x) (am_br 46 (am_lf 44 (some (.bipush 40, 2, 0)) x) (am_lf 46 (some (.if_icmp .ne 6, 3, 0)) x) x) x) (am_br 51 (am_lf 49 (some (.bipush (-3), 2, 0)) x) (am_br 52 (am_lf 51 (some (.ireturn, 1, 0)) x) (am_lf 52 (some (.aload_n 0, 1, 0)) x) x) x) x) (am_br 60 (am_br 56 (am_lf 53 (some (.getfield 36, 3, 12130888)) x) (am_br 57 (am_lf 56 (some (.aload_n 0, 1, 0)) x) (am_lf 57 (some (.getfield 135, 3, 12120887)) x) x) x) (am_br 64 (am_br 61 (am_lf 60 (some (.aload_n 0, 1, 0)) x) (am_lf 61 (some (.getfield 36, 3, 12130888)) x) x) (am_br 65 (am_lf 64 (some (.iload_n 1, 1, 0)) x) (am_lf 65 (some (.iaload, 1, 0)) x) x) x) x) x) (am_br 76 (am_br 70 (am_br 67 (am_lf 66 (some (.iastore, 1, 0)) x) (am_br 68 (am_lf 67 (some (.iconst 0, 1, 0)) x) (am_lf 68 (some (.istore 4, 2, 0)) x) x) x) (am_br 72 (am_lf 70 (some (.iload 4, 2, 0)) x) (am_br 73 (am_lf 72 (some (.iconst 5, 1, 0)) x) (am_lf 73 (some (.if_icmp .ge 83, 3, 0)) x) x) x) x) (am_br 81 (am_br 77 (am_lf 76 (some (.aload_n 0, 1, 0)) x) (am_br 80 (am_lf 77 (some (.getfield 39, 3, 12140889)) x) (am_lf 80 (some (.iconst 5, 1, 0)) x) x) x) (am_br 85 (am_br 82 (am_lf 81 (some (.aload_n 0, 1, 0)) x) (am_lf 82 (some (.getfield 135, 3, 12120887)) x) x) (am_br 86 (am_lf 85 (some (.imul, 1, 0)) x) (am_lf 86 (some (.iload 4, 2, 0)) x) x) x) x) x) x) x) (am_br 130 (am_br 109 (am_br 96 (am_br 93 (am_br 89 (am_lf 88 (some (.iadd, 1, 0)) x) (am_br 90 (am_lf 89 (some (.aload_n 0, 1, 0)) x) (am_lf 90 (some (.getfield 39, 3, 12140889)) x) x) x) (am_br 94 (am_lf 93 (some (.iconst 5, 1, 0)) x) (am_br 95 (am_lf 94 (some (.iload_n 1, 1, 0)) x) (am_lf 95 (some (.imul, 1, 0)) x) x) x) x) (am_br 100 (am_br 98 (am_lf 96 (some (.iload 4, 2, 0)) x) (am_br 99 (am_lf 98 (some (.iadd, 1, 0)) x) (am_lf 99 (some (.baload, 1, 0)) x) x) x) (am_br 105 (am_br 103 (am_lf 100 (some (.ifCond .ne 9, 3, 0)) x) (am_lf 103 (some (.iload 4, 2, 0)) x) x) (am_br 106 (am_lf 105 (some (.iload_n 2, 1, 0)) x) (am_lf 106 (some (.if_icmp .ne 7, 3, 0)) x) x) x) x) x) (am_br 119 (am_br 114 (am_br 110 (am_lf 109 (some (.iconst 1, 1, 0)) x) (am_br 113 (am_lf 110 (some (.goto 4, 3, 0)) x) (am_lf 113 (some (.iconst 0, 1, 0)) x) x) x) (am_br 115 (am_lf 114 (some (.bastore, 1, 0)) x) (am_br 116 (am_lf 115 (some (.aload_n 0, 1, 0)) x) (am_lf 116 (some (.getfield 42, 3, 12150890)) x) x) x) x) (am_br 124 (am_br 120 (am_lf 119 (some (.iconst 5, 1, 0)) x) (am_br 121 (am_lf 120 (some (.aload_n 0, 1, 0)) x) (am_lf 121 (some (.getfield 135, 3, 12120887)) x) x) x) (am_br 127 (am_br 125 (am_lf 124 (some (.imul, 1, 0)) x) (am_lf 125 (some (.iload 4, 2, 0)) x) x) (am_br 128 (am_lf 127 (some (.iadd, 1, 0)) x) (am_lf 128 (some (.iload 4, 2, 0)) x) x) x) x) x) x) (am_br 150 (am_br 142 (am_br 135 (am_br 131 (am_lf 130 (some (.iload_n 2, 1, 0)) x) (am_br 134 (am_lf 131 (some (.if_icmp .ne 7, 3, 0)) x) (am_lf 134 (some (.iload_n 3, 1, 0)) x) x) x) (am_br 138 (am_lf 135 (some (.goto 14, 3, 0)) x) (am_br 139 (am_lf 138 (some (.aload_n 0, 1, 0)) x) (am_lf 139 (some (.getfield 42, 3, 12150890)) x) x) x) x) (am_br 145 (am_br 143 (am_lf 142 (some (.iconst 5, 1, 0)) x) (am_br 144 (am_lf 143 (some (.iload_n 1, 1, 0)) x) (am_lf 144 (some (.imul, 1, 0)) x) x) x) (am_br 148 (am_br 147 (am_lf 145 (some (.iload 4, 2, 0)) x) (am_lf 147 (some (.iadd, 1, 0)) x) x) (am_br 149 (am_lf 148 (some (.iaload, 1, 0)) x) (am_lf 149 (some (.iastore, 1, 0)) x) x) x) x) x) (am_br 162 (am_br 157 (am_br 153 (am_lf 150 (some (.iinc 4 1, 3, 0)) x) (am_br 156 (am_lf 153 (some (.goto (-83), 3, 0)) x) (am_lf 156 (some (.aload_n 0, 1, 0)) x) x) x) (am_br 158 (am_lf 157 (some (.dup, 1, 0)) x) (am_br 161 (am_lf 158 (some (.getfield 135, 3, 12120887)) x) (am_lf 161 (some (.iconst 1, 1, 0)) x) x) x) x) (am_br 167 (am_br 163 (am_lf 162 (some (.iadd, 1, 0)) x) (am_br 166 (am_lf 163 (some (.putfield 135, 3, 12120887)) x) (am_lf 166 (some (.aload_n 0, 1, 0)) x) x) x) (am_br 171 (am_br 170 (am_lf 167 (some (.getfield 135, 3, 12120887)) x) (am_lf 170 (some (.iconst 1, 1, 0)) x) x) (am_br 172 (am_lf 171 (some (.isub, 1, 0)) x) (am_lf 172 (some (.ireturn, 1, 0)) x) x) x) x) x) x) x) x
def am_i_Model_same : Nat → Option (ClassFile.Instr × Nat × Nat) := fun x => am_br 64 (am_br 34 (am_br 18 (am_br 7 (am_br 2 (am_br 1 (am_lf 0 (some (.aload_n 0, 1, 0)) x) (am_lf 1 (some (.iconst 0, 1, 0)) x) x) (am_br 5 (am_lf 2 (some (.putfield 111, 3, 12000875)) x) (am_br 6 (am_lf 5 (some (.aload_n 0, 1, 0)) x) (am_lf 6 (some (.iload_n 1, 1, 0)) x) x) x) x) (am_br 13 (am_br 10 (am_lf 7 (some (.invokevirtual 227, 3, 1421122)) x) (am_lf 10 (some (.ifCond .eq 11, 3, 0)) x) x) (am_br 14 (am_lf 13 (some (.aload_n 0, 1, 0)) x) (am_br 15 (am_lf 14 (some (.iload_n 2, 1, 0)) x) (am_lf 15 (some (.invokevirtual 227, 3, 1421122)) x) x) x) x) x) (am_br 27 (am_br 22 (am_br 21 (am_lf 18 (some (.ifCond .ne 5, 3, 0)) x) (am_lf 21 (some (.iconst (-1), 1, 0)) x) x) (am_br 23 (am_lf 22 (some (.ireturn, 1, 0)) x) (am_br 24 (am_lf 23 (some (.aload_n 0, 1, 0)) x) (am_lf 24 (some (.getfield 36, 3, 12130888)) x) x) x) x) (am_br 29 (am_br 28 (am_lf 27 (some (.iload_n 1, 1, 0)) x) (am_lf 28 (some (.iaload, 1, 0)) x) x) (am_br 30 (am_lf 29 (some (.aload_n 0, 1, 0)) x) (am_br 33 (am_lf 30 (some (.getfield 36, 3, 12130888)) x) (am_lf 33 (some (.iload_n 2, 1, 0)) x) x) x) x) x) x) (am_br 50 (am_br 43 (am_br 38 (am_br 35 (am_lf 34 (some (.iaload, 1, 0)) x) (am_lf 35 (some (.if_icmp .ne 7, 3, 0)) x) x) (am_br 39 (am_lf 38 (some (.iconst 1, 1, 0)) x) (am_br 42 (am_lf 39 (some (.goto 4, 3, 0)) x) (am_lf 42 (some (.iconst 0, 1, 0)) x) x) x) x) (am_br 45 (am_br 44 (am_lf 43 (some (.istore_n 3, 1, 0)) x) (am_lf 44 (some (.iconst 0, 1, 0)) x) x) (am_br 47 (am_lf 45 (some (.istore 4, 2, 0)) x) (am_br 49 (am_lf 47 (some (.iload 4, 2, 0)) x) (am_lf 49 (some (.iconst 5, 1, 0)) x) x) x) x) x) (am_br 58 (am_br 54 (am_br 53 (am_lf 50 (some (.if_icmp .ge 77, 3, 0)) x) (am_lf 53 (some (.iconst 5, 1, 0)) x) x) (am_br 55 (am_lf 54 (some (.iload_n 1, 1, 0)) x) (am_br 56 (am_lf 55 (some (.imul, 1, 0)) x) (am_lf 56 (some (.iload 4, 2, 0)) x) x) x) x) (am_br 61 (am_br 59 (am_lf 58 (some (.iadd, 1, 0)) x) (am_lf 59 (some (.istore 5, 2, 0)) x) x) (am_br 62 (am_lf 61 (some (.iconst 5, 1, 0)) x) (am_br 63 (am_lf 62 (some (.iload_n 2, 1, 0)) x) (am_lf 63 (some (.imul, 1, 0)) x) x) x) x) x) x) x) (am_br 101 (am_br 81 (am_br 71 (am_br 67 (am_br 66 (am_lf 64 (some (.iload 4, 2, 0)) x) (am_lf 66 (some (.iadd, 1, 0)) x) x) (am_br 69 (am_lf 67 (some (.istore 6, 2, 0)) x) (am_br 70 (am_lf 69 (some (.iload_n 3, 1, 0)) x) (am_lf 70 (some (.aload_n 0, 1, 0)) x) x) x) x) (am_br 76 (am_br 74 (am_lf 71 (some (.getfield 39, 3, 12140889)) x) (am_lf 74 (some (.iload 5, 2, 0)) x) x) (am_br 77 (am_lf 76 (some (.baload, 1, 0)) x) (am_br 78 (am_lf 77 (some (.aload_n 0, 1, 0)) x) (am_lf 78 (some (.getfield 39, 3, 12140889)) x) x) x) x) x) (am_br 91 (am_br 84 (am_br 83 (am_lf 81 (some (.iload 6, 2, 0)) x) (am_lf 83 (some (.baload, 1, 0)) x) x) (am_br 87 (am_lf 84 (some (.if_icmp .ne 34, 3, 0)) x) (am_br 88 (am_lf 87 (some (.aload_n 0, 1, 0)) x) (am_lf 88 (some (.getfield 39, 3, 12140889)) x) x) x) x) (am_br 94 (am_br 93 (am_lf 91 (some (.iload 5, 2, 0)) x) (am_lf 93 (some (.baload, 1, 0)) x) x) (am_br 97 (am_lf 94 (some (.ifCond .eq 20, 3, 0)) x) (am_br 98 (am_lf 97 (some (.aload_n 0, 1, 0)) x) (am_lf 98 (some (.getfield 42, 3, 12150890)) x) x) x) x) x) x) (am_br 119 (am_br 110 (am_br 104 (am_br 103 (am_lf 101 (some (.iload 5, 2, 0)) x) (am_lf 103 (some (.iaload, 1, 0)) x) x) (am_br 105 (am_lf 104 (some (.aload_n 0, 1, 0)) x) (am_br 108 (am_lf 105 (some (.getfield 42, 3, 12150890)) x) (am_lf 108 (some (.iload 6, 2, 0)) x) x) x) x) (am_br 114 (am_br 111 (am_lf 110 (some (.iaload, 1, 0)) x) (am_lf 111 (some (.if_icmp .ne 7, 3, 0)) x) x) (am_br 115 (am_lf 114 (some (.iconst 1, 1, 0)) x) (am_br 118 (am_lf 115 (some (.goto 4, 3, 0)) x) (am_lf 118 (some (.iconst 0, 1, 0)) x) x) x) x) x) (am_br 128 (am_br 121 (am_br 120 (am_lf 119 (some (.iand, 1, 0)) x) (am_lf 120 (some (.istore_n 3, 1, 0)) x) x) (am_br 124 (am_lf 121 (some (.iinc 4 1, 3, 0)) x) (am_br 127 (am_lf 124 (some (.goto (-77), 3, 0)) x) (am_lf 127 (some (.iload_n 3, 1, 0)) x) x) x) x) (am_br 132 (am_br 131 (am_lf 128 (some (.ifCond .eq 7, 3, 0)) x) (am_lf 131 (some (.iconst 1, 1, 0)) x) x) (am_br 135 (am_lf 132 (some (.goto 4, 3, 0)) x) (am_br 136 (am_lf 135 (some (.iconst 0, 1, 0)) x) (am_lf 136 (some (.ireturn, 1, 0)) x) x) x) x) x) x) x) x
def am_i_Model_calls : Nat → Option (ClassFile.Instr × Nat × Nat) := fun x => am_br 33 (am_br 15 (am_br 5 (am_br 2 (am_br 1 (am_lf 0 (some (.iconst 0, 1, 0)) x) (am_lf 1 (some (.istore_n 2, 1, 0)) x) x) (am_br 3 (am_lf 2 (some (.iconst 0, 1, 0)) x) (am_br 4 (am_lf 3 (some (.istore_n 3, 1, 0)) x) (am_lf 4 (some (.iload_n 3, 1, 0)) x) x) x) x) (am_br 10 (am_br 6 (am_lf 5 (some (.iconst 5, 1, 0)) x) (am_br 9 (am_lf 6 (some (.if_icmp .ge 56, 3, 0)) x) (am_lf 9 (some (.aload_n 0, 1, 0)) x) x) x) (am_br 13 (am_lf 10 (some (.getfield 39, 3, 12140889)) x) (am_br 14 (am_lf 13 (some (.iconst 5, 1, 0)) x) (am_lf 14 (some (.iload_n 1, 1, 0)) x) x) x) x) x) (am_br 23 (am_br 18 (am_br 16 (am_lf 15 (some (.imul, 1, 0)) x) (am_br 17 (am_lf 16 (some (.iload_n 3, 1, 0)) x) (am_lf 17 (some (.iadd, 1, 0)) x) x) x) (am_br 19 (am_lf 18 (some (.baload, 1, 0)) x) (am_br 22 (am_lf 19 (some (.ifCond .eq 22, 3, 0)) x) (am_lf 22 (some (.aload_n 0, 1, 0)) x) x) x) x) (am_br 28 (am_br 26 (am_lf 23 (some (.getfield 69, 3, 12300905)) x) (am_br 27 (am_lf 26 (some (.iload_n 3, 1, 0)) x) (am_lf 27 (some (.aload_n 0, 1, 0)) x) x) x) (am_br 31 (am_lf 28 (some (.getfield 42, 3, 12150890)) x) (am_br 32 (am_lf 31 (some (.iconst 5, 1, 0)) x) (am_lf 32 (some (.iload_n 1, 1, 0)) x) x) x) x) x) x) (am_br 51 (am_br 41 (am_br 36 (am_br 34 (am_lf 33 (some (.imul, 1, 0)) x) (am_br 35 (am_lf 34 (some (.iload_n 3, 1, 0)) x) (am_lf 35 (some (.iadd, 1, 0)) x) x) x) (am_br 37 (am_lf 36 (some (.iaload, 1, 0)) x) (am_br 38 (am_lf 37 (some (.iastore, 1, 0)) x) (am_lf 38 (some (.goto 18, 3, 0)) x) x) x) x) (am_br 46 (am_br 42 (am_lf 41 (some (.aload_n 0, 1, 0)) x) (am_br 45 (am_lf 42 (some (.getfield 69, 3, 12300905)) x) (am_lf 45 (some (.iload_n 3, 1, 0)) x) x) x) (am_br 47 (am_lf 46 (some (.aload_n 0, 1, 0)) x) (am_br 50 (am_lf 47 (some (.getfield 78, 3, 12370912)) x) (am_lf 50 (some (.iload_n 2, 1, 0)) x) x) x) x) x) (am_br 63 (am_br 56 (am_br 52 (am_lf 51 (some (.iaload, 1, 0)) x) (am_br 53 (am_lf 52 (some (.iastore, 1, 0)) x) (am_lf 53 (some (.iinc 2 1, 3, 0)) x) x) x) (am_br 59 (am_lf 56 (some (.iinc 3 1, 3, 0)) x) (am_br 62 (am_lf 59 (some (.goto (-55), 3, 0)) x) (am_lf 62 (some (.aload_n 0, 1, 0)) x) x) x) x) (am_br 68 (am_br 64 (am_lf 63 (some (.aload_n 0, 1, 0)) x) (am_br 67 (am_lf 64 (some (.getfield 36, 3, 12130888)) x) (am_lf 67 (some (.iload_n 1, 1, 0)) x) x) x) (am_br 69 (am_lf 68 (some (.iaload, 1, 0)) x) (am_br 72 (am_lf 69 (some (.invokevirtual 221, 3, 1371055)) x) (am_lf 72 (some (.ireturn, 1, 0)) x) x) x) x) x) x) x
def am_i_Model_call : Nat → Option (ClassFile.Instr × Nat × Nat) := fun x => am_br 42 (am_br 21 (am_br 10 (am_br 5 (am_br 1 (am_lf 0 (some (.aload_n 0, 1, 0)) x) (am_br 2 (am_lf 1 (some (.iconst 0, 1, 0)) x) (am_lf 2 (some (.putfield 111, 3, 12000875)) x) x) x) (am_br 6 (am_lf 5 (some (.aload_n 0, 1, 0)) x) (am_br 7 (am_lf 6 (some (.iload_n 1, 1, 0)) x) (am_lf 7 (some (.invokevirtual 227, 3, 1421122)) x) x) x) x) (am_br 15 (am_br 13 (am_lf 10 (some (.ifCond .ne 5, 3, 0)) x) (am_br 14 (am_lf 13 (some (.iconst (-1), 1, 0)) x) (am_lf 14 (some (.ireturn, 1, 0)) x) x) x) (am_br 16 (am_lf 15 (some (.aload_n 0, 1, 0)) x) (am_br 19 (am_lf 16 (some (.getfield 96, 3, 12100885)) x) (am_lf 19 (some (.bipush 60, 2, 0)) x) x) x) x) x) (am_br 32 (am_br 27 (am_br 24 (am_lf 21 (some (.if_icmp .ne 6, 3, 0)) x) (am_br 26 (am_lf 24 (some (.bipush (-3), 2, 0)) x) (am_lf 26 (some (.ireturn, 1, 0)) x) x) x) (am_br 28 (am_lf 27 (some (.aload_n 0, 1, 0)) x) (am_br 31 (am_lf 28 (some (.invokevirtual 218, 3, 1381051)) x) (am_lf 31 (some (.aload_n 0, 1, 0)) x) x) x) x) (am_br 37 (am_br 35 (am_lf 32 (some (.getfield 78, 3, 12370912)) x) (am_br 36 (am_lf 35 (some (.iconst 0, 1, 0)) x) (am_lf 36 (some (.iload_n 2, 1, 0)) x) x) x) (am_br 38 (am_lf 37 (some (.iastore, 1, 0)) x) (am_br 39 (am_lf 38 (some (.aload_n 0, 1, 0)) x) (am_lf 39 (some (.getfield 78, 3, 12370912)) x) x) x) x) x) x) (am_br 60 (am_br 50 (am_br 45 (am_br 43 (am_lf 42 (some (.iconst 1, 1, 0)) x) (am_br 44 (am_lf 43 (some (.iload_n 3, 1, 0)) x) (am_lf 44 (some (.iastore, 1, 0)) x) x) x) (am_br 46 (am_lf 45 (some (.aload_n 0, 1, 0)) x) (am_br 49 (am_lf 46 (some (.getfield 78, 3, 12370912)) x) (am_lf 49 (some (.iconst 2, 1, 0)) x) x) x) x) (am_br 54 (am_br 52 (am_lf 50 (some (.iload 4, 2, 0)) x) (am_br 53 (am_lf 52 (some (.iastore, 1, 0)) x) (am_lf 53 (some (.aload_n 0, 1, 0)) x) x) x) (am_br 57 (am_lf 54 (some (.getfield 78, 3, 12370912)) x) (am_br 58 (am_lf 57 (some (.iconst 3, 1, 0)) x) (am_lf 58 (some (.iload 5, 2, 0)) x) x) x) x) x) (am_br 69 (am_br 65 (am_br 61 (am_lf 60 (some (.iastore, 1, 0)) x) (am_br 62 (am_lf 61 (some (.aload_n 0, 1, 0)) x) (am_lf 62 (some (.getfield 78, 3, 12370912)) x) x) x) (am_br 66 (am_lf 65 (some (.iconst 4, 1, 0)) x) (am_br 68 (am_lf 66 (some (.iload 6, 2, 0)) x) (am_lf 68 (some (.iastore, 1, 0)) x) x) x) x) (am_br 72 (am_br 70 (am_lf 69 (some (.aload_n 0, 1, 0)) x) (am_br 71 (am_lf 70 (some (.aload_n 0, 1, 0)) x) (am_lf 71 (some (.iload_n 1, 1, 0)) x) x) x) (am_br 75 (am_lf 72 (some (.invokevirtual 231, 3, 1461134)) x) (am_br 78 (am_lf 75 (some (.invokevirtual 224, 3, 1401102)) x) (am_lf 78 (some (.ireturn, 1, 0)) x) x) x) x) x) x) x
def am_i_Model_isMacro : Nat → Option (ClassFile.Instr × Nat × Nat) := fun x => am_br 6 (am_br 2 (am_br 1 (am_lf 0 (some (.iload_n 1, 1, 0)) x) (am_lf 1 (some (.iconst 0, 1, 0)) x) x) (am_br 3 (am_lf 2 (some (.aload_n 0, 1, 0)) x) (am_lf 3 (some (.getfield 138, 3, 12160891)) x) x) x) (am_br 8 (am_br 7 (am_lf 6 (some (.iconst 1, 1, 0)) x) (am_lf 7 (some (.isub, 1, 0)) x) x) (am_br 11 (am_lf 8 (some (.invokestatic 114, 3, 1131012)) x) (am_lf 11 (some (.ireturn, 1, 0)) x) x) x) x
def am_i_Model_macro : Nat → Option (ClassFile.Instr × Nat × Nat) := fun x => am_br 78 (am_br 35 (am_br 16 (am_br 7 (am_br 2 (am_br 1 (am_lf 0 (some (.aload_n 0, 1, 0)) x) (am_lf 1 (some (.iconst 0, 1, 0)) x) x) (am_br 5 (am_lf 2 (some (.putfield 111, 3, 12000875)) x) (am_br 6 (am_lf 5 (some (.iload_n 1, 1, 0)) x) (am_lf 6 (some (.iconst 0, 1, 0)) x) x) x) x) (am_br 11 (am_br 8 (am_lf 7 (some (.iconst 3, 1, 0)) x) (am_lf 8 (some (.invokestatic 114, 3, 1131012)) x) x) (am_br 14 (am_lf 11 (some (.ifCond .eq 54, 3, 0)) x) (am_br 15 (am_lf 14 (some (.iload_n 1, 1, 0)) x) (am_lf 15 (some (.iconst 1, 1, 0)) x) x) x) x) x) (am_br 26 (am_br 20 (am_br 19 (am_lf 16 (some (.if_icmp .ne 13, 3, 0)) x) (am_lf 19 (some (.iload_n 2, 1, 0)) x) x) (am_br 21 (am_lf 20 (some (.iconst 0, 1, 0)) x) (am_br 23 (am_lf 21 (some (.bipush 9, 2, 0)) x) (am_lf 23 (some (.invokestatic 114, 3, 1131012)) x) x) x) x) (am_br 30 (am_br 29 (am_lf 26 (some (.ifCond .eq 39, 3, 0)) x) (am_lf 29 (some (.iload_n 1, 1, 0)) x) x) (am_br 31 (am_lf 30 (some (.iconst 2, 1, 0)) x) (am_br 34 (am_lf 31 (some (.if_icmp .ne 36, 3, 0)) x) (am_lf 34 (some (.iload_n 2, 1, 0)) x) x) x) x) x) x) (am_br 56 (am_br 45 (am_br 38 (am_br 36 (am_lf 35 (some (.iconst 0, 1, 0)) x) (am_lf 36 (some (.bipush 9, 2, 0)) x) x) (am_br 41 (am_lf 38 (some (.invokestatic 114, 3, 1131012)) x) (am_br 44 (am_lf 41 (some (.ifCond .eq 24, 3, 0)) x) (am_lf 44 (some (.iload_n 3, 1, 0)) x) x) x) x) (am_br 48 (am_br 46 (am_lf 45 (some (.iconst 0, 1, 0)) x) (am_lf 46 (some (.bipush 9, 2, 0)) x) x) (am_br 51 (am_lf 48 (some (.invokestatic 114, 3, 1131012)) x) (am_br 54 (am_lf 51 (some (.ifCond .eq 14, 3, 0)) x) (am_lf 54 (some (.iload 4, 2, 0)) x) x) x) x) x) (am_br 66 (am_br 59 (am_br 57 (am_lf 56 (some (.iconst 0, 1, 0)) x) (am_lf 57 (some (.bipush 9, 2, 0)) x) x) (am_br 62 (am_lf 59 (some (.invokestatic 114, 3, 1131012)) x) (am_br 65 (am_lf 62 (some (.ifCond .ne 5, 3, 0)) x) (am_lf 65 (some (.iconst (-1), 1, 0)) x) x) x) x) (am_br 71 (am_br 67 (am_lf 66 (some (.ireturn, 1, 0)) x) (am_br 68 (am_lf 67 (some (.aload_n 0, 1, 0)) x) (am_lf 68 (some (.getfield 138, 3, 12160891)) x) x) x) (am_br 73 (am_lf 71 (some (.bipush 20, 2, 0)) x) (am_br 76 (am_lf 73 (some (.if_icmp .ne 6, 3, 0)) x) (am_lf 76 (some (.bipush (-3), 2, 0)) x) x) x) x) x) x) x) (am_br 113 (am_br 94 (am_br 87 (am_br 80 (am_br 79 (am_lf 78 (some (.ireturn, 1, 0)) x) (am_lf 79 (some (.aload_n 0, 1, 0)) x) x) (am_br 83 (am_lf 80 (some (.getfield 45, 3, 12170892)) x) (am_br 84 (am_lf 83 (some (.aload_n 0, 1, 0)) x) (am_lf 84 (some (.getfield 138, 3, 12160891)) x) x) x) x) (am_br 89 (am_br 88 (am_lf 87 (some (.iload_n 1, 1, 0)) x) (am_lf 88 (some (.iastore, 1, 0)) x) x) (am_br 90 (am_lf 89 (some (.aload_n 0, 1, 0)) x) (am_br 93 (am_lf 90 (some (.getfield 48, 3, 12180893)) x) (am_lf 93 (some (.aload_n 0, 1, 0)) x) x) x) x) x) (am_br 103 (am_br 98 (am_br 97 (am_lf 94 (some (.getfield 138, 3, 12160891)) x) (am_lf 97 (some (.iload_n 2, 1, 0)) x) x) (am_br 99 (am_lf 98 (some (.iastore, 1, 0)) x) (am_br 100 (am_lf 99 (some (.aload_n 0, 1, 0)) x) (am_lf 100 (some (.getfield 51, 3, 12190894)) x) x) x) x) (am_br 108 (am_br 104 (am_lf 103 (some (.aload_n 0, 1, 0)) x) (am_br 107 (am_lf 104 (some (.getfield 138, 3, 12160891)) x) (am_lf 107 (some (.iload_n 3, 1, 0)) x) x) x) (am_br 109 (am_lf 108 (some (.iastore, 1, 0)) x) (am_br 110 (am_lf 109 (some (.aload_n 0, 1, 0)) x) (am_lf 110 (some (.getfield 54, 3, 12200895)) x) x) x) x) x) x) (am_br 130 (am_br 121 (am_br 117 (am_br 114 (am_lf 113 (some (.aload_n 0, 1, 0)) x) (am_lf 114 (some (.getfield 138, 3, 12160891)) x) x) (am_br 119 (am_lf 117 (some (.iload 4, 2, 0)) x) (am_br 120 (am_lf 119 (some (.iastore, 1, 0)) x) (am_lf 120 (some (.aload_n 0, 1, 0)) x) x) x) x) (am_br 125 (am_br 124 (am_lf 121 (some (.getfield 57, 3, 12210896)) x) (am_lf 124 (some (.aload_n 0, 1, 0)) x) x) (am_br 128 (am_lf 125 (some (.getfield 138, 3, 12160891)) x) (am_br 129 (am_lf 128 (some (.iconst 0, 1, 0)) x) (am_lf 129 (some (.iastore, 1, 0)) x) x) x) x) x) (am_br 137 (am_br 132 (am_br 131 (am_lf 130 (some (.aload_n 0, 1, 0)) x) (am_lf 131 (some (.dup, 1, 0)) x) x) (am_br 135 (am_lf 132 (some (.getfield 138, 3, 12160891)) x) (am_br 136 (am_lf 135 (some (.iconst 1, 1, 0)) x) (am_lf 136 (some (.iadd, 1, 0)) x) x) x) x) (am_br 144 (am_br 140 (am_lf 137 (some (.putfield 138, 3, 12160891)) x) (am_br 141 (am_lf 140 (some (.aload_n 0, 1, 0)) x) (am_lf 141 (some (.getfield 138, 3, 12160891)) x) x) x) (am_br 145 (am_lf 144 (some (.iconst 1, 1, 0)) x) (am_br 146 (am_lf 145 (some (.isub, 1, 0)) x) (am_lf 146 (some (.ireturn, 1, 0)) x) x) x) x) x) x) x) x
def am_i_Model_part : Nat → Option (ClassFile.Instr × Nat × Nat) := fun x => am_br 67 (am_br 36 (am_br 18 (am_br 7 (am_br 2 (am_br 1 (am_lf 0 (some (.aload_n 0, 1, 0)) x) (am_lf 1 (some (.iconst 0, 1, 0)) x) x) (am_br 5 (am_lf 2 (some (.putfield 111, 3, 12000875)) x) (am_br 6 (am_lf 5 (some (.aload_n 0, 1, 0)) x) (am_lf 6 (some (.iload_n 1, 1, 0)) x) x) x) x) (am_br 13 (am_br 10 (am_lf 7 (some (.invokevirtual 234, 3, 1481146)) x) (am_lf 10 (some (.ifCond .eq 11, 3, 0)) x) x) (am_br 14 (am_lf 13 (some (.aload_n 0, 1, 0)) x) (am_br 15 (am_lf 14 (some (.iload_n 2, 1, 0)) x) (am_lf 15 (some (.invokevirtual 227, 3, 1421122)) x) x) x) x) x) (am_br 27 (am_br 22 (am_br 21 (am_lf 18 (some (.ifCond .ne 5, 3, 0)) x) (am_lf 21 (some (.iconst (-1), 1, 0)) x) x) (am_br 23 (am_lf 22 (some (.ireturn, 1, 0)) x) (am_br 24 (am_lf 23 (some (.aload_n 0, 1, 0)) x) (am_lf 24 (some (.getfield 57, 3, 12210896)) x) x) x) x) (am_br 29 (am_br 28 (am_lf 27 (some (.iload_n 1, 1, 0)) x) (am_lf 28 (some (.iaload, 1, 0)) x) x) (am_br 31 (am_lf 29 (some (.bipush 8, 2, 0)) x) (am_br 34 (am_lf 31 (some (.if_icmp .ne 6, 3, 0)) x) (am_lf 34 (some (.bipush (-3), 2, 0)) x) x) x) x) x) x) (am_br 50 (am_br 42 (am_br 39 (am_br 37 (am_lf 36 (some (.ireturn, 1, 0)) x) (am_lf 37 (some (.bipush 8, 2, 0)) x) x) (am_br 40 (am_lf 39 (some (.iload_n 1, 1, 0)) x) (am_br 41 (am_lf 40 (some (.imul, 1, 0)) x) (am_lf 41 (some (.aload_n 0, 1, 0)) x) x) x) x) (am_br 46 (am_br 45 (am_lf 42 (some (.getfield 57, 3, 12210896)) x) (am_lf 45 (some (.iload_n 1, 1, 0)) x) x) (am_br 47 (am_lf 46 (some (.iaload, 1, 0)) x) (am_br 48 (am_lf 47 (some (.iadd, 1, 0)) x) (am_lf 48 (some (.istore 7, 2, 0)) x) x) x) x) x) (am_br 58 (am_br 54 (am_br 51 (am_lf 50 (some (.aload_n 0, 1, 0)) x) (am_lf 51 (some (.getfield 60, 3, 12220897)) x) x) (am_br 56 (am_lf 54 (some (.iload 7, 2, 0)) x) (am_br 57 (am_lf 56 (some (.iload_n 2, 1, 0)) x) (am_lf 57 (some (.iastore, 1, 0)) x) x) x) x) (am_br 63 (am_br 59 (am_lf 58 (some (.aload_n 0, 1, 0)) x) (am_br 62 (am_lf 59 (some (.getfield 63, 3, 12230898)) x) (am_lf 62 (some (.iconst 4, 1, 0)) x) x) x) (am_br 65 (am_lf 63 (some (.iload 7, 2, 0)) x) (am_br 66 (am_lf 65 (some (.imul, 1, 0)) x) (am_lf 66 (some (.iload_n 3, 1, 0)) x) x) x) x) x) x) x) (am_br 95 (am_br 81 (am_br 75 (am_br 69 (am_br 68 (am_lf 67 (some (.iastore, 1, 0)) x) (am_lf 68 (some (.aload_n 0, 1, 0)) x) x) (am_br 72 (am_lf 69 (some (.getfield 63, 3, 12230898)) x) (am_br 73 (am_lf 72 (some (.iconst 4, 1, 0)) x) (am_lf 73 (some (.iload 7, 2, 0)) x) x) x) x) (am_br 77 (am_br 76 (am_lf 75 (some (.imul, 1, 0)) x) (am_lf 76 (some (.iconst 1, 1, 0)) x) x) (am_br 78 (am_lf 77 (some (.iadd, 1, 0)) x) (am_br 80 (am_lf 78 (some (.iload 4, 2, 0)) x) (am_lf 80 (some (.iastore, 1, 0)) x) x) x) x) x) (am_br 89 (am_br 85 (am_br 82 (am_lf 81 (some (.aload_n 0, 1, 0)) x) (am_lf 82 (some (.getfield 63, 3, 12230898)) x) x) (am_br 86 (am_lf 85 (some (.iconst 4, 1, 0)) x) (am_br 88 (am_lf 86 (some (.iload 7, 2, 0)) x) (am_lf 88 (some (.imul, 1, 0)) x) x) x) x) (am_br 91 (am_br 90 (am_lf 89 (some (.iconst 2, 1, 0)) x) (am_lf 90 (some (.iadd, 1, 0)) x) x) (am_br 93 (am_lf 91 (some (.iload 5, 2, 0)) x) (am_br 94 (am_lf 93 (some (.iastore, 1, 0)) x) (am_lf 94 (some (.aload_n 0, 1, 0)) x) x) x) x) x) x) (am_br 111 (am_br 103 (am_br 99 (am_br 98 (am_lf 95 (some (.getfield 63, 3, 12230898)) x) (am_lf 98 (some (.iconst 4, 1, 0)) x) x) (am_br 101 (am_lf 99 (some (.iload 7, 2, 0)) x) (am_br 102 (am_lf 101 (some (.imul, 1, 0)) x) (am_lf 102 (some (.iconst 3, 1, 0)) x) x) x) x) (am_br 106 (am_br 104 (am_lf 103 (some (.iadd, 1, 0)) x) (am_lf 104 (some (.iload 6, 2, 0)) x) x) (am_br 107 (am_lf 106 (some (.iastore, 1, 0)) x) (am_br 108 (am_lf 107 (some (.aload_n 0, 1, 0)) x) (am_lf 108 (some (.getfield 57, 3, 12210896)) x) x) x) x) x) (am_br 116 (am_br 113 (am_br 112 (am_lf 111 (some (.iload_n 1, 1, 0)) x) (am_lf 112 (some (.dup2, 1, 0)) x) x) (am_br 114 (am_lf 113 (some (.iaload, 1, 0)) x) (am_br 115 (am_lf 114 (some (.iconst 1, 1, 0)) x) (am_lf 115 (some (.iadd, 1, 0)) x) x) x) x) (am_br 121 (am_br 117 (am_lf 116 (some (.iastore, 1, 0)) x) (am_br 118 (am_lf 117 (some (.aload_n 0, 1, 0)) x) (am_lf 118 (some (.getfield 57, 3, 12210896)) x) x) x) (am_br 122 (am_lf 121 (some (.iload_n 1, 1, 0)) x) (am_br 123 (am_lf 122 (some (.iaload, 1, 0)) x) (am_lf 123 (some (.ireturn, 1, 0)) x) x) x) x) x) x) x) x
def am_i_Model_nest : Nat → Option (ClassFile.Instr × Nat × Nat) := fun x => am_br 41 (am_br 18 (am_br 10 (am_br 5 (am_br 1 (am_lf 0 (some (.aload_n 0, 1, 0)) x) (am_br 2 (am_lf 1 (some (.iconst 0, 1, 0)) x) (am_lf 2 (some (.putfield 111, 3, 12000875)) x) x) x) (am_br 6 (am_lf 5 (some (.aload_n 0, 1, 0)) x) (am_br 7 (am_lf 6 (some (.iload_n 1, 1, 0)) x) (am_lf 7 (some (.invokevirtual 234, 3, 1481146)) x) x) x) x) (am_br 15 (am_br 13 (am_lf 10 (some (.ifCond .eq 14, 3, 0)) x) (am_br 14 (am_lf 13 (some (.iload_n 2, 1, 0)) x) (am_lf 14 (some (.iconst 0, 1, 0)) x) x) x) (am_br 16 (am_lf 15 (some (.iload_n 1, 1, 0)) x) (am_br 17 (am_lf 16 (some (.iconst 1, 1, 0)) x) (am_lf 17 (some (.isub, 1, 0)) x) x) x) x) x) (am_br 30 (am_br 25 (am_br 21 (am_lf 18 (some (.invokestatic 114, 3, 1131012)) x) (am_br 24 (am_lf 21 (some (.ifCond .ne 5, 3, 0)) x) (am_lf 24 (some (.iconst (-1), 1, 0)) x) x) x) (am_br 26 (am_lf 25 (some (.ireturn, 1, 0)) x) (am_br 27 (am_lf 26 (some (.aload_n 0, 1, 0)) x) (am_lf 27 (some (.getfield 57, 3, 12210896)) x) x) x) x) (am_br 34 (am_br 31 (am_lf 30 (some (.iload_n 1, 1, 0)) x) (am_br 32 (am_lf 31 (some (.iaload, 1, 0)) x) (am_lf 32 (some (.bipush 8, 2, 0)) x) x) x) (am_br 39 (am_br 37 (am_lf 34 (some (.if_icmp .ne 6, 3, 0)) x) (am_lf 37 (some (.bipush (-3), 2, 0)) x) x) (am_br 40 (am_lf 39 (some (.ireturn, 1, 0)) x) (am_lf 40 (some (.aload_n 0, 1, 0)) x) x) x) x) x) x) (am_br 60 (am_br 52 (am_br 47 (am_br 44 (am_lf 41 (some (.getfield 60, 3, 12220897)) x) (am_br 46 (am_lf 44 (some (.bipush 8, 2, 0)) x) (am_lf 46 (some (.iload_n 1, 1, 0)) x) x) x) (am_br 48 (am_lf 47 (some (.imul, 1, 0)) x) (am_br 49 (am_lf 48 (some (.aload_n 0, 1, 0)) x) (am_lf 49 (some (.getfield 57, 3, 12210896)) x) x) x) x) (am_br 55 (am_br 53 (am_lf 52 (some (.iload_n 1, 1, 0)) x) (am_br 54 (am_lf 53 (some (.iaload, 1, 0)) x) (am_lf 54 (some (.iadd, 1, 0)) x) x) x) (am_br 58 (am_br 57 (am_lf 55 (some (.bipush 100, 2, 0)) x) (am_lf 57 (some (.iload_n 2, 1, 0)) x) x) (am_br 59 (am_lf 58 (some (.iadd, 1, 0)) x) (am_lf 59 (some (.iastore, 1, 0)) x) x) x) x) x) (am_br 68 (am_br 65 (am_br 61 (am_lf 60 (some (.aload_n 0, 1, 0)) x) (am_br 64 (am_lf 61 (some (.getfield 57, 3, 12210896)) x) (am_lf 64 (some (.iload_n 1, 1, 0)) x) x) x) (am_br 66 (am_lf 65 (some (.dup2, 1, 0)) x) (am_br 67 (am_lf 66 (some (.iaload, 1, 0)) x) (am_lf 67 (some (.iconst 1, 1, 0)) x) x) x) x) (am_br 71 (am_br 69 (am_lf 68 (some (.iadd, 1, 0)) x) (am_br 70 (am_lf 69 (some (.iastore, 1, 0)) x) (am_lf 70 (some (.aload_n 0, 1, 0)) x) x) x) (am_br 75 (am_br 74 (am_lf 71 (some (.getfield 57, 3, 12210896)) x) (am_lf 74 (some (.iload_n 1, 1, 0)) x) x) (am_br 76 (am_lf 75 (some (.iaload, 1, 0)) x) (am_lf 76 (some (.ireturn, 1, 0)) x) x) x) x) x) x) x
def am_i_Model_times : Nat → Option (ClassFile.Instr × Nat × Nat) := fun x => am_br 27 (am_br 14 (am_br 6 (am_br 2 (am_br 1 (am_lf 0 (some (.aload_n 0, 1, 0)) x) (am_lf 1 (some (.iconst 0, 1, 0)) x) x) (am_br 5 (am_lf 2 (some (.putfield 111, 3, 12000875)) x) (am_lf 5 (some (.aload_n 0, 1, 0)) x) x) x) (am_br 10 (am_br 7 (am_lf 6 (some (.iload_n 1, 1, 0)) x) (am_lf 7 (some (.invokevirtual 234, 3, 1481146)) x) x) (am_br 13 (am_lf 10 (some (.ifCond .eq 23, 3, 0)) x) (am_lf 13 (some (.aload_n 0, 1, 0)) x) x) x) x) (am_br 20 (am_br 18 (am_br 17 (am_lf 14 (some (.getfield 45, 3, 12170892)) x) (am_lf 17 (some (.iload_n 1, 1, 0)) x) x) (am_br 19 (am_lf 18 (some (.iaload, 1, 0)) x) (am_lf 19 (some (.iconst 1, 1, 0)) x) x) x) (am_br 24 (am_br 23 (am_lf 20 (some (.if_icmp .ne 13, 3, 0)) x) (am_lf 23 (some (.iload_n 2, 1, 0)) x) x) (am_br 25 (am_lf 24 (some (.iconst 0, 1, 0)) x) (am_lf 25 (some (.bipush 9, 2, 0)) x) x) x) x) x) (am_br 41 (am_br 35 (am_br 33 (am_br 30 (am_lf 27 (some (.invokestatic 114, 3, 1131012)) x) (am_lf 30 (some (.ifCond .ne 5, 3, 0)) x) x) (am_br 34 (am_lf 33 (some (.iconst (-1), 1, 0)) x) (am_lf 34 (some (.ireturn, 1, 0)) x) x) x) (am_br 39 (am_br 36 (am_lf 35 (some (.aload_n 0, 1, 0)) x) (am_lf 36 (some (.getfield 48, 3, 12180893)) x) x) (am_br 40 (am_lf 39 (some (.iload_n 1, 1, 0)) x) (am_lf 40 (some (.iaload, 1, 0)) x) x) x) x) (am_br 47 (am_br 43 (am_br 42 (am_lf 41 (some (.istore_n 3, 1, 0)) x) (am_lf 42 (some (.aload_n 0, 1, 0)) x) x) (am_br 46 (am_lf 43 (some (.getfield 48, 3, 12180893)) x) (am_lf 46 (some (.iload_n 1, 1, 0)) x) x) x) (am_br 49 (am_br 48 (am_lf 47 (some (.iload_n 2, 1, 0)) x) (am_lf 48 (some (.iastore, 1, 0)) x) x) (am_br 50 (am_lf 49 (some (.iload_n 3, 1, 0)) x) (am_lf 50 (some (.ireturn, 1, 0)) x) x) x) x) x) x
def am_i_Model_opens : Nat → Option (ClassFile.Instr × Nat × Nat) := fun x => am_br 81 (am_br 40 (am_br 18 (am_br 8 (am_br 5 (am_br 1 (am_lf 0 (some (.aload_n 0, 1, 0)) x) (am_br 4 (am_lf 1 (some (.getfield 45, 3, 12170892)) x) (am_lf 4 (some (.iload_n 1, 1, 0)) x) x) x) (am_br 6 (am_lf 5 (some (.iaload, 1, 0)) x) (am_br 7 (am_lf 6 (some (.istore_n 2, 1, 0)) x) (am_lf 7 (some (.iload_n 2, 1, 0)) x) x) x) x) (am_br 13 (am_br 9 (am_lf 8 (some (.iconst 2, 1, 0)) x) (am_br 12 (am_lf 9 (some (.if_icmp .ne 55, 3, 0)) x) (am_lf 12 (some (.aload_n 0, 1, 0)) x) x) x) (am_br 14 (am_lf 13 (some (.aload_n 0, 1, 0)) x) (am_br 17 (am_lf 14 (some (.getfield 48, 3, 12180893)) x) (am_lf 17 (some (.iload_n 1, 1, 0)) x) x) x) x) x) (am_br 28 (am_br 23 (am_br 19 (am_lf 18 (some (.iaload, 1, 0)) x) (am_br 20 (am_lf 19 (some (.aload_n 0, 1, 0)) x) (am_lf 20 (some (.getfield 51, 3, 12190894)) x) x) x) (am_br 24 (am_lf 23 (some (.iload_n 1, 1, 0)) x) (am_br 25 (am_lf 24 (some (.iaload, 1, 0)) x) (am_lf 25 (some (.invokevirtual 124, 3, 1151019)) x) x) x) x) (am_br 34 (am_br 31 (am_lf 28 (some (.ifCond .eq 36, 3, 0)) x) (am_br 32 (am_lf 31 (some (.aload_n 0, 1, 0)) x) (am_lf 32 (some (.bipush 10, 2, 0)) x) x) x) (am_br 38 (am_br 35 (am_lf 34 (some (.aload_n 0, 1, 0)) x) (am_lf 35 (some (.getfield 48, 3, 12180893)) x) x) (am_br 39 (am_lf 38 (some (.iload_n 1, 1, 0)) x) (am_lf 39 (some (.iaload, 1, 0)) x) x) x) x) x) x) (am_br 60 (am_br 48 (am_br 45 (am_br 41 (am_lf 40 (some (.imul, 1, 0)) x) (am_br 42 (am_lf 41 (some (.aload_n 0, 1, 0)) x) (am_lf 42 (some (.getfield 51, 3, 12190894)) x) x) x) (am_br 46 (am_lf 45 (some (.iload_n 1, 1, 0)) x) (am_br 47 (am_lf 46 (some (.iaload, 1, 0)) x) (am_lf 47 (some (.iadd, 1, 0)) x) x) x) x) (am_br 55 (am_br 51 (am_lf 48 (some (.invokevirtual 128, 3, 1191023)) x) (am_br 52 (am_lf 51 (some (.aload_n 0, 1, 0)) x) (am_lf 52 (some (.getfield 54, 3, 12200895)) x) x) x) (am_br 56 (am_lf 55 (some (.iload_n 1, 1, 0)) x) (am_br 57 (am_lf 56 (some (.iaload, 1, 0)) x) (am_lf 57 (some (.if_icmp .ne 7, 3, 0)) x) x) x) x) x) (am_br 70 (am_br 65 (am_br 61 (am_lf 60 (some (.iconst 1, 1, 0)) x) (am_br 64 (am_lf 61 (some (.goto 4, 3, 0)) x) (am_lf 64 (some (.iconst 0, 1, 0)) x) x) x) (am_br 66 (am_lf 65 (some (.istore_n 3, 1, 0)) x) (am_br 67 (am_lf 66 (some (.aload_n 0, 1, 0)) x) (am_lf 67 (some (.getfield 81, 3, 12380913)) x) x) x) x) (am_br 75 (am_br 71 (am_lf 70 (some (.aload_n 0, 1, 0)) x) (am_br 74 (am_lf 71 (some (.getfield 237, 3, 12430918)) x) (am_lf 74 (some (.iload_n 1, 1, 0)) x) x) x) (am_br 77 (am_br 76 (am_lf 75 (some (.iastore, 1, 0)) x) (am_lf 76 (some (.aload_n 0, 1, 0)) x) x) (am_br 80 (am_lf 77 (some (.getfield 84, 3, 12390914)) x) (am_lf 80 (some (.aload_n 0, 1, 0)) x) x) x) x) x) x) x) (am_br 126 (am_br 103 (am_br 91 (am_br 86 (am_br 84 (am_lf 81 (some (.getfield 237, 3, 12430918)) x) (am_br 85 (am_lf 84 (some (.iconst 0, 1, 0)) x) (am_lf 85 (some (.iastore, 1, 0)) x) x) x) (am_br 87 (am_lf 86 (some (.aload_n 0, 1, 0)) x) (am_br 90 (am_lf 87 (some (.getfield 87, 3, 12400915)) x) (am_lf 90 (some (.aload_n 0, 1, 0)) x) x) x) x) (am_br 98 (am_br 94 (am_lf 91 (some (.getfield 237, 3, 12430918)) x) (am_br 95 (am_lf 94 (some (.iload_n 2, 1, 0)) x) (am_lf 95 (some (.ifCond .ne 7, 3, 0)) x) x) x) (am_br 99 (am_lf 98 (some (.iconst 1, 1, 0)) x) (am_br 102 (am_lf 99 (some (.goto 35, 3, 0)) x) (am_lf 102 (some (.iload_n 2, 1, 0)) x) x) x) x) x) (am_br 113 (am_br 108 (am_br 104 (am_lf 103 (some (.iconst 1, 1, 0)) x) (am_br 107 (am_lf 104 (some (.if_icmp .ne 12, 3, 0)) x) (am_lf 107 (some (.aload_n 0, 1, 0)) x) x) x) (am_br 111 (am_lf 108 (some (.getfield 48, 3, 12180893)) x) (am_br 112 (am_lf 111 (some (.iload_n 1, 1, 0)) x) (am_lf 112 (some (.iaload, 1, 0)) x) x) x) x) (am_br 118 (am_br 116 (am_lf 113 (some (.goto 21, 3, 0)) x) (am_br 117 (am_lf 116 (some (.iload_n 2, 1, 0)) x) (am_lf 117 (some (.iconst 2, 1, 0)) x) x) x) (am_br 122 (am_br 121 (am_lf 118 (some (.if_icmp .ne 15, 3, 0)) x) (am_lf 121 (some (.iload_n 3, 1, 0)) x) x) (am_br 125 (am_lf 122 (some (.ifCond .eq 7, 3, 0)) x) (am_lf 125 (some (.iconst 1, 1, 0)) x) x) x) x) x) x) (am_br 146 (am_br 136 (am_br 133 (am_br 129 (am_lf 126 (some (.goto 8, 3, 0)) x) (am_br 130 (am_lf 129 (some (.iconst 0, 1, 0)) x) (am_lf 130 (some (.goto 4, 3, 0)) x) x) x) (am_br 134 (am_lf 133 (some (.iconst 3, 1, 0)) x) (am_br 135 (am_lf 134 (some (.iastore, 1, 0)) x) (am_lf 135 (some (.aload_n 0, 1, 0)) x) x) x) x) (am_br 143 (am_br 139 (am_lf 136 (some (.getfield 90, 3, 12410916)) x) (am_br 140 (am_lf 139 (some (.aload_n 0, 1, 0)) x) (am_lf 140 (some (.getfield 237, 3, 12430918)) x) x) x) (am_br 144 (am_lf 143 (some (.iconst 0, 1, 0)) x) (am_br 145 (am_lf 144 (some (.iastore, 1, 0)) x) (am_lf 145 (some (.aload_n 0, 1, 0)) x) x) x) x) x) (am_br 158 (am_br 153 (am_br 149 (am_lf 146 (some (.getfield 93, 3, 12420917)) x) (am_br 150 (am_lf 149 (some (.aload_n 0, 1, 0)) x) (am_lf 150 (some (.getfield 237, 3, 12430918)) x) x) x) (am_br 154 (am_lf 153 (some (.aload_n 0, 1, 0)) x) (am_br 157 (am_lf 154 (some (.getfield 121, 3, 12050880)) x) (am_lf 157 (some (.iastore, 1, 0)) x) x) x) x) (am_br 163 (am_br 159 (am_lf 158 (some (.aload_n 0, 1, 0)) x) (am_br 160 (am_lf 159 (some (.dup, 1, 0)) x) (am_lf 160 (some (.getfield 237, 3, 12430918)) x) x) x) (am_br 165 (am_br 164 (am_lf 163 (some (.iconst 1, 1, 0)) x) (am_lf 164 (some (.iadd, 1, 0)) x) x) (am_br 168 (am_lf 165 (some (.putfield 237, 3, 12430918)) x) (am_lf 168 (some (.return_, 1, 0)) x) x) x) x) x) x) x) x
def am_i_Model_plays : Nat → Option (ClassFile.Instr × Nat × Nat) := fun x => am_br 150 (am_br 77 (am_br 35 (am_br 19 (am_br 7 (am_br 2 (am_br 1 (am_lf 0 (some (.iconst 0, 1, 0)) x) (am_lf 1 (some (.istore_n 2, 1, 0)) x) x) (am_br 3 (am_lf 2 (some (.aload_n 0, 1, 0)) x) (am_br 4 (am_lf 3 (some (.iconst 0, 1, 0)) x) (am_lf 4 (some (.putfield 237, 3, 12430918)) x) x) x) x) (am_br 12 (am_br 8 (am_lf 7 (some (.aload_n 0, 1, 0)) x) (am_br 9 (am_lf 8 (some (.iload_n 1, 1, 0)) x) (am_lf 9 (some (.invokevirtual 240, 3, 1531166)) x) x) x) (am_br 13 (am_lf 12 (some (.aload_n 0, 1, 0)) x) (am_br 16 (am_lf 13 (some (.getfield 237, 3, 12430918)) x) (am_lf 16 (some (.ifCond .le 293, 3, 0)) x) x) x) x) x) (am_br 26 (am_br 23 (am_br 20 (am_lf 19 (some (.aload_n 0, 1, 0)) x) (am_lf 20 (some (.getfield 237, 3, 12430918)) x) x) (am_br 24 (am_lf 23 (some (.iconst 1, 1, 0)) x) (am_br 25 (am_lf 24 (some (.isub, 1, 0)) x) (am_lf 25 (some (.istore_n 3, 1, 0)) x) x) x) x) (am_br 31 (am_br 27 (am_lf 26 (some (.aload_n 0, 1, 0)) x) (am_br 30 (am_lf 27 (some (.getfield 81, 3, 12380913)) x) (am_lf 30 (some (.iload_n 3, 1, 0)) x) x) x) (am_br 32 (am_lf 31 (some (.iaload, 1, 0)) x) (am_br 34 (am_lf 32 (some (.istore 4, 2, 0)) x) (am_lf 34 (some (.aload_n 0, 1, 0)) x) x) x) x) x) x) (am_br 55 (am_br 44 (am_br 39 (am_br 38 (am_lf 35 (some (.getfield 87, 3, 12400915)) x) (am_lf 38 (some (.iload_n 3, 1, 0)) x) x) (am_br 40 (am_lf 39 (some (.iaload, 1, 0)) x) (am_br 43 (am_lf 40 (some (.ifCond .ne 44, 3, 0)) x) (am_lf 43 (some (.aload_n 0, 1, 0)) x) x) x) x) (am_br 50 (am_br 45 (am_lf 44 (some (.aload_n 0, 1, 0)) x) (am_br 48 (am_lf 45 (some (.getfield 45, 3, 12170892)) x) (am_lf 48 (some (.iload 4, 2, 0)) x) x) x) (am_br 51 (am_lf 50 (some (.iaload, 1, 0)) x) (am_br 52 (am_lf 51 (some (.iconst 3, 1, 0)) x) (am_lf 52 (some (.if_icmp .ne 12, 3, 0)) x) x) x) x) x) (am_br 65 (am_br 60 (am_br 56 (am_lf 55 (some (.aload_n 0, 1, 0)) x) (am_br 59 (am_lf 56 (some (.getfield 93, 3, 12420917)) x) (am_lf 59 (some (.iload_n 3, 1, 0)) x) x) x) (am_br 61 (am_lf 60 (some (.iaload, 1, 0)) x) (am_br 64 (am_lf 61 (some (.goto 7, 3, 0)) x) (am_lf 64 (some (.aload_n 0, 1, 0)) x) x) x) x) (am_br 72 (am_br 68 (am_lf 65 (some (.getfield 121, 3, 12050880)) x) (am_br 71 (am_lf 68 (some (.putfield 121, 3, 12050880)) x) (am_lf 71 (some (.aload_n 0, 1, 0)) x) x) x) (am_br 73 (am_lf 72 (some (.dup, 1, 0)) x) (am_br 76 (am_lf 73 (some (.getfield 237, 3, 12430918)) x) (am_lf 76 (some (.iconst 1, 1, 0)) x) x) x) x) x) x) x) (am_br 118 (am_br 99 (am_br 88 (am_br 81 (am_br 78 (am_lf 77 (some (.isub, 1, 0)) x) (am_lf 78 (some (.putfield 237, 3, 12430918)) x) x) (am_br 84 (am_lf 81 (some (.goto 225, 3, 0)) x) (am_br 85 (am_lf 84 (some (.aload_n 0, 1, 0)) x) (am_lf 85 (some (.getfield 84, 3, 12390914)) x) x) x) x) (am_br 93 (am_br 89 (am_lf 88 (some (.iload_n 3, 1, 0)) x) (am_br 90 (am_lf 89 (some (.iaload, 1, 0)) x) (am_lf 90 (some (.ifCond .ne 24, 3, 0)) x) x) x) (am_br 94 (am_lf 93 (some (.aload_n 0, 1, 0)) x) (am_br 97 (am_lf 94 (some (.getfield 45, 3, 12170892)) x) (am_lf 97 (some (.iload 4, 2, 0)) x) x) x) x) x) (am_br 106 (am_br 101 (am_br 100 (am_lf 99 (some (.iaload, 1, 0)) x) (am_lf 100 (some (.iconst 3, 1, 0)) x) x) (am_br 104 (am_lf 101 (some (.if_icmp .ne 13, 3, 0)) x) (am_br 105 (am_lf 104 (some (.aload_n 0, 1, 0)) x) (am_lf 105 (some (.aload_n 0, 1, 0)) x) x) x) x) (am_br 111 (am_br 109 (am_lf 106 (some (.getfield 90, 3, 12410916)) x) (am_br 110 (am_lf 109 (some (.iload_n 3, 1, 0)) x) (am_lf 110 (some (.iaload, 1, 0)) x) x) x) (am_br 114 (am_lf 111 (some (.putfield 121, 3, 12050880)) x) (am_br 115 (am_lf 114 (some (.aload_n 0, 1, 0)) x) (am_lf 115 (some (.getfield 84, 3, 12390914)) x) x) x) x) x) x) (am_br 136 (am_br 126 (am_br 120 (am_br 119 (am_lf 118 (some (.iload_n 3, 1, 0)) x) (am_lf 119 (some (.iaload, 1, 0)) x) x) (am_br 121 (am_lf 120 (some (.aload_n 0, 1, 0)) x) (am_br 124 (am_lf 121 (some (.getfield 57, 3, 12210896)) x) (am_lf 124 (some (.iload 4, 2, 0)) x) x) x) x) (am_br 131 (am_br 127 (am_lf 126 (some (.iaload, 1, 0)) x) (am_br 130 (am_lf 127 (some (.if_icmp .ne 33, 3, 0)) x) (am_lf 130 (some (.aload_n 0, 1, 0)) x) x) x) (am_br 134 (am_lf 131 (some (.getfield 87, 3, 12400915)) x) (am_br 135 (am_lf 134 (some (.iload_n 3, 1, 0)) x) (am_lf 135 (some (.dup2, 1, 0)) x) x) x) x) x) (am_br 144 (am_br 139 (am_br 137 (am_lf 136 (some (.iaload, 1, 0)) x) (am_br 138 (am_lf 137 (some (.iconst 1, 1, 0)) x) (am_lf 138 (some (.isub, 1, 0)) x) x) x) (am_br 140 (am_lf 139 (some (.iastore, 1, 0)) x) (am_br 141 (am_lf 140 (some (.aload_n 0, 1, 0)) x) (am_lf 141 (some (.getfield 90, 3, 12410916)) x) x) x) x) (am_br 147 (am_br 145 (am_lf 144 (some (.iload_n 3, 1, 0)) x) (am_br 146 (am_lf 145 (some (.dup2, 1, 0)) x) (am_lf 146 (some (.iaload, 1, 0)) x) x) x) (am_br 148 (am_lf 147 (some (.iconst 1, 1, 0)) x) (am_br 149 (am_lf 148 (some (.iadd, 1, 0)) x) (am_lf 149 (some (.iastore, 1, 0)) x) x) x) x) x) x) x) x) (am_br 226 (am_br 183 (am_br 169 (am_br 157 (am_br 154 (am_br 151 (am_lf 150 (some (.aload_n 0, 1, 0)) x) (am_lf 151 (some (.getfield 84, 3, 12390914)) x) x) (am_br 155 (am_lf 154 (some (.iload_n 3, 1, 0)) x) (am_br 156 (am_lf 155 (some (.iconst 0, 1, 0)) x) (am_lf 156 (some (.iastore, 1, 0)) x) x) x) x) (am_br 164 (am_br 160 (am_lf 157 (some (.goto 149, 3, 0)) x) (am_br 162 (am_lf 160 (some (.bipush 8, 2, 0)) x) (am_lf 162 (some (.iload 4, 2, 0)) x) x) x) (am_br 165 (am_lf 164 (some (.imul, 1, 0)) x) (am_br 166 (am_lf 165 (some (.aload_n 0, 1, 0)) x) (am_lf 166 (some (.getfield 84, 3, 12390914)) x) x) x) x) x) (am_br 175 (am_br 171 (am_br 170 (am_lf 169 (some (.iload_n 3, 1, 0)) x) (am_lf 170 (some (.iaload, 1, 0)) x) x) (am_br 172 (am_lf 171 (some (.iadd, 1, 0)) x) (am_br 174 (am_lf 172 (some (.istore 5, 2, 0)) x) (am_lf 174 (some (.aload_n 0, 1, 0)) x) x) x) x) (am_br 180 (am_br 178 (am_lf 175 (some (.getfield 84, 3, 12390914)) x) (am_br 179 (am_lf 178 (some (.iload_n 3, 1, 0)) x) (am_lf 179 (some (.dup2, 1, 0)) x) x) x) (am_br 181 (am_lf 180 (some (.iaload, 1, 0)) x) (am_br 182 (am_lf 181 (some (.iconst 1, 1, 0)) x) (am_lf 182 (some (.iadd, 1, 0)) x) x) x) x) x) x) (am_br 204 (am_br 194 (am_br 187 (am_br 184 (am_lf 183 (some (.iastore, 1, 0)) x) (am_lf 184 (some (.iinc 2 1, 3, 0)) x) x) (am_br 188 (am_lf 187 (some (.iload_n 2, 1, 0)) x) (am_br 191 (am_lf 188 (some (.sipush 300, 3, 0)) x) (am_lf 191 (some (.if_icmp .le 13, 3, 0)) x) x) x) x) (am_br 199 (am_br 195 (am_lf 194 (some (.aload_n 0, 1, 0)) x) (am_br 196 (am_lf 195 (some (.aload_n 0, 1, 0)) x) (am_lf 196 (some (.getfield 237, 3, 12430918)) x) x) x) (am_br 202 (am_lf 199 (some (.putfield 209, 3, 12280903)) x) (am_br 203 (am_lf 202 (some (.iconst 5, 1, 0)) x) (am_lf 203 (some (.ireturn, 1, 0)) x) x) x) x) x) (am_br 216 (am_br 210 (am_br 205 (am_lf 204 (some (.aload_n 0, 1, 0)) x) (am_br 208 (am_lf 205 (some (.getfield 60, 3, 12220897)) x) (am_lf 208 (some (.iload 5, 2, 0)) x) x) x) (am_br 211 (am_lf 210 (some (.iaload, 1, 0)) x) (am_br 213 (am_lf 211 (some (.bipush 100, 2, 0)) x) (am_lf 213 (some (.if_icmp .lt 20, 3, 0)) x) x) x) x) (am_br 221 (am_br 217 (am_lf 216 (some (.aload_n 0, 1, 0)) x) (am_br 218 (am_lf 217 (some (.aload_n 0, 1, 0)) x) (am_lf 218 (some (.getfield 60, 3, 12220897)) x) x) x) (am_br 223 (am_lf 221 (some (.iload 5, 2, 0)) x) (am_br 224 (am_lf 223 (some (.iaload, 1, 0)) x) (am_lf 224 (some (.bipush 100, 2, 0)) x) x) x) x) x) x) x) (am_br 266 (am_br 248 (am_br 236 (am_br 230 (am_br 227 (am_lf 226 (some (.isub, 1, 0)) x) (am_lf 227 (some (.invokevirtual 240, 3, 1531166)) x) x) (am_br 233 (am_lf 230 (some (.goto 76, 3, 0)) x) (am_br 234 (am_lf 233 (some (.iconst 0, 1, 0)) x) (am_lf 234 (some (.istore 6, 2, 0)) x) x) x) x) (am_br 242 (am_br 238 (am_lf 236 (some (.iload 6, 2, 0)) x) (am_br 239 (am_lf 238 (some (.iconst 5, 1, 0)) x) (am_lf 239 (some (.if_icmp .ge 38, 3, 0)) x) x) x) (am_br 243 (am_lf 242 (some (.aload_n 0, 1, 0)) x) (am_br 246 (am_lf 243 (some (.getfield 78, 3, 12370912)) x) (am_lf 246 (some (.iload 6, 2, 0)) x) x) x) x) x) (am_br 258 (am_br 251 (am_br 250 (am_lf 248 (some (.iload 6, 2, 0)) x) (am_lf 250 (some (.iconst 4, 1, 0)) x) x) (am_br 254 (am_lf 251 (some (.if_icmp .ge 18, 3, 0)) x) (am_br 255 (am_lf 254 (some (.aload_n 0, 1, 0)) x) (am_lf 255 (some (.getfield 63, 3, 12230898)) x) x) x) x) (am_br 262 (am_br 259 (am_lf 258 (some (.iconst 4, 1, 0)) x) (am_br 261 (am_lf 259 (some (.iload 5, 2, 0)) x) (am_lf 261 (some (.imul, 1, 0)) x) x) x) (am_br 264 (am_lf 262 (some (.iload 6, 2, 0)) x) (am_br 265 (am_lf 264 (some (.iadd, 1, 0)) x) (am_lf 265 (some (.iaload, 1, 0)) x) x) x) x) x) x) (am_br 288 (am_br 277 (am_br 270 (am_br 269 (am_lf 266 (some (.goto 4, 3, 0)) x) (am_lf 269 (some (.iconst 0, 1, 0)) x) x) (am_br 271 (am_lf 270 (some (.iastore, 1, 0)) x) (am_br 274 (am_lf 271 (some (.iinc 6 1, 3, 0)) x) (am_lf 274 (some (.goto (-38), 3, 0)) x) x) x) x) (am_br 282 (am_br 278 (am_lf 277 (some (.aload_n 0, 1, 0)) x) (am_br 279 (am_lf 278 (some (.aload_n 0, 1, 0)) x) (am_lf 279 (some (.getfield 60, 3, 12220897)) x) x) x) (am_br 284 (am_lf 282 (some (.iload 5, 2, 0)) x) (am_br 285 (am_lf 284 (some (.iaload, 1, 0)) x) (am_lf 285 (some (.invokevirtual 231, 3, 1461134)) x) x) x) x) x) (am_br 300 (am_br 295 (am_br 290 (am_lf 288 (some (.istore 6, 2, 0)) x) (am_br 292 (am_lf 290 (some (.iload 6, 2, 0)) x) (am_lf 292 (some (.ifCond .le 14, 3, 0)) x) x) x) (am_br 296 (am_lf 295 (some (.aload_n 0, 1, 0)) x) (am_br 297 (am_lf 296 (some (.aload_n 0, 1, 0)) x) (am_lf 297 (some (.getfield 237, 3, 12430918)) x) x) x) x) (am_br 306 (am_br 303 (am_lf 300 (some (.putfield 209, 3, 12280903)) x) (am_br 305 (am_lf 303 (some (.iload 6, 2, 0)) x) (am_lf 305 (some (.ireturn, 1, 0)) x) x) x) (am_br 309 (am_lf 306 (some (.goto (-294), 3, 0)) x) (am_br 310 (am_lf 309 (some (.iconst 0, 1, 0)) x) (am_lf 310 (some (.ireturn, 1, 0)) x) x) x) x) x) x) x) x) x
def am_i_Model_play : Nat → Option (ClassFile.Instr × Nat × Nat) := fun x => am_br 19 (am_br 7 (am_br 2 (am_br 1 (am_lf 0 (some (.aload_n 0, 1, 0)) x) (am_lf 1 (some (.iconst 0, 1, 0)) x) x) (am_br 5 (am_lf 2 (some (.putfield 111, 3, 12000875)) x) (am_br 6 (am_lf 5 (some (.aload_n 0, 1, 0)) x) (am_lf 6 (some (.iload_n 1, 1, 0)) x) x) x) x) (am_br 14 (am_br 10 (am_lf 7 (some (.invokevirtual 234, 3, 1481146)) x) (am_br 13 (am_lf 10 (some (.ifCond .ne 5, 3, 0)) x) (am_lf 13 (some (.iconst (-1), 1, 0)) x) x) x) (am_br 15 (am_lf 14 (some (.ireturn, 1, 0)) x) (am_br 16 (am_lf 15 (some (.aload_n 0, 1, 0)) x) (am_lf 16 (some (.getfield 96, 3, 12100885)) x) x) x) x) x) (am_br 31 (am_br 26 (am_br 21 (am_lf 19 (some (.bipush 60, 2, 0)) x) (am_br 24 (am_lf 21 (some (.if_icmp .ne 6, 3, 0)) x) (am_lf 24 (some (.bipush (-3), 2, 0)) x) x) x) (am_br 27 (am_lf 26 (some (.ireturn, 1, 0)) x) (am_br 28 (am_lf 27 (some (.aload_n 0, 1, 0)) x) (am_lf 28 (some (.invokevirtual 218, 3, 1381051)) x) x) x) x) (am_br 34 (am_br 32 (am_lf 31 (some (.aload_n 0, 1, 0)) x) (am_br 33 (am_lf 32 (some (.aload_n 0, 1, 0)) x) (am_lf 33 (some (.iload_n 1, 1, 0)) x) x) x) (am_br 37 (am_lf 34 (some (.invokevirtual 243, 3, 1541162)) x) (am_br 40 (am_lf 37 (some (.invokevirtual 224, 3, 1401102)) x) (am_lf 40 (some (.ireturn, 1, 0)) x) x) x) x) x) x
def am_i_Model_outcome : Nat → Option (ClassFile.Instr × Nat × Nat) := fun x => am_br 50 (am_br 40 (am_br 2 (am_br 1 (am_lf 0 (some (.aload_n 0, 1, 0)) x) (am_lf 1 (some (.iconst 0, 1, 0)) x) x) (am_br 5 (am_lf 2 (some (.putfield 111, 3, 12000875)) x) (am_br 6 (am_lf 5 (some (.iload_n 1, 1, 0)) x) (am_lf 6 (some (.tableswitch 59 0 4 #[34, 39, 44, 49, 54], 34, 0)) x) x) x) x) (am_br 45 (am_br 41 (am_lf 40 (some (.aload_n 0, 1, 0)) x) (am_br 44 (am_lf 41 (some (.getfield 203, 3, 12240899)) x) (am_lf 44 (some (.ireturn, 1, 0)) x) x) x) (am_br 46 (am_lf 45 (some (.aload_n 0, 1, 0)) x) (am_br 49 (am_lf 46 (some (.getfield 206, 3, 12250900)) x) (am_lf 49 (some (.ireturn, 1, 0)) x) x) x) x) x) (am_br 59 (am_br 54 (am_br 51 (am_lf 50 (some (.aload_n 0, 1, 0)) x) (am_lf 51 (some (.getfield 178, 3, 12260901)) x) x) (am_br 55 (am_lf 54 (some (.ireturn, 1, 0)) x) (am_br 56 (am_lf 55 (some (.aload_n 0, 1, 0)) x) (am_lf 56 (some (.getfield 66, 3, 12270902)) x) x) x) x) (am_br 64 (am_br 60 (am_lf 59 (some (.ireturn, 1, 0)) x) (am_br 61 (am_lf 60 (some (.aload_n 0, 1, 0)) x) (am_lf 61 (some (.getfield 209, 3, 12280903)) x) x) x) (am_br 65 (am_lf 64 (some (.ireturn, 1, 0)) x) (am_br 66 (am_lf 65 (some (.iconst (-1), 1, 0)) x) (am_lf 66 (some (.ireturn, 1, 0)) x) x) x) x) x) x
def am_i_Model_isNode : Nat → Option (ClassFile.Instr × Nat × Nat) := fun x => am_br 14 (am_br 6 (am_br 2 (am_br 1 (am_lf 0 (some (.iload_n 1, 1, 0)) x) (am_lf 1 (some (.iconst 0, 1, 0)) x) x) (am_br 3 (am_lf 2 (some (.aload_n 0, 1, 0)) x) (am_lf 3 (some (.getfield 96, 3, 12100885)) x) x) x) (am_br 8 (am_br 7 (am_lf 6 (some (.iconst 1, 1, 0)) x) (am_lf 7 (some (.isub, 1, 0)) x) x) (am_br 11 (am_lf 8 (some (.invokestatic 114, 3, 1131012)) x) (am_lf 11 (some (.ifCond .eq 16, 3, 0)) x) x) x) x) (am_br 20 (am_br 18 (am_br 15 (am_lf 14 (some (.aload_n 0, 1, 0)) x) (am_lf 15 (some (.getfield 33, 3, 12090884)) x) x) (am_br 19 (am_lf 18 (some (.iload_n 1, 1, 0)) x) (am_lf 19 (some (.baload, 1, 0)) x) x) x) (am_br 24 (am_br 23 (am_lf 20 (some (.ifCond .eq 7, 3, 0)) x) (am_lf 23 (some (.iconst 1, 1, 0)) x) x) (am_br 27 (am_lf 24 (some (.goto 4, 3, 0)) x) (am_br 28 (am_lf 27 (some (.iconst 0, 1, 0)) x) (am_lf 28 (some (.ireturn, 1, 0)) x) x) x) x) x) x
def am_i_Model_deepOf : Nat → Option (ClassFile.Instr × Nat × Nat) := fun x => am_br 12 (am_br 4 (am_br 2 (am_br 1 (am_lf 0 (some (.iconst 0, 1, 0)) x) (am_lf 1 (some (.istore_n 2, 1, 0)) x) x) (am_br 3 (am_lf 2 (some (.iload_n 1, 1, 0)) x) (am_lf 3 (some (.istore_n 3, 1, 0)) x) x) x) (am_br 8 (am_br 5 (am_lf 4 (some (.aload_n 0, 1, 0)) x) (am_lf 5 (some (.getfield 30, 3, 12080883)) x) x) (am_br 9 (am_lf 8 (some (.iload_n 3, 1, 0)) x) (am_br 10 (am_lf 9 (some (.iaload, 1, 0)) x) (am_lf 10 (some (.bipush (-9), 2, 0)) x) x) x) x) x) (am_br 23 (am_br 18 (am_br 15 (am_lf 12 (some (.if_icmp .eq 16, 3, 0)) x) (am_lf 15 (some (.iinc 2 1, 3, 0)) x) x) (am_br 19 (am_lf 18 (some (.aload_n 0, 1, 0)) x) (am_br 22 (am_lf 19 (some (.getfield 30, 3, 12080883)) x) (am_lf 22 (some (.iload_n 3, 1, 0)) x) x) x) x) (am_br 25 (am_br 24 (am_lf 23 (some (.iaload, 1, 0)) x) (am_lf 24 (some (.istore_n 3, 1, 0)) x) x) (am_br 28 (am_lf 25 (some (.goto (-21), 3, 0)) x) (am_br 29 (am_lf 28 (some (.iload_n 2, 1, 0)) x) (am_lf 29 (some (.ireturn, 1, 0)) x) x) x) x) x) x
def am_i_Model_node : Nat → Option (ClassFile.Instr × Nat × Nat) := fun x => am_br 5 (am_br 1 (am_lf 0 (some (.aload_n 0, 1, 0)) x) (am_br 2 (am_lf 1 (some (.iconst 0, 1, 0)) x) (am_lf 2 (some (.putfield 111, 3, 12000875)) x) x) x) (am_br 6 (am_lf 5 (some (.aload_n 0, 1, 0)) x) (am_br 9 (am_lf 6 (some (.getfield 118, 3, 12110886)) x) (am_lf 9 (some (.ireturn, 1, 0)) x) x) x) x
def am_i_Model_go : Nat → Option (ClassFile.Instr × Nat × Nat) := fun x => am_br 48 (am_br 22 (am_br 13 (am_br 5 (am_br 1 (am_lf 0 (some (.aload_n 0, 1, 0)) x) (am_br 2 (am_lf 1 (some (.iconst 0, 1, 0)) x) (am_lf 2 (some (.putfield 111, 3, 12000875)) x) x) x) (am_br 7 (am_br 6 (am_lf 5 (some (.aload_n 0, 1, 0)) x) (am_lf 6 (some (.iload_n 1, 1, 0)) x) x) (am_br 10 (am_lf 7 (some (.invokevirtual 246, 3, 1571182)) x) (am_lf 10 (some (.ifCond .ne 5, 3, 0)) x) x) x) x) (am_br 16 (am_br 14 (am_lf 13 (some (.iconst (-1), 1, 0)) x) (am_br 15 (am_lf 14 (some (.ireturn, 1, 0)) x) (am_lf 15 (some (.aload_n 0, 1, 0)) x) x) x) (am_br 20 (am_br 19 (am_lf 16 (some (.getfield 118, 3, 12110886)) x) (am_lf 19 (some (.istore_n 2, 1, 0)) x) x) (am_br 21 (am_lf 20 (some (.iload_n 1, 1, 0)) x) (am_lf 21 (some (.istore_n 3, 1, 0)) x) x) x) x) x) (am_br 32 (am_br 26 (am_br 23 (am_lf 22 (some (.iconst 0, 1, 0)) x) (am_br 25 (am_lf 23 (some (.istore 4, 2, 0)) x) (am_lf 25 (some (.iload_n 2, 1, 0)) x) x) x) (am_br 30 (am_br 27 (am_lf 26 (some (.iload_n 3, 1, 0)) x) (am_lf 27 (some (.if_icmp .eq 61, 3, 0)) x) x) (am_br 31 (am_lf 30 (some (.aload_n 0, 1, 0)) x) (am_lf 31 (some (.iload_n 2, 1, 0)) x) x) x) x) (am_br 40 (am_br 36 (am_br 35 (am_lf 32 (some (.invokevirtual 249, 3, 1581186)) x) (am_lf 35 (some (.aload_n 0, 1, 0)) x) x) (am_br 37 (am_lf 36 (some (.iload_n 3, 1, 0)) x) (am_lf 37 (some (.invokevirtual 249, 3, 1581186)) x) x) x) (am_br 44 (am_br 43 (am_lf 40 (some (.if_icmp .lt 7, 3, 0)) x) (am_lf 43 (some (.iconst 1, 1, 0)) x) x) (am_br 47 (am_lf 44 (some (.goto 4, 3, 0)) x) (am_lf 47 (some (.iconst 0, 1, 0)) x) x) x) x) x) x) (am_br 75 (am_br 61 (am_br 55 (am_br 50 (am_lf 48 (some (.istore 5, 2, 0)) x) (am_br 52 (am_lf 50 (some (.iload 5, 2, 0)) x) (am_lf 52 (some (.ifCond .eq 12, 3, 0)) x) x) x) (am_br 59 (am_br 56 (am_lf 55 (some (.aload_n 0, 1, 0)) x) (am_lf 56 (some (.getfield 30, 3, 12080883)) x) x) (am_br 60 (am_lf 59 (some (.iload_n 2, 1, 0)) x) (am_lf 60 (some (.iaload, 1, 0)) x) x) x) x) (am_br 66 (am_br 64 (am_lf 61 (some (.goto 4, 3, 0)) x) (am_br 65 (am_lf 64 (some (.iload_n 2, 1, 0)) x) (am_lf 65 (some (.istore_n 2, 1, 0)) x) x) x) (am_br 71 (am_br 68 (am_lf 66 (some (.iload 5, 2, 0)) x) (am_lf 68 (some (.ifCond .eq 7, 3, 0)) x) x) (am_br 72 (am_lf 71 (some (.iload_n 3, 1, 0)) x) (am_lf 72 (some (.goto 9, 3, 0)) x) x) x) x) x) (am_br 88 (am_br 80 (am_br 76 (am_lf 75 (some (.aload_n 0, 1, 0)) x) (am_br 79 (am_lf 76 (some (.getfield 30, 3, 12080883)) x) (am_lf 79 (some (.iload_n 3, 1, 0)) x) x) x) (am_br 82 (am_br 81 (am_lf 80 (some (.iaload, 1, 0)) x) (am_lf 81 (some (.istore_n 3, 1, 0)) x) x) (am_br 85 (am_lf 82 (some (.iinc 4 1, 3, 0)) x) (am_lf 85 (some (.goto (-60), 3, 0)) x) x) x) x) (am_br 94 (am_br 90 (am_br 89 (am_lf 88 (some (.aload_n 0, 1, 0)) x) (am_lf 89 (some (.iload_n 1, 1, 0)) x) x) (am_br 93 (am_lf 90 (some (.putfield 118, 3, 12110886)) x) (am_lf 93 (some (.aload_n 0, 1, 0)) x) x) x) (am_br 98 (am_br 95 (am_lf 94 (some (.iload_n 1, 1, 0)) x) (am_lf 95 (some (.invokevirtual 212, 3, 1181106)) x) x) (am_br 100 (am_lf 98 (some (.iload 4, 2, 0)) x) (am_lf 100 (some (.ireturn, 1, 0)) x) x) x) x) x) x) x
def am_i_Model_undo : Nat → Option (ClassFile.Instr × Nat × Nat) := fun x => am_br 23 (am_br 10 (am_br 5 (am_br 1 (am_lf 0 (some (.aload_n 0, 1, 0)) x) (am_br 2 (am_lf 1 (some (.iconst 0, 1, 0)) x) (am_lf 2 (some (.putfield 111, 3, 12000875)) x) x) x) (am_br 6 (am_lf 5 (some (.aload_n 0, 1, 0)) x) (am_br 9 (am_lf 6 (some (.getfield 30, 3, 12080883)) x) (am_lf 9 (some (.aload_n 0, 1, 0)) x) x) x) x) (am_br 16 (am_br 13 (am_lf 10 (some (.getfield 118, 3, 12110886)) x) (am_br 14 (am_lf 13 (some (.iaload, 1, 0)) x) (am_lf 14 (some (.bipush (-9), 2, 0)) x) x) x) (am_br 21 (am_br 19 (am_lf 16 (some (.if_icmp .ne 6, 3, 0)) x) (am_lf 19 (some (.bipush (-2), 2, 0)) x) x) (am_br 22 (am_lf 21 (some (.ireturn, 1, 0)) x) (am_lf 22 (some (.aload_n 0, 1, 0)) x) x) x) x) x) (am_br 35 (am_br 28 (am_br 24 (am_lf 23 (some (.aload_n 0, 1, 0)) x) (am_br 27 (am_lf 24 (some (.getfield 30, 3, 12080883)) x) (am_lf 27 (some (.aload_n 0, 1, 0)) x) x) x) (am_br 31 (am_lf 28 (some (.getfield 118, 3, 12110886)) x) (am_br 32 (am_lf 31 (some (.iaload, 1, 0)) x) (am_lf 32 (some (.putfield 118, 3, 12110886)) x) x) x) x) (am_br 40 (am_br 36 (am_lf 35 (some (.aload_n 0, 1, 0)) x) (am_br 37 (am_lf 36 (some (.aload_n 0, 1, 0)) x) (am_lf 37 (some (.getfield 118, 3, 12110886)) x) x) x) (am_br 44 (am_br 43 (am_lf 40 (some (.invokevirtual 212, 3, 1181106)) x) (am_lf 43 (some (.aload_n 0, 1, 0)) x) x) (am_br 47 (am_lf 44 (some (.getfield 118, 3, 12110886)) x) (am_lf 47 (some (.ireturn, 1, 0)) x) x) x) x) x) x
def am_i_Model_under : Nat → Option (ClassFile.Instr × Nat × Nat) := fun x => am_br 29 (am_br 12 (am_br 6 (am_br 2 (am_br 1 (am_lf 0 (some (.iconst 0, 1, 0)) x) (am_lf 1 (some (.istore_n 3, 1, 0)) x) x) (am_br 4 (am_lf 2 (some (.bipush (-9), 2, 0)) x) (am_lf 4 (some (.istore 4, 2, 0)) x) x) x) (am_br 9 (am_br 7 (am_lf 6 (some (.iconst 0, 1, 0)) x) (am_lf 7 (some (.istore 5, 2, 0)) x) x) (am_br 11 (am_lf 9 (some (.iload 5, 2, 0)) x) (am_lf 11 (some (.aload_n 0, 1, 0)) x) x) x) x) (am_br 22 (am_br 18 (am_br 15 (am_lf 12 (some (.getfield 96, 3, 12100885)) x) (am_lf 15 (some (.if_icmp .ge 37, 3, 0)) x) x) (am_br 19 (am_lf 18 (some (.aload_n 0, 1, 0)) x) (am_lf 19 (some (.getfield 33, 3, 12090884)) x) x) x) (am_br 25 (am_br 24 (am_lf 22 (some (.iload 5, 2, 0)) x) (am_lf 24 (some (.baload, 1, 0)) x) x) (am_br 28 (am_lf 25 (some (.ifCond .eq 21, 3, 0)) x) (am_lf 28 (some (.aload_n 0, 1, 0)) x) x) x) x) x) (am_br 46 (am_br 36 (am_br 34 (am_br 32 (am_lf 29 (some (.getfield 30, 3, 12080883)) x) (am_lf 32 (some (.iload 5, 2, 0)) x) x) (am_br 35 (am_lf 34 (some (.iaload, 1, 0)) x) (am_lf 35 (some (.iload_n 1, 1, 0)) x) x) x) (am_br 42 (am_br 39 (am_lf 36 (some (.if_icmp .ne 10, 3, 0)) x) (am_lf 39 (some (.iinc 3 1, 3, 0)) x) x) (am_br 44 (am_lf 42 (some (.iload 5, 2, 0)) x) (am_lf 44 (some (.istore 4, 2, 0)) x) x) x) x) (am_br 56 (am_br 52 (am_br 49 (am_lf 46 (some (.iinc 5 1, 3, 0)) x) (am_lf 49 (some (.goto (-40), 3, 0)) x) x) (am_br 53 (am_lf 52 (some (.iload_n 2, 1, 0)) x) (am_lf 53 (some (.ifCond .eq 7, 3, 0)) x) x) x) (am_br 60 (am_br 57 (am_lf 56 (some (.iload_n 3, 1, 0)) x) (am_lf 57 (some (.goto 5, 3, 0)) x) x) (am_br 62 (am_lf 60 (some (.iload 4, 2, 0)) x) (am_lf 62 (some (.ireturn, 1, 0)) x) x) x) x) x) x
def am_i_Model_redo : Nat → Option (ClassFile.Instr × Nat × Nat) := fun x => am_br 18 (am_br 7 (am_br 2 (am_br 1 (am_lf 0 (some (.aload_n 0, 1, 0)) x) (am_lf 1 (some (.iconst 0, 1, 0)) x) x) (am_br 5 (am_lf 2 (some (.putfield 111, 3, 12000875)) x) (am_br 6 (am_lf 5 (some (.aload_n 0, 1, 0)) x) (am_lf 6 (some (.aload_n 0, 1, 0)) x) x) x) x) (am_br 14 (am_br 10 (am_lf 7 (some (.getfield 118, 3, 12110886)) x) (am_br 11 (am_lf 10 (some (.iconst 0, 1, 0)) x) (am_lf 11 (some (.invokevirtual 252, 3, 1621198)) x) x) x) (am_br 15 (am_lf 14 (some (.istore_n 1, 1, 0)) x) (am_br 16 (am_lf 15 (some (.iload_n 1, 1, 0)) x) (am_lf 16 (some (.bipush (-9), 2, 0)) x) x) x) x) x) (am_br 26 (am_br 23 (am_br 21 (am_lf 18 (some (.if_icmp .ne 6, 3, 0)) x) (am_lf 21 (some (.bipush (-2), 2, 0)) x) x) (am_br 24 (am_lf 23 (some (.ireturn, 1, 0)) x) (am_br 25 (am_lf 24 (some (.aload_n 0, 1, 0)) x) (am_lf 25 (some (.iload_n 1, 1, 0)) x) x) x) x) (am_br 31 (am_br 29 (am_lf 26 (some (.putfield 118, 3, 12110886)) x) (am_br 30 (am_lf 29 (some (.aload_n 0, 1, 0)) x) (am_lf 30 (some (.iload_n 1, 1, 0)) x) x) x) (am_br 34 (am_lf 31 (some (.invokevirtual 212, 3, 1181106)) x) (am_br 35 (am_lf 34 (some (.iload_n 1, 1, 0)) x) (am_lf 35 (some (.ireturn, 1, 0)) x) x) x) x) x) x
def am_i_Model_told : Nat → Option (ClassFile.Instr × Nat × Nat) := fun x => am_br 52 (am_br 25 (am_br 13 (am_br 5 (am_br 1 (am_lf 0 (some (.aload_n 0, 1, 0)) x) (am_br 2 (am_lf 1 (some (.iconst 0, 1, 0)) x) (am_lf 2 (some (.putfield 111, 3, 12000875)) x) x) x) (am_br 7 (am_br 6 (am_lf 5 (some (.aload_n 0, 1, 0)) x) (am_lf 6 (some (.iload_n 1, 1, 0)) x) x) (am_br 10 (am_lf 7 (some (.invokevirtual 246, 3, 1571182)) x) (am_lf 10 (some (.ifCond .eq 12, 3, 0)) x) x) x) x) (am_br 19 (am_br 15 (am_br 14 (am_lf 13 (some (.iload_n 2, 1, 0)) x) (am_lf 14 (some (.iconst 0, 1, 0)) x) x) (am_br 16 (am_lf 15 (some (.iconst 4, 1, 0)) x) (am_lf 16 (some (.invokestatic 114, 3, 1131012)) x) x) x) (am_br 23 (am_br 22 (am_lf 19 (some (.ifCond .ne 5, 3, 0)) x) (am_lf 22 (some (.iconst (-1), 1, 0)) x) x) (am_br 24 (am_lf 23 (some (.ireturn, 1, 0)) x) (am_lf 24 (some (.iload_n 2, 1, 0)) x) x) x) x) x) (am_br 38 (am_br 32 (am_br 28 (am_lf 25 (some (.ifCond .ne 12, 3, 0)) x) (am_br 29 (am_lf 28 (some (.aload_n 0, 1, 0)) x) (am_lf 29 (some (.getfield 30, 3, 12080883)) x) x) x) (am_br 34 (am_br 33 (am_lf 32 (some (.iload_n 1, 1, 0)) x) (am_lf 33 (some (.iaload, 1, 0)) x) x) (am_br 37 (am_lf 34 (some (.goto 70, 3, 0)) x) (am_lf 37 (some (.iload_n 2, 1, 0)) x) x) x) x) (am_br 44 (am_br 42 (am_br 39 (am_lf 38 (some (.iconst 1, 1, 0)) x) (am_lf 39 (some (.if_icmp .ne 12, 3, 0)) x) x) (am_br 43 (am_lf 42 (some (.aload_n 0, 1, 0)) x) (am_lf 43 (some (.iload_n 1, 1, 0)) x) x) x) (am_br 48 (am_br 45 (am_lf 44 (some (.iconst 1, 1, 0)) x) (am_lf 45 (some (.invokevirtual 252, 3, 1621198)) x) x) (am_br 51 (am_lf 48 (some (.goto 56, 3, 0)) x) (am_lf 51 (some (.iload_n 2, 1, 0)) x) x) x) x) x) x) (am_br 78 (am_br 65 (am_br 57 (am_br 53 (am_lf 52 (some (.iconst 2, 1, 0)) x) (am_br 56 (am_lf 53 (some (.if_icmp .ne 12, 3, 0)) x) (am_lf 56 (some (.aload_n 0, 1, 0)) x) x) x) (am_br 59 (am_br 58 (am_lf 57 (some (.iload_n 1, 1, 0)) x) (am_lf 58 (some (.iconst 0, 1, 0)) x) x) (am_br 62 (am_lf 59 (some (.invokevirtual 252, 3, 1621198)) x) (am_lf 62 (some (.goto 42, 3, 0)) x) x) x) x) (am_br 71 (am_br 67 (am_br 66 (am_lf 65 (some (.iload_n 2, 1, 0)) x) (am_lf 66 (some (.iconst 3, 1, 0)) x) x) (am_br 70 (am_lf 67 (some (.if_icmp .ne 32, 3, 0)) x) (am_lf 70 (some (.aload_n 0, 1, 0)) x) x) x) (am_br 75 (am_br 74 (am_lf 71 (some (.getfield 30, 3, 12080883)) x) (am_lf 74 (some (.iload_n 1, 1, 0)) x) x) (am_br 76 (am_lf 75 (some (.iaload, 1, 0)) x) (am_lf 76 (some (.bipush (-9), 2, 0)) x) x) x) x) x) (am_br 91 (am_br 85 (am_br 81 (am_lf 78 (some (.if_icmp .ne 7, 3, 0)) x) (am_br 82 (am_lf 81 (some (.iconst 0, 1, 0)) x) (am_lf 82 (some (.goto 22, 3, 0)) x) x) x) (am_br 87 (am_br 86 (am_lf 85 (some (.aload_n 0, 1, 0)) x) (am_lf 86 (some (.iload_n 1, 1, 0)) x) x) (am_br 88 (am_lf 87 (some (.aload_n 0, 1, 0)) x) (am_lf 88 (some (.getfield 30, 3, 12080883)) x) x) x) x) (am_br 99 (am_br 93 (am_br 92 (am_lf 91 (some (.iload_n 1, 1, 0)) x) (am_lf 92 (some (.iaload, 1, 0)) x) x) (am_br 96 (am_lf 93 (some (.invokevirtual 215, 3, 1391110)) x) (am_lf 96 (some (.goto 8, 3, 0)) x) x) x) (am_br 101 (am_br 100 (am_lf 99 (some (.aload_n 0, 1, 0)) x) (am_lf 100 (some (.iload_n 1, 1, 0)) x) x) (am_br 104 (am_lf 101 (some (.invokevirtual 249, 3, 1581186)) x) (am_lf 104 (some (.ireturn, 1, 0)) x) x) x) x) x) x) x
def am_i_Model_squeeze : Nat → Option (ClassFile.Instr × Nat × Nat) := fun x => am_br 40 (am_br 17 (am_br 7 (am_br 2 (am_br 1 (am_lf 0 (some (.aload_n 0, 1, 0)) x) (am_lf 1 (some (.iconst 0, 1, 0)) x) x) (am_br 5 (am_lf 2 (some (.putfield 111, 3, 12000875)) x) (am_br 6 (am_lf 5 (some (.aload_n 0, 1, 0)) x) (am_lf 6 (some (.iload_n 1, 1, 0)) x) x) x) x) (am_br 14 (am_br 10 (am_lf 7 (some (.invokevirtual 246, 3, 1571182)) x) (am_br 13 (am_lf 10 (some (.ifCond .ne 5, 3, 0)) x) (am_lf 13 (some (.iconst (-1), 1, 0)) x) x) x) (am_br 15 (am_lf 14 (some (.ireturn, 1, 0)) x) (am_br 16 (am_lf 15 (some (.iload_n 1, 1, 0)) x) (am_lf 16 (some (.aload_n 0, 1, 0)) x) x) x) x) x) (am_br 29 (am_br 24 (am_br 20 (am_lf 17 (some (.getfield 118, 3, 12110886)) x) (am_br 23 (am_lf 20 (some (.if_icmp .eq 24, 3, 0)) x) (am_lf 23 (some (.aload_n 0, 1, 0)) x) x) x) (am_br 27 (am_lf 24 (some (.getfield 30, 3, 12080883)) x) (am_br 28 (am_lf 27 (some (.iload_n 1, 1, 0)) x) (am_lf 28 (some (.iaload, 1, 0)) x) x) x) x) (am_br 35 (am_br 31 (am_lf 29 (some (.bipush (-9), 2, 0)) x) (am_br 34 (am_lf 31 (some (.if_icmp .eq 13, 3, 0)) x) (am_lf 34 (some (.aload_n 0, 1, 0)) x) x) x) (am_br 36 (am_lf 35 (some (.iload_n 1, 1, 0)) x) (am_br 37 (am_lf 36 (some (.iconst 1, 1, 0)) x) (am_lf 37 (some (.invokevirtual 252, 3, 1621198)) x) x) x) x) x) x) (am_br 59 (am_br 49 (am_br 46 (am_br 41 (am_lf 40 (some (.iconst 1, 1, 0)) x) (am_br 44 (am_lf 41 (some (.if_icmp .eq 6, 3, 0)) x) (am_lf 44 (some (.bipush (-2), 2, 0)) x) x) x) (am_br 47 (am_lf 46 (some (.ireturn, 1, 0)) x) (am_br 48 (am_lf 47 (some (.aload_n 0, 1, 0)) x) (am_lf 48 (some (.iload_n 1, 1, 0)) x) x) x) x) (am_br 54 (am_br 50 (am_lf 49 (some (.iconst 0, 1, 0)) x) (am_br 53 (am_lf 50 (some (.invokevirtual 252, 3, 1621198)) x) (am_lf 53 (some (.istore_n 2, 1, 0)) x) x) x) (am_br 55 (am_lf 54 (some (.aload_n 0, 1, 0)) x) (am_br 58 (am_lf 55 (some (.getfield 30, 3, 12080883)) x) (am_lf 58 (some (.iload_n 2, 1, 0)) x) x) x) x) x) (am_br 67 (am_br 64 (am_br 60 (am_lf 59 (some (.aload_n 0, 1, 0)) x) (am_br 63 (am_lf 60 (some (.getfield 30, 3, 12080883)) x) (am_lf 63 (some (.iload_n 1, 1, 0)) x) x) x) (am_br 65 (am_lf 64 (some (.iaload, 1, 0)) x) (am_br 66 (am_lf 65 (some (.iastore, 1, 0)) x) (am_lf 66 (some (.aload_n 0, 1, 0)) x) x) x) x) (am_br 72 (am_br 70 (am_lf 67 (some (.getfield 33, 3, 12090884)) x) (am_br 71 (am_lf 70 (some (.iload_n 1, 1, 0)) x) (am_lf 71 (some (.iconst 0, 1, 0)) x) x) x) (am_br 73 (am_lf 72 (some (.bastore, 1, 0)) x) (am_br 74 (am_lf 73 (some (.iload_n 2, 1, 0)) x) (am_lf 74 (some (.ireturn, 1, 0)) x) x) x) x) x) x) x
def am_i_Model_trace : Nat → Option (ClassFile.Instr × Nat × Nat) := fun x => am_br 5 (am_br 1 (am_lf 0 (some (.aload_n 0, 1, 0)) x) (am_br 2 (am_lf 1 (some (.iconst 0, 1, 0)) x) (am_lf 2 (some (.putfield 111, 3, 12000875)) x) x) x) (am_br 6 (am_lf 5 (some (.aload_n 0, 1, 0)) x) (am_br 9 (am_lf 6 (some (.getfield 141, 3, 12290904)) x) (am_lf 9 (some (.lreturn, 1, 0)) x) x) x) x
def am_i_Model_digest : Nat → Option (ClassFile.Instr × Nat × Nat) := fun x => am_br 67 (am_br 34 (am_br 13 (am_br 8 (am_br 2 (am_br 1 (am_lf 0 (some (.aload_n 0, 1, 0)) x) (am_lf 1 (some (.iconst 0, 1, 0)) x) x) (am_br 5 (am_lf 2 (some (.putfield 111, 3, 12000875)) x) (am_lf 5 (some (.ldc2_w 256, 3, 71218)) x) x) x) (am_br 10 (am_br 9 (am_lf 8 (some (.lstore_n 1, 1, 0)) x) (am_lf 9 (some (.iconst 0, 1, 0)) x) x) (am_br 11 (am_lf 10 (some (.istore_n 3, 1, 0)) x) (am_br 12 (am_lf 11 (some (.iload_n 3, 1, 0)) x) (am_lf 12 (some (.aload_n 0, 1, 0)) x) x) x) x) x) (am_br 24 (am_br 19 (am_br 16 (am_lf 13 (some (.getfield 7, 3, 12010876)) x) (am_lf 16 (some (.if_icmp .ge 95, 3, 0)) x) x) (am_br 20 (am_lf 19 (some (.iconst 0, 1, 0)) x) (am_br 22 (am_lf 20 (some (.istore 4, 2, 0)) x) (am_lf 22 (some (.iload 4, 2, 0)) x) x) x) x) (am_br 28 (am_br 25 (am_lf 24 (some (.aload_n 0, 1, 0)) x) (am_lf 25 (some (.getfield 13, 3, 12020877)) x) x) (am_br 31 (am_lf 28 (some (.if_icmp .ge 77, 3, 0)) x) (am_br 33 (am_lf 31 (some (.bipush 10, 2, 0)) x) (am_lf 33 (some (.iload_n 3, 1, 0)) x) x) x) x) x) x) (am_br 52 (am_br 41 (am_br 37 (am_br 35 (am_lf 34 (some (.imul, 1, 0)) x) (am_lf 35 (some (.iload 4, 2, 0)) x) x) (am_br 38 (am_lf 37 (some (.iadd, 1, 0)) x) (am_br 40 (am_lf 38 (some (.istore 5, 2, 0)) x) (am_lf 40 (some (.iconst 0, 1, 0)) x) x) x) x) (am_br 45 (am_br 43 (am_lf 41 (some (.istore 6, 2, 0)) x) (am_lf 43 (some (.iload 6, 2, 0)) x) x) (am_br 46 (am_lf 45 (some (.iconst 3, 1, 0)) x) (am_br 49 (am_lf 46 (some (.if_icmp .ge 30, 3, 0)) x) (am_lf 49 (some (.ldc2_w 258, 3, 311219)) x) x) x) x) x) (am_br 60 (am_br 54 (am_br 53 (am_lf 52 (some (.lload_n 1, 1, 0)) x) (am_lf 53 (some (.lmul, 1, 0)) x) x) (am_br 55 (am_lf 54 (some (.aload_n 0, 1, 0)) x) (am_br 58 (am_lf 55 (some (.getfield 16, 3, 12030878)) x) (am_lf 58 (some (.bipush 100, 2, 0)) x) x) x) x) (am_br 63 (am_br 62 (am_lf 60 (some (.iload 6, 2, 0)) x) (am_lf 62 (some (.imul, 1, 0)) x) x) (am_br 65 (am_lf 63 (some (.iload 5, 2, 0)) x) (am_br 66 (am_lf 65 (some (.iadd, 1, 0)) x) (am_lf 66 (some (.iaload, 1, 0)) x) x) x) x) x) x) x) (am_br 99 (am_br 82 (am_br 73 (am_br 69 (am_br 68 (am_lf 67 (some (.i2l, 1, 0)) x) (am_lf 68 (some (.ladd, 1, 0)) x) x) (am_br 70 (am_lf 69 (some (.lstore_n 1, 1, 0)) x) (am_lf 70 (some (.iinc 6 1, 3, 0)) x) x) x) (am_br 79 (am_br 76 (am_lf 73 (some (.goto (-30), 3, 0)) x) (am_lf 76 (some (.ldc2_w 258, 3, 311219)) x) x) (am_br 80 (am_lf 79 (some (.lload_n 1, 1, 0)) x) (am_br 81 (am_lf 80 (some (.lmul, 1, 0)) x) (am_lf 81 (some (.aload_n 0, 1, 0)) x) x) x) x) x) (am_br 92 (am_br 87 (am_br 85 (am_lf 82 (some (.getfield 20, 3, 12040879)) x) (am_lf 85 (some (.iload 5, 2, 0)) x) x) (am_br 88 (am_lf 87 (some (.baload, 1, 0)) x) (am_br 91 (am_lf 88 (some (.ifCond .eq 7, 3, 0)) x) (am_lf 91 (some (.iconst 1, 1, 0)) x) x) x) x) (am_br 96 (am_br 95 (am_lf 92 (some (.goto 4, 3, 0)) x) (am_lf 95 (some (.iconst 0, 1, 0)) x) x) (am_br 97 (am_lf 96 (some (.i2l, 1, 0)) x) (am_br 98 (am_lf 97 (some (.ladd, 1, 0)) x) (am_lf 98 (some (.lstore_n 1, 1, 0)) x) x) x) x) x) x) (am_br 121 (am_br 114 (am_br 105 (am_br 102 (am_lf 99 (some (.iinc 4 1, 3, 0)) x) (am_lf 102 (some (.goto (-80), 3, 0)) x) x) (am_br 108 (am_lf 105 (some (.iinc 3 1, 3, 0)) x) (am_br 111 (am_lf 108 (some (.goto (-97), 3, 0)) x) (am_lf 111 (some (.ldc2_w 258, 3, 311219)) x) x) x) x) (am_br 116 (am_br 115 (am_lf 114 (some (.lload_n 1, 1, 0)) x) (am_lf 115 (some (.lmul, 1, 0)) x) x) (am_br 117 (am_lf 116 (some (.aload_n 0, 1, 0)) x) (am_br 120 (am_lf 117 (some (.getfield 121, 3, 12050880)) x) (am_lf 120 (some (.i2l, 1, 0)) x) x) x) x) x) (am_br 128 (am_br 123 (am_br 122 (am_lf 121 (some (.ladd, 1, 0)) x) (am_lf 122 (some (.lstore_n 1, 1, 0)) x) x) (am_br 126 (am_lf 123 (some (.ldc2_w 258, 3, 311219)) x) (am_br 127 (am_lf 126 (some (.lload_n 1, 1, 0)) x) (am_lf 127 (some (.lmul, 1, 0)) x) x) x) x) (am_br 132 (am_br 129 (am_lf 128 (some (.aload_n 0, 1, 0)) x) (am_lf 129 (some (.getfield 24, 3, 12060881)) x) x) (am_br 133 (am_lf 132 (some (.i2l, 1, 0)) x) (am_br 134 (am_lf 133 (some (.ladd, 1, 0)) x) (am_lf 134 (some (.lreturn, 1, 0)) x) x) x) x) x) x) x) x
def am_i_Math_floorDiv : Nat → Option (ClassFile.Instr × Nat × Nat) := fun x => am_br 11 (am_br 4 (am_br 2 (am_br 1 (am_lf 0 (some (.iload_n 0, 1, 0)) x) (am_lf 1 (some (.iload_n 1, 1, 0)) x) x) (am_br 3 (am_lf 2 (some (.idiv, 1, 0)) x) (am_lf 3 (some (.istore_n 2, 1, 0)) x) x) x) (am_br 6 (am_br 5 (am_lf 4 (some (.iload_n 0, 1, 0)) x) (am_lf 5 (some (.iload_n 1, 1, 0)) x) x) (am_br 7 (am_lf 6 (some (.ixor, 1, 0)) x) (am_br 10 (am_lf 7 (some (.ifCond .ge 14, 3, 0)) x) (am_lf 10 (some (.iload_n 2, 1, 0)) x) x) x) x) x) (am_br 18 (am_br 13 (am_br 12 (am_lf 11 (some (.iload_n 1, 1, 0)) x) (am_lf 12 (some (.imul, 1, 0)) x) x) (am_br 14 (am_lf 13 (some (.iload_n 0, 1, 0)) x) (am_br 17 (am_lf 14 (some (.if_icmp .eq 7, 3, 0)) x) (am_lf 17 (some (.iload_n 2, 1, 0)) x) x) x) x) (am_br 20 (am_br 19 (am_lf 18 (some (.iconst 1, 1, 0)) x) (am_lf 19 (some (.isub, 1, 0)) x) x) (am_br 21 (am_lf 20 (some (.ireturn, 1, 0)) x) (am_br 22 (am_lf 21 (some (.iload_n 2, 1, 0)) x) (am_lf 22 (some (.ireturn, 1, 0)) x) x) x) x) x) x
def am_i_Math_floorMod : Nat → Option (ClassFile.Instr × Nat × Nat) := fun x => am_br 10 (am_br 4 (am_br 2 (am_br 1 (am_lf 0 (some (.iload_n 0, 1, 0)) x) (am_lf 1 (some (.iload_n 1, 1, 0)) x) x) (am_br 3 (am_lf 2 (some (.irem, 1, 0)) x) (am_lf 3 (some (.istore_n 2, 1, 0)) x) x) x) (am_br 6 (am_br 5 (am_lf 4 (some (.iload_n 0, 1, 0)) x) (am_lf 5 (some (.iload_n 1, 1, 0)) x) x) (am_br 7 (am_lf 6 (some (.ixor, 1, 0)) x) (am_lf 7 (some (.ifCond .ge 11, 3, 0)) x) x) x) x) (am_br 16 (am_br 14 (am_br 11 (am_lf 10 (some (.iload_n 2, 1, 0)) x) (am_lf 11 (some (.ifCond .eq 7, 3, 0)) x) x) (am_br 15 (am_lf 14 (some (.iload_n 2, 1, 0)) x) (am_lf 15 (some (.iload_n 1, 1, 0)) x) x) x) (am_br 18 (am_br 17 (am_lf 16 (some (.iadd, 1, 0)) x) (am_lf 17 (some (.ireturn, 1, 0)) x) x) (am_br 19 (am_lf 18 (some (.iload_n 2, 1, 0)) x) (am_lf 19 (some (.ireturn, 1, 0)) x) x) x) x) x
def am_i_Math_abs : Nat → Option (ClassFile.Instr × Nat × Nat) := fun x => am_br 5 (am_br 1 (am_lf 0 (some (.iload_n 0, 1, 0)) x) (am_br 4 (am_lf 1 (some (.ifCond .ge 8, 3, 0)) x) (am_lf 4 (some (.iload_n 0, 1, 0)) x) x) x) (am_br 9 (am_br 6 (am_lf 5 (some (.ineg, 1, 0)) x) (am_lf 6 (some (.goto 4, 3, 0)) x) x) (am_br 10 (am_lf 9 (some (.iload_n 0, 1, 0)) x) (am_lf 10 (some (.ireturn, 1, 0)) x) x) x) x
def am_i_Math_max : Nat → Option (ClassFile.Instr × Nat × Nat) := fun x => am_br 5 (am_br 1 (am_lf 0 (some (.iload_n 0, 1, 0)) x) (am_br 2 (am_lf 1 (some (.iload_n 1, 1, 0)) x) (am_lf 2 (some (.if_icmp .lt 7, 3, 0)) x) x) x) (am_br 9 (am_br 6 (am_lf 5 (some (.iload_n 0, 1, 0)) x) (am_lf 6 (some (.goto 4, 3, 0)) x) x) (am_br 10 (am_lf 9 (some (.iload_n 1, 1, 0)) x) (am_lf 10 (some (.ireturn, 1, 0)) x) x) x) x
def am_i_Math_min : Nat → Option (ClassFile.Instr × Nat × Nat) := fun x => am_br 5 (am_br 1 (am_lf 0 (some (.iload_n 0, 1, 0)) x) (am_br 2 (am_lf 1 (some (.iload_n 1, 1, 0)) x) (am_lf 2 (some (.if_icmp .gt 7, 3, 0)) x) x) x) (am_br 9 (am_br 6 (am_lf 5 (some (.iload_n 0, 1, 0)) x) (am_lf 6 (some (.goto 4, 3, 0)) x) x) (am_br 10 (am_lf 9 (some (.iload_n 1, 1, 0)) x) (am_lf 10 (some (.ireturn, 1, 0)) x) x) x) x
abbrev am_M : Type := Nat × (Nat → Option (ClassFile.Instr × Nat × Nat)) × Nat × Nat × Nat × Nat
abbrev z_Cloth_init : Nat := 0
def am_m_Cloth_init : am_M := (34, am_i_Cloth_init, 1, 1, 0, 101)
abbrev z_Cloth_weave : Nat := 1
def am_m_Cloth_weave : am_M := (57, am_i_Cloth_weave, 4, 3, 0, 1)
abbrev z_Cloth_copyFrom : Nat := 2
def am_m_Cloth_copyFrom : am_M := (51, am_i_Cloth_copyFrom, 2, 2, 0, 1)
abbrev z_Cloth_isKnot : Nat := 3
def am_m_Cloth_isKnot : am_M := (30, am_i_Cloth_isKnot, 3, 3, 2, 1)
abbrev z_Cloth_woolAt : Nat := 4
def am_m_Cloth_woolAt : am_M := (36, am_i_Cloth_woolAt, 4, 4, 1, 1)
abbrev z_Cloth_seenAt : Nat := 5
def am_m_Cloth_seenAt : am_M := (62, am_i_Cloth_seenAt, 5, 3, 1, 1)
abbrev z_Cloth_isChosen : Nat := 6
def am_m_Cloth_isChosen : am_M := (34, am_i_Cloth_isChosen, 3, 3, 2, 1)
abbrev z_Cloth_choose : Nat := 7
def am_m_Cloth_choose : am_M := (34, am_i_Cloth_choose, 4, 4, 0, 1)
abbrev z_Cloth_paint : Nat := 8
def am_m_Cloth_paint : am_M := (62, am_i_Cloth_paint, 5, 4, 0, 1)
abbrev z_Cloth_chosenCount : Nat := 9
def am_m_Cloth_chosenCount : am_M := (54, am_i_Cloth_chosenCount, 4, 1, 1, 1)
abbrev z_Cloth_seenCount : Nat := 10
def am_m_Cloth_seenCount : am_M := (52, am_i_Cloth_seenCount, 5, 2, 1, 1)
abbrev z_Cloth_changedFrom : Nat := 11
def am_m_Cloth_changedFrom : am_M := (52, am_i_Cloth_changedFrom, 5, 2, 1, 1)
abbrev z_Cloth_hasWoolsOf : Nat := 12
def am_m_Cloth_hasWoolsOf : am_M := (38, am_i_Cloth_hasWoolsOf, 5, 4, 2, 1)
abbrev z_Cloth_findFloat : Nat := 13
def am_m_Cloth_findFloat : am_M := (79, am_i_Cloth_findFloat, 8, 4, 1, 1)
abbrev z_Cloth_floatFrom : Nat := 14
def am_m_Cloth_floatFrom : am_M := (61, am_i_Cloth_floatFrom, 5, 3, 1, 1)
abbrev z_Cloth_tellFloat : Nat := 15
def am_m_Cloth_tellFloat : am_M := (41, am_i_Cloth_tellFloat, 5, 5, 1, 1)
abbrev z_Cloth_fingerprint : Nat := 16
def am_m_Cloth_fingerprint : am_M := (117, am_i_Cloth_fingerprint, 6, 1, 3, 1)
abbrev z_Command_init : Nat := 17
def am_m_Command_init : am_M := (5, am_i_Command_init, 1, 1, 0, 102)
abbrev z_Command_fillIn : Nat := 18
def am_m_Command_fillIn : am_M := (37, am_i_Command_fillIn, 4, 3, 0, 2)
abbrev z_Command_put : Nat := 19
def am_m_Command_put : am_M := (70, am_i_Command_put, 3, 3, 0, 2)
abbrev z_Handle_init : Nat := 20
def am_m_Handle_init : am_M := (24, am_i_Handle_init, 2, 2, 0, 103)
abbrev z_Handle_isBound : Nat := 21
def am_m_Handle_isBound : am_M := (28, am_i_Handle_isBound, 2, 2, 2, 3)
abbrev z_Handle_withBound : Nat := 22
def am_m_Handle_withBound : am_M := (81, am_i_Handle_withBound, 5, 3, 4, 3)
abbrev z_Handle_isLike : Nat := 23
def am_m_Handle_isLike : am_M := (72, am_i_Handle_isLike, 4, 2, 2, 3)
abbrev z_Handle_fillIn : Nat := 24
def am_m_Handle_fillIn : am_M := (74, am_i_Handle_fillIn, 5, 3, 0, 3)
abbrev z_Looker_init : Nat := 25
def am_m_Looker_init : am_M := (10, am_i_Looker_init, 2, 2, 0, 104)
abbrev z_Looker_carryOut : Nat := 26
def am_m_Looker_carryOut : am_M := (85, am_i_Looker_carryOut, 2, 2, 0, 4)
abbrev z_Looker_select : Nat := 27
def am_m_Looker_select : am_M := (116, am_i_Looker_select, 5, 2, 0, 4)
abbrev z_Looker_isKept : Nat := 28
def am_m_Looker_isKept : am_M := (72, am_i_Looker_isKept, 4, 4, 2, 4)
abbrev z_Looker_pick : Nat := 29
def am_m_Looker_pick : am_M := (78, am_i_Looker_pick, 4, 2, 0, 4)
abbrev z_Looker_show : Nat := 30
def am_m_Looker_show : am_M := (40, am_i_Looker_show, 4, 3, 0, 4)
abbrev z_Macro_init : Nat := 31
def am_m_Macro_init : am_M := (40, am_i_Macro_init, 5, 5, 0, 105)
abbrev z_Macro_isFull : Nat := 32
def am_m_Macro_isFull : am_M := (18, am_i_Macro_isFull, 1, 1, 2, 5)
abbrev z_Macro_join : Nat := 33
def am_m_Macro_join : am_M := (32, am_i_Macro_join, 2, 2, 1, 5)
abbrev z_Macro_partOf : Nat := 34
def am_m_Macro_partOf : am_M := (24, am_i_Macro_partOf, 2, 2, 4, 5)
abbrev z_Node_init : Nat := 35
def am_m_Node_init : am_M := (27, am_i_Node_init, 1, 1, 0, 106)
abbrev z_Painter_init : Nat := 36
def am_m_Painter_init : am_M := (26, am_i_Painter_init, 2, 2, 0, 107)
abbrev z_Painter_carryOut : Nat := 37
def am_m_Painter_carryOut : am_M := (197, am_i_Painter_carryOut, 2, 2, 0, 7)
abbrev z_Painter_fill : Nat := 38
def am_m_Painter_fill : am_M := (234, am_i_Painter_fill, 11, 4, 0, 7)
abbrev z_Painter_line : Nat := 39
def am_m_Painter_line : am_M := (143, am_i_Painter_line, 8, 2, 0, 7)
abbrev z_Painter_stamp : Nat := 40
def am_m_Painter_stamp : am_M := (110, am_i_Painter_stamp, 7, 2, 0, 7)
abbrev z_Painter_measureBox : Nat := 41
def am_m_Painter_measureBox : am_M := (121, am_i_Painter_measureBox, 3, 1, 0, 7)
abbrev z_Painter_keepBefore : Nat := 42
def am_m_Painter_keepBefore : am_M := (46, am_i_Painter_keepBefore, 2, 1, 0, 7)
abbrev z_Painter_woolBefore : Nat := 43
def am_m_Painter_woolBefore : am_M := (31, am_i_Painter_woolBefore, 4, 3, 1, 7)
abbrev z_Painter_mirror : Nat := 44
def am_m_Painter_mirror : am_M := (99, am_i_Painter_mirror, 6, 2, 0, 7)
abbrev z_Painter_shift : Nat := 45
def am_m_Painter_shift : am_M := (140, am_i_Painter_shift, 9, 3, 0, 7)
abbrev z_Painter_border : Nat := 46
def am_m_Painter_border : am_M := (118, am_i_Painter_border, 7, 3, 0, 7)
abbrev z_Painter_swap : Nat := 47
def am_m_Painter_swap : am_M := (87, am_i_Painter_swap, 6, 3, 0, 7)
abbrev z_Painter_mend : Nat := 48
def am_m_Painter_mend : am_M := (137, am_i_Painter_mend, 7, 2, 0, 7)
abbrev z_Part_init : Nat := 49
def am_m_Part_init : am_M := (20, am_i_Part_init, 4, 4, 0, 108)
abbrev z_Readiness_init : Nat := 50
def am_m_Readiness_init : am_M := (10, am_i_Readiness_init, 1, 1, 0, 109)
abbrev z_Readiness_ask : Nat := 51
def am_m_Readiness_ask : am_M := (94, am_i_Readiness_ask, 6, 3, 1, 9)
abbrev z_Readiness_failureAt : Nat := 52
def am_m_Readiness_failureAt : am_M := (126, am_i_Readiness_failureAt, 4, 4, 1, 9)
abbrev z_Readiness_hasFitWools : Nat := 53
def am_m_Readiness_hasFitWools : am_M := (88, am_i_Readiness_hasFitWools, 2, 2, 2, 9)
abbrev z_Readiness_failureAsLook : Nat := 54
def am_m_Readiness_failureAsLook : am_M := (81, am_i_Readiness_failureAsLook, 3, 3, 1, 9)
abbrev z_Readiness_hasItsBlock : Nat := 55
def am_m_Readiness_hasItsBlock : am_M := (68, am_i_Readiness_hasItsBlock, 3, 3, 2, 9)
abbrev z_Readiness_hasFitNumbers : Nat := 56
def am_m_Readiness_hasFitNumbers : am_M := (180, am_i_Readiness_hasFitNumbers, 2, 2, 2, 9)
abbrev z_Runner_init : Nat := 57
def am_m_Runner_init : am_M := (87, am_i_Runner_init, 2, 2, 0, 110)
abbrev z_Runner_begin : Nat := 58
def am_m_Runner_begin : am_M := (32, am_i_Runner_begin, 1, 1, 0, 10)
abbrev z_Runner_perform : Nat := 59
def am_m_Runner_perform : am_M := (69, am_i_Runner_perform, 4, 3, 0, 10)
abbrev z_Runner_callMacro : Nat := 60
def am_m_Runner_callMacro : am_M := (93, am_i_Runner_callMacro, 6, 3, 0, 10)
abbrev z_Runner_roundsOf : Nat := 61
def am_m_Runner_roundsOf : am_M := (55, am_i_Runner_roundsOf, 2, 2, 1, 10)
abbrev z_Runner_isTrue : Nat := 62
def am_m_Runner_isTrue : am_M := (46, am_i_Runner_isTrue, 2, 2, 2, 10)
abbrev z_Runner_callParts : Nat := 63
def am_m_Runner_callParts : am_M := (135, am_i_Runner_callParts, 5, 3, 0, 10)
abbrev z_Runner_fail : Nat := 64
def am_m_Runner_fail : am_M := (16, am_i_Runner_fail, 4, 4, 0, 10)
abbrev z_Tree_init : Nat := 65
def am_m_Tree_init : am_M := (24, am_i_Tree_init, 1, 1, 0, 111)
abbrev z_Tree_plant : Nat := 66
def am_m_Tree_plant : am_M := (54, am_i_Tree_plant, 3, 2, 0, 11)
abbrev z_Tree_isFull : Nat := 67
def am_m_Tree_isFull : am_M := (18, am_i_Tree_isFull, 1, 1, 2, 11)
abbrev z_Tree_grow : Nat := 68
def am_m_Tree_grow : am_M := (92, am_i_Tree_grow, 3, 2, 1, 11)
abbrev z_Tree_find : Nat := 69
def am_m_Tree_find : am_M := (39, am_i_Tree_find, 3, 2, 4, 11)
abbrev z_Tree_has : Nat := 70
def am_m_Tree_has : am_M := (14, am_i_Tree_has, 2, 2, 2, 11)
abbrev z_Tree_clothOf : Nat := 71
def am_m_Tree_clothOf : am_M := (19, am_i_Tree_clothOf, 3, 2, 4, 11)
abbrev z_Tree_parentOf : Nat := 72
def am_m_Tree_parentOf : am_M := (20, am_i_Tree_parentOf, 3, 2, 1, 11)
abbrev z_Tree_thereCount : Nat := 73
def am_m_Tree_thereCount : am_M := (32, am_i_Tree_thereCount, 3, 1, 1, 11)
abbrev z_Tree_countUnder : Nat := 74
def am_m_Tree_countUnder : am_M := (41, am_i_Tree_countUnder, 4, 2, 1, 11)
abbrev z_Tree_highestUnder : Nat := 75
def am_m_Tree_highestUnder : am_M := (40, am_i_Tree_highestUnder, 3, 2, 1, 11)
abbrev z_Tree_changedIn : Nat := 76
def am_m_Tree_changedIn : am_M := (34, am_i_Tree_changedIn, 4, 2, 1, 11)
abbrev z_Tree_stepsBetween : Nat := 77
def am_m_Tree_stepsBetween : am_M := (53, am_i_Tree_stepsBetween, 6, 3, 1, 11)
abbrev z_Tree_takeOut : Nat := 78
def am_m_Tree_takeOut : am_M := (44, am_i_Tree_takeOut, 5, 2, 1, 11)
abbrev z_Desk_init : Nat := 79
def am_m_Desk_init : am_M := (103, am_i_Desk_init, 1, 1, 0, 112)
abbrev z_Desk_cloth : Nat := 80
def am_m_Desk_cloth : am_M := (44, am_i_Desk_cloth, 3, 3, 1, 12)
abbrev z_Desk_at : Nat := 81
def am_m_Desk_at : am_M := (51, am_i_Desk_at, 4, 4, 1, 12)
abbrev z_Desk_isSelected : Nat := 82
def am_m_Desk_isSelected : am_M := (32, am_i_Desk_isSelected, 3, 3, 1, 12)
abbrev z_Desk_about : Nat := 83
def am_m_Desk_about : am_M := (120, am_i_Desk_about, 2, 2, 1, 12)
abbrev z_Desk_used : Nat := 84
def am_m_Desk_used : am_M := (20, am_i_Desk_used, 2, 2, 1, 12)
abbrev z_Desk_floats : Nat := 85
def am_m_Desk_floats : am_M := (26, am_i_Desk_floats, 4, 4, 1, 12)
abbrev z_Desk_run : Nat := 86
def am_m_Desk_run : am_M := (87, am_i_Desk_run, 8, 7, 1, 12)
abbrev z_Desk_handle : Nat := 87
def am_m_Desk_handle : am_M := (40, am_i_Desk_handle, 2, 2, 1, 12)
abbrev z_Desk_bind : Nat := 88
def am_m_Desk_bind : am_M := (62, am_i_Desk_bind, 5, 4, 1, 12)
abbrev z_Desk_same : Nat := 89
def am_m_Desk_same : am_M := (39, am_i_Desk_same, 5, 3, 1, 12)
abbrev z_Desk_call : Nat := 90
def am_m_Desk_call : am_M := (90, am_i_Desk_call, 9, 7, 1, 12)
abbrev z_Desk_macro : Nat := 91
def am_m_Desk_macro : am_M := (154, am_i_Desk_macro, 6, 5, 1, 12)
abbrev z_Desk_part : Nat := 92
def am_m_Desk_part : am_M := (79, am_i_Desk_part, 10, 7, 1, 12)
abbrev z_Desk_nest : Nat := 93
def am_m_Desk_nest : am_M := (55, am_i_Desk_nest, 5, 3, 1, 12)
abbrev z_Desk_times : Nat := 94
def am_m_Desk_times : am_M := (44, am_i_Desk_times, 5, 3, 1, 12)
abbrev z_Desk_play : Nat := 95
def am_m_Desk_play : am_M := (46, am_i_Desk_play, 3, 2, 1, 12)
abbrev z_Desk_outcome : Nat := 96
def am_m_Desk_outcome : am_M := (78, am_i_Desk_outcome, 2, 2, 1, 12)
abbrev z_Desk_node : Nat := 97
def am_m_Desk_node : am_M := (8, am_i_Desk_node, 1, 1, 1, 12)
abbrev z_Desk_go : Nat := 98
def am_m_Desk_go : am_M := (37, am_i_Desk_go, 3, 2, 1, 12)
abbrev z_Desk_undo : Nat := 99
def am_m_Desk_undo : am_M := (32, am_i_Desk_undo, 2, 1, 1, 12)
abbrev z_Desk_redo : Nat := 100
def am_m_Desk_redo : am_M := (32, am_i_Desk_redo, 2, 1, 1, 12)
abbrev z_Desk_told : Nat := 101
def am_m_Desk_told : am_M := (96, am_i_Desk_told, 3, 3, 1, 12)
abbrev z_Desk_squeeze : Nat := 102
def am_m_Desk_squeeze : am_M := (52, am_i_Desk_squeeze, 2, 2, 1, 12)
abbrev z_Desk_trace : Nat := 103
def am_m_Desk_trace : am_M := (11, am_i_Desk_trace, 1, 1, 3, 12)
abbrev z_Desk_digest : Nat := 104
def am_m_Desk_digest : am_M := (8, am_i_Desk_digest, 1, 1, 3, 12)
abbrev z_Desk_within : Nat := 105
def am_m_Desk_within : am_M := (16, am_i_Desk_within, 3, 3, 2, 0)
abbrev z_Desk_isWool : Nat := 106
def am_m_Desk_isWool : am_M := (16, am_i_Desk_isWool, 1, 1, 2, 0)
abbrev z_Desk_handleOf : Nat := 107
def am_m_Desk_handleOf : am_M := (32, am_i_Desk_handleOf, 2, 2, 4, 12)
abbrev z_Desk_macroOf : Nat := 108
def am_m_Desk_macroOf : am_M := (32, am_i_Desk_macroOf, 2, 2, 4, 12)
abbrev z_Desk_keepHandle : Nat := 109
def am_m_Desk_keepHandle : am_M := (33, am_i_Desk_keepHandle, 3, 2, 1, 12)
abbrev z_Desk_settle : Nat := 110
def am_m_Desk_settle : am_M := (70, am_i_Desk_settle, 2, 1, 1, 12)
abbrev z_Desk_moveTo : Nat := 111
def am_m_Desk_moveTo : am_M := (31, am_i_Desk_moveTo, 3, 2, 1, 12)
abbrev z_Model_init : Nat := 112
def am_m_Model_init : am_M := (247, am_i_Model_init, 1, 1, 0, 113)
abbrev z_Model_in : Nat := 113
def am_m_Model_in : am_M := (16, am_i_Model_in, 3, 3, 2, 0)
abbrev z_Model_all : Nat := 114
def am_m_Model_all : am_M := (52, am_i_Model_all, 3, 2, 0, 13)
abbrev z_Model_isKnot : Nat := 115
def am_m_Model_isKnot : am_M := (34, am_i_Model_isKnot, 3, 3, 2, 13)
abbrev z_Model_adds : Nat := 116
def am_m_Model_adds : am_M := (45, am_i_Model_adds, 2, 2, 1, 13)
abbrev z_Model_keeps : Nat := 117
def am_m_Model_keeps : am_M := (104, am_i_Model_keeps, 4, 2, 0, 13)
abbrev z_Model_becomes : Nat := 118
def am_m_Model_becomes : am_M := (105, am_i_Model_becomes, 4, 2, 0, 13)
abbrev z_Model_seen : Nat := 119
def am_m_Model_seen : am_M := (52, am_i_Model_seen, 3, 2, 1, 13)
abbrev z_Model_cloth : Nat := 120
def am_m_Model_cloth : am_M := (115, am_i_Model_cloth, 4, 3, 1, 13)
abbrev z_Model_at : Nat := 121
def am_m_Model_at : am_M := (60, am_i_Model_at, 4, 4, 1, 13)
abbrev z_Model_isSelected : Nat := 122
def am_m_Model_isSelected : am_M := (38, am_i_Model_isSelected, 3, 3, 1, 13)
abbrev z_Model_selected : Nat := 123
def am_m_Model_selected : am_M := (35, am_i_Model_selected, 3, 1, 1, 13)
abbrev z_Model_about : Nat := 124
def am_m_Model_about : am_M := (132, am_i_Model_about, 4, 2, 1, 13)
abbrev z_Model_used : Nat := 125
def am_m_Model_used : am_M := (78, am_i_Model_used, 5, 2, 1, 13)
abbrev z_Model_floats : Nat := 126
def am_m_Model_floats : am_M := (173, am_i_Model_floats, 9, 4, 1, 13)
abbrev z_Model_ready : Nat := 127
def am_m_Model_ready : am_M := (478, am_i_Model_ready, 9, 2, 1, 13)
abbrev z_Model_paints : Nat := 128
def am_m_Model_paints : am_M := (44, am_i_Model_paints, 4, 4, 0, 13)
abbrev z_Model_box : Nat := 129
def am_m_Model_box : am_M := (170, am_i_Model_box, 2, 1, 0, 13)
abbrev z_Model_floor : Nat := 130
def am_m_Model_floor : am_M := (20, am_i_Model_floor, 2, 2, 1, 0)
abbrev z_Model_fills : Nat := 131
def am_m_Model_fills : am_M := (276, am_i_Model_fills, 8, 4, 0, 13)
abbrev z_Model_lines : Nat := 132
def am_m_Model_lines : am_M := (141, am_i_Model_lines, 12, 6, 0, 13)
abbrev z_Model_stamps : Nat := 133
def am_m_Model_stamps : am_M := (106, am_i_Model_stamps, 11, 6, 0, 13)
abbrev z_Model_round : Nat := 134
def am_m_Model_round : am_M := (16, am_i_Model_round, 3, 2, 1, 0)
abbrev z_Model_boxed : Nat := 135
def am_m_Model_boxed : am_M := (466, am_i_Model_boxed, 12, 2, 0, 13)
abbrev z_Model_looks : Nat := 136
def am_m_Model_looks : am_M := (309, am_i_Model_looks, 8, 2, 0, 13)
abbrev z_Model_does : Nat := 137
def am_m_Model_does : am_M := (195, am_i_Model_does, 3, 2, 1, 13)
abbrev z_Model_begins : Nat := 138
def am_m_Model_begins : am_M := (27, am_i_Model_begins, 1, 1, 0, 13)
abbrev z_Model_differ : Nat := 139
def am_m_Model_differ : am_M := (102, am_i_Model_differ, 7, 3, 1, 13)
abbrev z_Model_ends : Nat := 140
def am_m_Model_ends : am_M := (48, am_i_Model_ends, 4, 2, 1, 13)
abbrev z_Model_run : Nat := 141
def am_m_Model_run : am_M := (81, am_i_Model_run, 7, 7, 1, 13)
abbrev z_Model_isHandle : Nat := 142
def am_m_Model_isHandle : am_M := (12, am_i_Model_isHandle, 2, 2, 2, 13)
abbrev z_Model_handle : Nat := 143
def am_m_Model_handle : am_M := (83, am_i_Model_handle, 3, 2, 1, 13)
abbrev z_Model_bind : Nat := 144
def am_m_Model_bind : am_M := (173, am_i_Model_bind, 5, 4, 1, 13)
abbrev z_Model_same : Nat := 145
def am_m_Model_same : am_M := (137, am_i_Model_same, 7, 3, 1, 13)
abbrev z_Model_calls : Nat := 146
def am_m_Model_calls : am_M := (73, am_i_Model_calls, 4, 2, 1, 13)
abbrev z_Model_call : Nat := 147
def am_m_Model_call : am_M := (79, am_i_Model_call, 7, 7, 1, 13)
abbrev z_Model_isMacro : Nat := 148
def am_m_Model_isMacro : am_M := (12, am_i_Model_isMacro, 2, 2, 2, 13)
abbrev z_Model_macro : Nat := 149
def am_m_Model_macro : am_M := (147, am_i_Model_macro, 5, 5, 1, 13)
abbrev z_Model_part : Nat := 150
def am_m_Model_part : am_M := (124, am_i_Model_part, 8, 7, 1, 13)
abbrev z_Model_nest : Nat := 151
def am_m_Model_nest : am_M := (77, am_i_Model_nest, 3, 3, 1, 13)
abbrev z_Model_times : Nat := 152
def am_m_Model_times : am_M := (51, am_i_Model_times, 4, 3, 1, 13)
abbrev z_Model_opens : Nat := 153
def am_m_Model_opens : am_M := (169, am_i_Model_opens, 4, 2, 0, 13)
abbrev z_Model_plays : Nat := 154
def am_m_Model_plays : am_M := (311, am_i_Model_plays, 7, 2, 1, 13)
abbrev z_Model_play : Nat := 155
def am_m_Model_play : am_M := (41, am_i_Model_play, 2, 2, 1, 13)
abbrev z_Model_outcome : Nat := 156
def am_m_Model_outcome : am_M := (67, am_i_Model_outcome, 2, 2, 1, 13)
abbrev z_Model_isNode : Nat := 157
def am_m_Model_isNode : am_M := (29, am_i_Model_isNode, 2, 2, 2, 13)
abbrev z_Model_deepOf : Nat := 158
def am_m_Model_deepOf : am_M := (30, am_i_Model_deepOf, 4, 2, 1, 13)
abbrev z_Model_node : Nat := 159
def am_m_Model_node : am_M := (10, am_i_Model_node, 1, 1, 1, 13)
abbrev z_Model_go : Nat := 160
def am_m_Model_go : am_M := (101, am_i_Model_go, 6, 2, 1, 13)
abbrev z_Model_undo : Nat := 161
def am_m_Model_undo : am_M := (48, am_i_Model_undo, 1, 1, 1, 13)
abbrev z_Model_under : Nat := 162
def am_m_Model_under : am_M := (63, am_i_Model_under, 6, 3, 1, 13)
abbrev z_Model_redo : Nat := 163
def am_m_Model_redo : am_M := (36, am_i_Model_redo, 2, 1, 1, 13)
abbrev z_Model_told : Nat := 164
def am_m_Model_told : am_M := (105, am_i_Model_told, 3, 3, 1, 13)
abbrev z_Model_squeeze : Nat := 165
def am_m_Model_squeeze : am_M := (75, am_i_Model_squeeze, 3, 2, 1, 13)
abbrev z_Model_trace : Nat := 166
def am_m_Model_trace : am_M := (10, am_i_Model_trace, 1, 1, 3, 13)
abbrev z_Model_digest : Nat := 167
def am_m_Model_digest : am_M := (135, am_i_Model_digest, 7, 1, 3, 13)
abbrev z_Math_floorDiv : Nat := 168
def am_m_Math_floorDiv : am_M := (23, am_i_Math_floorDiv, 3, 2, 1, 0)
abbrev z_Math_floorMod : Nat := 169
def am_m_Math_floorMod : am_M := (20, am_i_Math_floorMod, 3, 2, 1, 0)
abbrev z_Math_abs : Nat := 170
def am_m_Math_abs : am_M := (11, am_i_Math_abs, 1, 1, 1, 0)
abbrev z_Math_max : Nat := 171
def am_m_Math_max : am_M := (11, am_i_Math_max, 2, 2, 1, 0)
abbrev z_Math_min : Nat := 172
def am_m_Math_min : am_M := (11, am_i_Math_min, 2, 2, 1, 0)
def am_meth (z : Nat) : am_M := (bif Nat.ble 86 z then (bif Nat.ble 129 z then (bif Nat.ble 151 z then (bif Nat.ble 162 z then (bif Nat.ble 167 z then (bif Nat.ble 170 z then (bif Nat.ble 171 z then (bif Nat.ble 172 z then am_m_Math_min else am_m_Math_max) else am_m_Math_abs) else (bif Nat.ble 168 z then (bif Nat.ble 169 z then am_m_Math_floorMod else am_m_Math_floorDiv) else am_m_Model_digest)) else (bif Nat.ble 164 z then (bif Nat.ble 165 z then (bif Nat.ble 166 z then am_m_Model_trace else am_m_Model_squeeze) else am_m_Model_told) else (bif Nat.ble 163 z then am_m_Model_redo else am_m_Model_under))) else (bif Nat.ble 156 z then (bif Nat.ble 159 z then (bif Nat.ble 160 z then (bif Nat.ble 161 z then am_m_Model_undo else am_m_Model_go) else am_m_Model_node) else (bif Nat.ble 157 z then (bif Nat.ble 158 z then am_m_Model_deepOf else am_m_Model_isNode) else am_m_Model_outcome)) else (bif Nat.ble 153 z then (bif Nat.ble 154 z then (bif Nat.ble 155 z then am_m_Model_play else am_m_Model_plays) else am_m_Model_opens) else (bif Nat.ble 152 z then am_m_Model_times else am_m_Model_nest)))) else (bif Nat.ble 140 z then (bif Nat.ble 145 z then (bif Nat.ble 148 z then (bif Nat.ble 149 z then (bif Nat.ble 150 z then am_m_Model_part else am_m_Model_macro) else am_m_Model_isMacro) else (bif Nat.ble 146 z then (bif Nat.ble 147 z then am_m_Model_call else am_m_Model_calls) else am_m_Model_same)) else (bif Nat.ble 142 z then (bif Nat.ble 143 z then (bif Nat.ble 144 z then am_m_Model_bind else am_m_Model_handle) else am_m_Model_isHandle) else (bif Nat.ble 141 z then am_m_Model_run else am_m_Model_ends))) else (bif Nat.ble 134 z then (bif Nat.ble 137 z then (bif Nat.ble 138 z then (bif Nat.ble 139 z then am_m_Model_differ else am_m_Model_begins) else am_m_Model_does) else (bif Nat.ble 135 z then (bif Nat.ble 136 z then am_m_Model_looks else am_m_Model_boxed) else am_m_Model_round)) else (bif Nat.ble 131 z then (bif Nat.ble 132 z then (bif Nat.ble 133 z then am_m_Model_stamps else am_m_Model_lines) else am_m_Model_fills) else (bif Nat.ble 130 z then am_m_Model_floor else am_m_Model_box))))) else (bif Nat.ble 107 z then (bif Nat.ble 118 z then (bif Nat.ble 123 z then (bif Nat.ble 126 z then (bif Nat.ble 127 z then (bif Nat.ble 128 z then am_m_Model_paints else am_m_Model_ready) else am_m_Model_floats) else (bif Nat.ble 124 z then (bif Nat.ble 125 z then am_m_Model_used else am_m_Model_about) else am_m_Model_selected)) else (bif Nat.ble 120 z then (bif Nat.ble 121 z then (bif Nat.ble 122 z then am_m_Model_isSelected else am_m_Model_at) else am_m_Model_cloth) else (bif Nat.ble 119 z then am_m_Model_seen else am_m_Model_becomes))) else (bif Nat.ble 112 z then (bif Nat.ble 115 z then (bif Nat.ble 116 z then (bif Nat.ble 117 z then am_m_Model_keeps else am_m_Model_adds) else am_m_Model_isKnot) else (bif Nat.ble 113 z then (bif Nat.ble 114 z then am_m_Model_all else am_m_Model_in) else am_m_Model_init)) else (bif Nat.ble 109 z then (bif Nat.ble 110 z then (bif Nat.ble 111 z then am_m_Desk_moveTo else am_m_Desk_settle) else am_m_Desk_keepHandle) else (bif Nat.ble 108 z then am_m_Desk_macroOf else am_m_Desk_handleOf)))) else (bif Nat.ble 96 z then (bif Nat.ble 101 z then (bif Nat.ble 104 z then (bif Nat.ble 105 z then (bif Nat.ble 106 z then am_m_Desk_isWool else am_m_Desk_within) else am_m_Desk_digest) else (bif Nat.ble 102 z then (bif Nat.ble 103 z then am_m_Desk_trace else am_m_Desk_squeeze) else am_m_Desk_told)) else (bif Nat.ble 98 z then (bif Nat.ble 99 z then (bif Nat.ble 100 z then am_m_Desk_redo else am_m_Desk_undo) else am_m_Desk_go) else (bif Nat.ble 97 z then am_m_Desk_node else am_m_Desk_outcome))) else (bif Nat.ble 91 z then (bif Nat.ble 93 z then (bif Nat.ble 94 z then (bif Nat.ble 95 z then am_m_Desk_play else am_m_Desk_times) else am_m_Desk_nest) else (bif Nat.ble 92 z then am_m_Desk_part else am_m_Desk_macro)) else (bif Nat.ble 88 z then (bif Nat.ble 89 z then (bif Nat.ble 90 z then am_m_Desk_call else am_m_Desk_same) else am_m_Desk_bind) else (bif Nat.ble 87 z then am_m_Desk_handle else am_m_Desk_run)))))) else (bif Nat.ble 43 z then (bif Nat.ble 64 z then (bif Nat.ble 75 z then (bif Nat.ble 80 z then (bif Nat.ble 83 z then (bif Nat.ble 84 z then (bif Nat.ble 85 z then am_m_Desk_floats else am_m_Desk_used) else am_m_Desk_about) else (bif Nat.ble 81 z then (bif Nat.ble 82 z then am_m_Desk_isSelected else am_m_Desk_at) else am_m_Desk_cloth)) else (bif Nat.ble 77 z then (bif Nat.ble 78 z then (bif Nat.ble 79 z then am_m_Desk_init else am_m_Tree_takeOut) else am_m_Tree_stepsBetween) else (bif Nat.ble 76 z then am_m_Tree_changedIn else am_m_Tree_highestUnder))) else (bif Nat.ble 69 z then (bif Nat.ble 72 z then (bif Nat.ble 73 z then (bif Nat.ble 74 z then am_m_Tree_countUnder else am_m_Tree_thereCount) else am_m_Tree_parentOf) else (bif Nat.ble 70 z then (bif Nat.ble 71 z then am_m_Tree_clothOf else am_m_Tree_has) else am_m_Tree_find)) else (bif Nat.ble 66 z then (bif Nat.ble 67 z then (bif Nat.ble 68 z then am_m_Tree_grow else am_m_Tree_isFull) else am_m_Tree_plant) else (bif Nat.ble 65 z then am_m_Tree_init else am_m_Runner_fail)))) else (bif Nat.ble 53 z then (bif Nat.ble 58 z then (bif Nat.ble 61 z then (bif Nat.ble 62 z then (bif Nat.ble 63 z then am_m_Runner_callParts else am_m_Runner_isTrue) else am_m_Runner_roundsOf) else (bif Nat.ble 59 z then (bif Nat.ble 60 z then am_m_Runner_callMacro else am_m_Runner_perform) else am_m_Runner_begin)) else (bif Nat.ble 55 z then (bif Nat.ble 56 z then (bif Nat.ble 57 z then am_m_Runner_init else am_m_Readiness_hasFitNumbers) else am_m_Readiness_hasItsBlock) else (bif Nat.ble 54 z then am_m_Readiness_failureAsLook else am_m_Readiness_hasFitWools))) else (bif Nat.ble 48 z then (bif Nat.ble 50 z then (bif Nat.ble 51 z then (bif Nat.ble 52 z then am_m_Readiness_failureAt else am_m_Readiness_ask) else am_m_Readiness_init) else (bif Nat.ble 49 z then am_m_Part_init else am_m_Painter_mend)) else (bif Nat.ble 45 z then (bif Nat.ble 46 z then (bif Nat.ble 47 z then am_m_Painter_swap else am_m_Painter_border) else am_m_Painter_shift) else (bif Nat.ble 44 z then am_m_Painter_mirror else am_m_Painter_woolBefore))))) else (bif Nat.ble 21 z then (bif Nat.ble 32 z then (bif Nat.ble 37 z then (bif Nat.ble 40 z then (bif Nat.ble 41 z then (bif Nat.ble 42 z then am_m_Painter_keepBefore else am_m_Painter_measureBox) else am_m_Painter_stamp) else (bif Nat.ble 38 z then (bif Nat.ble 39 z then am_m_Painter_line else am_m_Painter_fill) else am_m_Painter_carryOut)) else (bif Nat.ble 34 z then (bif Nat.ble 35 z then (bif Nat.ble 36 z then am_m_Painter_init else am_m_Node_init) else am_m_Macro_partOf) else (bif Nat.ble 33 z then am_m_Macro_join else am_m_Macro_isFull))) else (bif Nat.ble 26 z then (bif Nat.ble 29 z then (bif Nat.ble 30 z then (bif Nat.ble 31 z then am_m_Macro_init else am_m_Looker_show) else am_m_Looker_pick) else (bif Nat.ble 27 z then (bif Nat.ble 28 z then am_m_Looker_isKept else am_m_Looker_select) else am_m_Looker_carryOut)) else (bif Nat.ble 23 z then (bif Nat.ble 24 z then (bif Nat.ble 25 z then am_m_Looker_init else am_m_Handle_fillIn) else am_m_Handle_isLike) else (bif Nat.ble 22 z then am_m_Handle_withBound else am_m_Handle_isBound)))) else (bif Nat.ble 10 z then (bif Nat.ble 15 z then (bif Nat.ble 18 z then (bif Nat.ble 19 z then (bif Nat.ble 20 z then am_m_Handle_init else am_m_Command_put) else am_m_Command_fillIn) else (bif Nat.ble 16 z then (bif Nat.ble 17 z then am_m_Command_init else am_m_Cloth_fingerprint) else am_m_Cloth_tellFloat)) else (bif Nat.ble 12 z then (bif Nat.ble 13 z then (bif Nat.ble 14 z then am_m_Cloth_floatFrom else am_m_Cloth_findFloat) else am_m_Cloth_hasWoolsOf) else (bif Nat.ble 11 z then am_m_Cloth_changedFrom else am_m_Cloth_seenCount))) else (bif Nat.ble 5 z then (bif Nat.ble 7 z then (bif Nat.ble 8 z then (bif Nat.ble 9 z then am_m_Cloth_chosenCount else am_m_Cloth_paint) else am_m_Cloth_choose) else (bif Nat.ble 6 z then am_m_Cloth_isChosen else am_m_Cloth_seenAt)) else (bif Nat.ble 2 z then (bif Nat.ble 3 z then (bif Nat.ble 4 z then am_m_Cloth_woolAt else am_m_Cloth_isKnot) else am_m_Cloth_copyFrom) else (bif Nat.ble 1 z then am_m_Cloth_weave else am_m_Cloth_init)))))))
abbrev am_I : Type := MethodName × ByteArray × Option FieldType × Nat × Nat
def am_n_Cloth_init : am_I := (⟨"TapestryDesk$Cloth", "<init>", "()V"⟩, prog_2_method_1_code, none, 880062, 99990087)
def am_n_Cloth_weave : am_I := (⟨"TapestryDesk$Cloth", "weave", "(II)V"⟩, prog_2_method_2_code, none, 2900062, 2890288)
def am_n_Cloth_copyFrom : am_I := (⟨"TapestryDesk$Cloth", "copyFrom", "(LTapestryDesk$Cloth;)V"⟩, prog_2_method_3_code, none, 3260062, 3250324)
def am_n_Cloth_isKnot : am_I := (⟨"TapestryDesk$Cloth", "isKnot", "(II)Z"⟩, prog_2_method_4_code, (some .boolean), 3690062, 3680367)
def am_n_Cloth_woolAt : am_I := (⟨"TapestryDesk$Cloth", "woolAt", "(III)I"⟩, prog_2_method_5_code, (some .int), 3780062, 3770376)
def am_n_Cloth_seenAt : am_I := (⟨"TapestryDesk$Cloth", "seenAt", "(II)I"⟩, prog_2_method_6_code, (some .int), 3730062, 3720371)
def am_n_Cloth_isChosen : am_I := (⟨"TapestryDesk$Cloth", "isChosen", "(II)Z"⟩, prog_2_method_7_code, (some .boolean), 3860062, 3850384)
def am_n_Cloth_choose : am_I := (⟨"TapestryDesk$Cloth", "choose", "(IIZ)V"⟩, prog_2_method_8_code, none, 5830062, 5820581)
def am_n_Cloth_paint : am_I := (⟨"TapestryDesk$Cloth", "paint", "(III)V"⟩, prog_2_method_9_code, none, 5170062, 5160515)
def am_n_Cloth_chosenCount : am_I := (⟨"TapestryDesk$Cloth", "chosenCount", "()I"⟩, prog_2_method_10_code, (some .int), 3940062, 3930392)
def am_n_Cloth_seenCount : am_I := (⟨"TapestryDesk$Cloth", "seenCount", "(I)I"⟩, prog_2_method_11_code, (some .int), 4170062, 4160415)
def am_n_Cloth_changedFrom : am_I := (⟨"TapestryDesk$Cloth", "changedFrom", "(LTapestryDesk$Cloth;)I"⟩, prog_2_method_12_code, (some .int), 6050062, 6040603)
def am_n_Cloth_hasWoolsOf : am_I := (⟨"TapestryDesk$Cloth", "hasWoolsOf", "(LTapestryDesk$Cloth;II)Z"⟩, prog_2_method_13_code, (some .boolean), 6090062, 250608)
def am_n_Cloth_findFloat : am_I := (⟨"TapestryDesk$Cloth", "findFloat", "(III)I"⟩, prog_2_method_14_code, (some .int), 4260062, 4250424)
def am_n_Cloth_floatFrom : am_I := (⟨"TapestryDesk$Cloth", "floatFrom", "(II)I"⟩, prog_2_method_15_code, (some .int), 4300062, 10429)
def am_n_Cloth_tellFloat : am_I := (⟨"TapestryDesk$Cloth", "tellFloat", "(IIII)I"⟩, prog_2_method_16_code, (some .int), 4340062, 20433)
def am_n_Cloth_fingerprint : am_I := (⟨"TapestryDesk$Cloth", "fingerprint", "()J"⟩, prog_2_method_17_code, (some .long), 8530062, 8520851)
def am_n_Command_init : am_I := (⟨"TapestryDesk$Command", "<init>", "()V"⟩, prog_3_method_1_code, none, 1620066, 99990161)
def am_n_Command_fillIn : am_I := (⟨"TapestryDesk$Command", "fillIn", "(I[I)V"⟩, prog_3_method_2_code, none, 4430066, 4420441)
def am_n_Command_put : am_I := (⟨"TapestryDesk$Command", "put", "(II)V"⟩, prog_3_method_3_code, none, 4470066, 4460445)
def am_n_Handle_init : am_I := (⟨"TapestryDesk$Handle", "<init>", "(I)V"⟩, prog_4_method_1_code, none, 6190073, 99990618)
def am_n_Handle_isBound : am_I := (⟨"TapestryDesk$Handle", "isBound", "(I)Z"⟩, prog_4_method_2_code, (some .boolean), 6470073, 6460645)
def am_n_Handle_withBound : am_I := (⟨"TapestryDesk$Handle", "withBound", "(II)LTapestryDesk$Handle;"⟩, prog_4_method_3_code, (some (.object "TapestryDesk$Handle")), 6510073, 6500649)
def am_n_Handle_isLike : am_I := (⟨"TapestryDesk$Handle", "isLike", "(LTapestryDesk$Handle;)Z"⟩, prog_4_method_4_code, (some .boolean), 6610073, 6600659)
def am_n_Handle_fillIn : am_I := (⟨"TapestryDesk$Handle", "fillIn", "(LTapestryDesk$Command;[I)V"⟩, prog_4_method_5_code, none, 6690073, 6680667)
def am_n_Looker_init : am_I := (⟨"TapestryDesk$Looker", "<init>", "(LTapestryDesk$Cloth;)V"⟩, prog_5_method_1_code, none, 2350068, 99990234)
def am_n_Looker_carryOut : am_I := (⟨"TapestryDesk$Looker", "carryOut", "(LTapestryDesk$Command;)V"⟩, prog_5_method_2_code, none, 5700068, 5690568)
def am_n_Looker_select : am_I := (⟨"TapestryDesk$Looker", "select", "(LTapestryDesk$Command;)V"⟩, prog_5_method_3_code, none, 5740068, 200573)
def am_n_Looker_isKept : am_I := (⟨"TapestryDesk$Looker", "isKept", "(IZZ)Z"⟩, prog_5_method_4_code, (some .boolean), 5790068, 210578)
def am_n_Looker_pick : am_I := (⟨"TapestryDesk$Looker", "pick", "(I)V"⟩, prog_5_method_5_code, none, 5870068, 220586)
def am_n_Looker_show : am_I := (⟨"TapestryDesk$Looker", "show", "(II)V"⟩, prog_5_method_6_code, none, 5920068, 230591)
def am_n_Macro_init : am_I := (⟨"TapestryDesk$Macro", "<init>", "(IIII)V"⟩, prog_6_method_1_code, none, 6780074, 99990677)
def am_n_Macro_isFull : am_I := (⟨"TapestryDesk$Macro", "isFull", "()Z"⟩, prog_6_method_2_code, (some .boolean), 7190074, 7180717)
def am_n_Macro_join : am_I := (⟨"TapestryDesk$Macro", "join", "(LTapestryDesk$Part;)I"⟩, prog_6_method_3_code, (some .int), 7420074, 7410740)
def am_n_Macro_partOf : am_I := (⟨"TapestryDesk$Macro", "partOf", "(I)LTapestryDesk$Part;"⟩, prog_6_method_4_code, (some (.object "TapestryDesk$Part")), 7770074, 7760775)
def am_n_Node_init : am_I := (⟨"TapestryDesk$Node", "<init>", "()V"⟩, prog_7_method_1_code, none, 3060069, 99990305)
def am_n_Painter_init : am_I := (⟨"TapestryDesk$Painter", "<init>", "(LTapestryDesk$Cloth;)V"⟩, prog_8_method_1_code, none, 2070067, 99990206)
def am_n_Painter_carryOut : am_I := (⟨"TapestryDesk$Painter", "carryOut", "(LTapestryDesk$Command;)V"⟩, prog_8_method_2_code, none, 4970067, 4960495)
def am_n_Painter_fill : am_I := (⟨"TapestryDesk$Painter", "fill", "(III)V"⟩, prog_8_method_3_code, none, 5210067, 110520)
def am_n_Painter_line : am_I := (⟨"TapestryDesk$Painter", "line", "(LTapestryDesk$Command;)V"⟩, prog_8_method_4_code, none, 5290067, 120528)
def am_n_Painter_stamp : am_I := (⟨"TapestryDesk$Painter", "stamp", "(LTapestryDesk$Command;)V"⟩, prog_8_method_5_code, none, 5390067, 130538)
def am_n_Painter_measureBox : am_I := (⟨"TapestryDesk$Painter", "measureBox", "()V"⟩, prog_8_method_6_code, none, 5010067, 90500)
def am_n_Painter_keepBefore : am_I := (⟨"TapestryDesk$Painter", "keepBefore", "()V"⟩, prog_8_method_7_code, none, 5120067, 100511)
def am_n_Painter_woolBefore : am_I := (⟨"TapestryDesk$Painter", "woolBefore", "(II)I"⟩, prog_8_method_8_code, (some .int), 5470067, 150546)
def am_n_Painter_mirror : am_I := (⟨"TapestryDesk$Painter", "mirror", "(I)V"⟩, prog_8_method_9_code, none, 5430067, 140542)
def am_n_Painter_shift : am_I := (⟨"TapestryDesk$Painter", "shift", "(II)V"⟩, prog_8_method_10_code, none, 5510067, 160550)
def am_n_Painter_border : am_I := (⟨"TapestryDesk$Painter", "border", "(II)V"⟩, prog_8_method_11_code, none, 5580067, 170557)
def am_n_Painter_swap : am_I := (⟨"TapestryDesk$Painter", "swap", "(II)V"⟩, prog_8_method_12_code, none, 5620067, 180561)
def am_n_Painter_mend : am_I := (⟨"TapestryDesk$Painter", "mend", "(I)V"⟩, prog_8_method_13_code, none, 5660067, 190565)
def am_n_Part_init : am_I := (⟨"TapestryDesk$Part", "<init>", "(LTapestryDesk$Handle;LTapestryDesk$Macro;[I)V"⟩, prog_9_method_1_code, none, 7240075, 99990723)
def am_n_Readiness_init : am_I := (⟨"TapestryDesk$Readiness", "<init>", "()V"⟩, prog_10_method_1_code, none, 1510065, 99990150)
def am_n_Readiness_ask : am_I := (⟨"TapestryDesk$Readiness", "ask", "(LTapestryDesk$Command;LTapestryDesk$Cloth;)I"⟩, prog_10_method_2_code, (some .int), 4590065, 4580457)
def am_n_Readiness_failureAt : am_I := (⟨"TapestryDesk$Readiness", "failureAt", "(ILTapestryDesk$Command;LTapestryDesk$Cloth;)I"⟩, prog_10_method_3_code, (some .int), 4680065, 30467)
def am_n_Readiness_hasFitWools : am_I := (⟨"TapestryDesk$Readiness", "hasFitWools", "(LTapestryDesk$Command;)Z"⟩, prog_10_method_4_code, (some .boolean), 4740065, 40473)
def am_n_Readiness_failureAsLook : am_I := (⟨"TapestryDesk$Readiness", "failureAsLook", "(LTapestryDesk$Command;LTapestryDesk$Cloth;)I"⟩, prog_10_method_5_code, (some .int), 4790065, 50478)
def am_n_Readiness_hasItsBlock : am_I := (⟨"TapestryDesk$Readiness", "hasItsBlock", "(LTapestryDesk$Command;LTapestryDesk$Cloth;)Z"⟩, prog_10_method_6_code, (some .boolean), 4830065, 60482)
def am_n_Readiness_hasFitNumbers : am_I := (⟨"TapestryDesk$Readiness", "hasFitNumbers", "(LTapestryDesk$Command;)Z"⟩, prog_10_method_7_code, (some .boolean), 4870065, 70486)
def am_n_Runner_init : am_I := (⟨"TapestryDesk$Runner", "<init>", "(LTapestryDesk$Cloth;)V"⟩, prog_11_method_1_code, none, 1450064, 99990144)
def am_n_Runner_begin : am_I := (⟨"TapestryDesk$Runner", "begin", "()V"⟩, prog_11_method_2_code, none, 4510064, 4500449)
def am_n_Runner_perform : am_I := (⟨"TapestryDesk$Runner", "perform", "(LTapestryDesk$Command;I)V"⟩, prog_11_method_3_code, none, 4550064, 4540453)
def am_n_Runner_callMacro : am_I := (⟨"TapestryDesk$Runner", "callMacro", "(LTapestryDesk$Macro;I)V"⟩, prog_11_method_4_code, none, 7590064, 7580757)
def am_n_Runner_roundsOf : am_I := (⟨"TapestryDesk$Runner", "roundsOf", "(LTapestryDesk$Macro;)I"⟩, prog_11_method_5_code, (some .int), 7630064, 290762)
def am_n_Runner_isTrue : am_I := (⟨"TapestryDesk$Runner", "isTrue", "(LTapestryDesk$Macro;)Z"⟩, prog_11_method_6_code, (some .boolean), 7670064, 300766)
def am_n_Runner_callParts : am_I := (⟨"TapestryDesk$Runner", "callParts", "(LTapestryDesk$Macro;I)V"⟩, prog_11_method_7_code, none, 7730064, 310772)
def am_n_Runner_fail : am_I := (⟨"TapestryDesk$Runner", "fail", "(III)V"⟩, prog_11_method_8_code, none, 4930064, 80492)
def am_n_Tree_init : am_I := (⟨"TapestryDesk$Tree", "<init>", "()V"⟩, prog_12_method_1_code, none, 1250063, 99990124)
def am_n_Tree_plant : am_I := (⟨"TapestryDesk$Tree", "plant", "(LTapestryDesk$Cloth;)V"⟩, prog_12_method_2_code, none, 2940063, 2930292)
def am_n_Tree_isFull : am_I := (⟨"TapestryDesk$Tree", "isFull", "()Z"⟩, prog_12_method_3_code, (some .boolean), 3020063, 3010300)
def am_n_Tree_grow : am_I := (⟨"TapestryDesk$Tree", "grow", "(LTapestryDesk$Cloth;)I"⟩, prog_12_method_4_code, (some .int), 2980063, 2970296)
def am_n_Tree_find : am_I := (⟨"TapestryDesk$Tree", "find", "(I)LTapestryDesk$Node;"⟩, prog_12_method_5_code, (some (.object "TapestryDesk$Node")), 4060063, 405)
def am_n_Tree_has : am_I := (⟨"TapestryDesk$Tree", "has", "(I)Z"⟩, prog_12_method_6_code, (some .boolean), 4020063, 4010400)
def am_n_Tree_clothOf : am_I := (⟨"TapestryDesk$Tree", "clothOf", "(I)LTapestryDesk$Cloth;"⟩, prog_12_method_7_code, (some (.object "TapestryDesk$Cloth")), 6000063, 5990598)
def am_n_Tree_parentOf : am_I := (⟨"TapestryDesk$Tree", "parentOf", "(I)I"⟩, prog_12_method_8_code, (some .int), 8010063, 8000799)
def am_n_Tree_thereCount : am_I := (⟨"TapestryDesk$Tree", "thereCount", "()I"⟩, prog_12_method_9_code, (some .int), 3980063, 3970396)
def am_n_Tree_countUnder : am_I := (⟨"TapestryDesk$Tree", "countUnder", "(I)I"⟩, prog_12_method_10_code, (some .int), 8260063, 8250824)
def am_n_Tree_highestUnder : am_I := (⟨"TapestryDesk$Tree", "highestUnder", "(I)I"⟩, prog_12_method_11_code, (some .int), 8180063, 8170816)
def am_n_Tree_changedIn : am_I := (⟨"TapestryDesk$Tree", "changedIn", "(I)I"⟩, prog_12_method_12_code, (some .int), 8300063, 8290828)
def am_n_Tree_stepsBetween : am_I := (⟨"TapestryDesk$Tree", "stepsBetween", "(II)I"⟩, prog_12_method_13_code, (some .int), 7970063, 7960795)
def am_n_Tree_takeOut : am_I := (⟨"TapestryDesk$Tree", "takeOut", "(I)I"⟩, prog_12_method_14_code, (some .int), 8400063, 8390838)
def am_n_Desk_init : am_I := (⟨"TapestryDesk", "<init>", "()V"⟩, prog_1_method_1_code, none, 800061, 99990079)
def am_n_Desk_cloth : am_I := (⟨"TapestryDesk", "cloth", "(II)I"⟩, prog_1_method_2_code, (some .int), 3580061, 3570356)
def am_n_Desk_at : am_I := (⟨"TapestryDesk", "at", "(III)I"⟩, prog_1_method_3_code, (some .int), 3650061, 3640363)
def am_n_Desk_isSelected : am_I := (⟨"TapestryDesk", "isSelected", "(II)I"⟩, prog_1_method_4_code, (some .int), 3820061, 3810380)
def am_n_Desk_about : am_I := (⟨"TapestryDesk", "about", "(I)I"⟩, prog_1_method_5_code, (some .int), 3900061, 3890388)
def am_n_Desk_used : am_I := (⟨"TapestryDesk", "used", "(I)I"⟩, prog_1_method_6_code, (some .int), 4100061, 4090408)
def am_n_Desk_floats : am_I := (⟨"TapestryDesk", "floats", "(III)I"⟩, prog_1_method_7_code, (some .int), 4220061, 4210420)
def am_n_Desk_run : am_I := (⟨"TapestryDesk", "run", "(IIIIII)I"⟩, prog_1_method_8_code, (some .int), 4380061, 4370436)
def am_n_Desk_handle : am_I := (⟨"TapestryDesk", "handle", "(I)I"⟩, prog_1_method_9_code, (some .int), 6150061, 6140613)
def am_n_Desk_bind : am_I := (⟨"TapestryDesk", "bind", "(III)I"⟩, prog_1_method_10_code, (some .int), 6390061, 6380637)
def am_n_Desk_same : am_I := (⟨"TapestryDesk", "same", "(II)I"⟩, prog_1_method_11_code, (some .int), 6570061, 6560655)
def am_n_Desk_call : am_I := (⟨"TapestryDesk", "call", "(IIIIII)I"⟩, prog_1_method_12_code, (some .int), 6650061, 6640663)
def am_n_Desk_macro : am_I := (⟨"TapestryDesk", "macro", "(IIII)I"⟩, prog_1_method_13_code, (some .int), 6740061, 6730672)
def am_n_Desk_part : am_I := (⟨"TapestryDesk", "part", "(IIIIII)I"⟩, prog_1_method_14_code, (some .int), 7110061, 7100709)
def am_n_Desk_nest : am_I := (⟨"TapestryDesk", "nest", "(II)I"⟩, prog_1_method_15_code, (some .int), 7470061, 7460745)
def am_n_Desk_times : am_I := (⟨"TapestryDesk", "times", "(II)I"⟩, prog_1_method_16_code, (some .int), 7510061, 7500749)
def am_n_Desk_play : am_I := (⟨"TapestryDesk", "play", "(I)I"⟩, prog_1_method_17_code, (some .int), 7550061, 7540753)
def am_n_Desk_outcome : am_I := (⟨"TapestryDesk", "outcome", "(I)I"⟩, prog_1_method_18_code, (some .int), 7840061, 7830782)
def am_n_Desk_node : am_I := (⟨"TapestryDesk", "node", "()I"⟩, prog_1_method_19_code, (some .int), 7880061, 7870786)
def am_n_Desk_go : am_I := (⟨"TapestryDesk", "go", "(I)I"⟩, prog_1_method_20_code, (some .int), 7920061, 7910790)
def am_n_Desk_undo : am_I := (⟨"TapestryDesk", "undo", "()I"⟩, prog_1_method_21_code, (some .int), 8090061, 8080807)
def am_n_Desk_redo : am_I := (⟨"TapestryDesk", "redo", "()I"⟩, prog_1_method_22_code, (some .int), 8140061, 8130812)
def am_n_Desk_told : am_I := (⟨"TapestryDesk", "told", "(II)I"⟩, prog_1_method_23_code, (some .int), 8220061, 8210820)
def am_n_Desk_squeeze : am_I := (⟨"TapestryDesk", "squeeze", "(I)I"⟩, prog_1_method_24_code, (some .int), 8360061, 8350834)
def am_n_Desk_trace : am_I := (⟨"TapestryDesk", "trace", "()J"⟩, prog_1_method_25_code, (some .long), 8450061, 8440843)
def am_n_Desk_digest : am_I := (⟨"TapestryDesk", "digest", "()J"⟩, prog_1_method_26_code, (some .long), 8490061, 8480847)
def am_n_Desk_within : am_I := (⟨"TapestryDesk", "within", "(III)Z"⟩, prog_1_method_27_code, (some .boolean), 3610061, 99990360)
def am_n_Desk_isWool : am_I := (⟨"TapestryDesk", "isWool", "(I)Z"⟩, prog_1_method_28_code, (some .boolean), 4130061, 99990412)
def am_n_Desk_handleOf : am_I := (⟨"TapestryDesk", "handleOf", "(I)LTapestryDesk$Handle;"⟩, prog_1_method_29_code, (some (.object "TapestryDesk$Handle")), 6430061, 270642)
def am_n_Desk_macroOf : am_I := (⟨"TapestryDesk", "macroOf", "(I)LTapestryDesk$Macro;"⟩, prog_1_method_30_code, (some (.object "TapestryDesk$Macro")), 7150061, 280714)
def am_n_Desk_keepHandle : am_I := (⟨"TapestryDesk", "keepHandle", "(LTapestryDesk$Handle;)I"⟩, prog_1_method_31_code, (some .int), 6350061, 260634)
def am_n_Desk_settle : am_I := (⟨"TapestryDesk", "settle", "()I"⟩, prog_1_method_32_code, (some .int), 5960061, 240595)
def am_n_Desk_moveTo : am_I := (⟨"TapestryDesk", "moveTo", "(I)I"⟩, prog_1_method_33_code, (some .int), 8050061, 320804)
def am_n_Model_init : am_I := (⟨"TapestryDeskModel", "<init>", "()V"⟩, prog_14_method_1_code, none, 8610071, 99990860)
def am_n_Model_in : am_I := (⟨"TapestryDeskModel", "in", "(III)Z"⟩, prog_14_method_3_code, (some .boolean), 10140071, 99991013)
def am_n_Model_all : am_I := (⟨"TapestryDeskModel", "all", "(Z)V"⟩, prog_14_method_4_code, none, 8700071, 340869)
def am_n_Model_isKnot : am_I := (⟨"TapestryDeskModel", "isKnot", "(II)Z"⟩, prog_14_method_5_code, (some .boolean), 10220071, 361021)
def am_n_Model_adds : am_I := (⟨"TapestryDeskModel", "adds", "(I)I"⟩, prog_14_method_6_code, (some .int), 8660071, 330865)
def am_n_Model_keeps : am_I := (⟨"TapestryDeskModel", "keeps", "(I)V"⟩, prog_14_method_7_code, none, 8740071, 350873)
def am_n_Model_becomes : am_I := (⟨"TapestryDeskModel", "becomes", "(I)V"⟩, prog_14_method_8_code, none, 11090071, 501108)
def am_n_Model_seen : am_I := (⟨"TapestryDeskModel", "seen", "(I)I"⟩, prog_14_method_9_code, (some .int), 10260071, 371025)
def am_n_Model_cloth : am_I := (⟨"TapestryDeskModel", "cloth", "(II)I"⟩, prog_14_method_10_code, (some .int), 10110071, 10101009)
def am_n_Model_at : am_I := (⟨"TapestryDeskModel", "at", "(III)I"⟩, prog_14_method_11_code, (some .int), 10180071, 10171016)
def am_n_Model_isSelected : am_I := (⟨"TapestryDeskModel", "isSelected", "(II)I"⟩, prog_14_method_12_code, (some .int), 10300071, 10291028)
def am_n_Model_selected : am_I := (⟨"TapestryDeskModel", "selected", "()I"⟩, prog_14_method_13_code, (some .int), 10380071, 381037)
def am_n_Model_about : am_I := (⟨"TapestryDeskModel", "about", "(I)I"⟩, prog_14_method_14_code, (some .int), 10340071, 10331032)
def am_n_Model_used : am_I := (⟨"TapestryDeskModel", "used", "(I)I"⟩, prog_14_method_15_code, (some .int), 10420071, 10411040)
def am_n_Model_floats : am_I := (⟨"TapestryDeskModel", "floats", "(III)I"⟩, prog_14_method_16_code, (some .int), 10460071, 10451044)
def am_n_Model_ready : am_I := (⟨"TapestryDeskModel", "ready", "(I)I"⟩, prog_14_method_17_code, (some .int), 10620071, 411061)
def am_n_Model_paints : am_I := (⟨"TapestryDeskModel", "paints", "(III)V"⟩, prog_14_method_18_code, none, 10750071, 431074)
def am_n_Model_box : am_I := (⟨"TapestryDeskModel", "box", "()V"⟩, prog_14_method_19_code, none, 10710071, 421070)
def am_n_Model_floor : am_I := (⟨"TapestryDeskModel", "floor", "(II)I"⟩, prog_14_method_20_code, (some .int), 10860071, 99991085)
def am_n_Model_fills : am_I := (⟨"TapestryDeskModel", "fills", "(III)V"⟩, prog_14_method_21_code, none, 10790071, 441078)
def am_n_Model_lines : am_I := (⟨"TapestryDeskModel", "lines", "(IIIII)V"⟩, prog_14_method_22_code, none, 10830071, 451082)
def am_n_Model_stamps : am_I := (⟨"TapestryDeskModel", "stamps", "(IIIII)V"⟩, prog_14_method_23_code, none, 10900071, 461089)
def am_n_Model_round : am_I := (⟨"TapestryDeskModel", "round", "(II)I"⟩, prog_14_method_24_code, (some .int), 10970071, 99991096)
def am_n_Model_boxed : am_I := (⟨"TapestryDeskModel", "boxed", "(I)V"⟩, prog_14_method_25_code, none, 10940071, 471093)
def am_n_Model_looks : am_I := (⟨"TapestryDeskModel", "looks", "(I)V"⟩, prog_14_method_26_code, none, 11010071, 481100)
def am_n_Model_does : am_I := (⟨"TapestryDeskModel", "does", "(I)I"⟩, prog_14_method_27_code, (some .int), 10580071, 401057)
def am_n_Model_begins : am_I := (⟨"TapestryDeskModel", "begins", "()V"⟩, prog_14_method_28_code, none, 10540071, 391053)
def am_n_Model_differ : am_I := (⟨"TapestryDeskModel", "differ", "(II)I"⟩, prog_14_method_29_code, (some .int), 11130071, 511112)
def am_n_Model_ends : am_I := (⟨"TapestryDeskModel", "ends", "(I)I"⟩, prog_14_method_30_code, (some .int), 11050071, 491104)
def am_n_Model_run : am_I := (⟨"TapestryDeskModel", "run", "(IIIIII)I"⟩, prog_14_method_31_code, (some .int), 10500071, 10491048)
def am_n_Model_isHandle : am_I := (⟨"TapestryDeskModel", "isHandle", "(I)Z"⟩, prog_14_method_32_code, (some .boolean), 11250071, 521124)
def am_n_Model_handle : am_I := (⟨"TapestryDeskModel", "handle", "(I)I"⟩, prog_14_method_33_code, (some .int), 11170071, 11161115)
def am_n_Model_bind : am_I := (⟨"TapestryDeskModel", "bind", "(III)I"⟩, prog_14_method_34_code, (some .int), 11210071, 11201119)
def am_n_Model_same : am_I := (⟨"TapestryDeskModel", "same", "(II)I"⟩, prog_14_method_35_code, (some .int), 11290071, 11281127)
def am_n_Model_calls : am_I := (⟨"TapestryDeskModel", "calls", "(I)I"⟩, prog_14_method_36_code, (some .int), 11370071, 531136)
def am_n_Model_call : am_I := (⟨"TapestryDeskModel", "call", "(IIIIII)I"⟩, prog_14_method_37_code, (some .int), 11330071, 11321131)
def am_n_Model_isMacro : am_I := (⟨"TapestryDeskModel", "isMacro", "(I)Z"⟩, prog_14_method_38_code, (some .boolean), 11490071, 541148)
def am_n_Model_macro : am_I := (⟨"TapestryDeskModel", "macro", "(IIII)I"⟩, prog_14_method_39_code, (some .int), 11410071, 11401139)
def am_n_Model_part : am_I := (⟨"TapestryDeskModel", "part", "(IIIIII)I"⟩, prog_14_method_40_code, (some .int), 11450071, 11441143)
def am_n_Model_nest : am_I := (⟨"TapestryDeskModel", "nest", "(II)I"⟩, prog_14_method_41_code, (some .int), 11530071, 11521151)
def am_n_Model_times : am_I := (⟨"TapestryDeskModel", "times", "(II)I"⟩, prog_14_method_42_code, (some .int), 11570071, 11561155)
def am_n_Model_opens : am_I := (⟨"TapestryDeskModel", "opens", "(I)V"⟩, prog_14_method_43_code, none, 11690071, 561168)
def am_n_Model_plays : am_I := (⟨"TapestryDeskModel", "plays", "(I)I"⟩, prog_14_method_44_code, (some .int), 11650071, 551164)
def am_n_Model_play : am_I := (⟨"TapestryDeskModel", "play", "(I)I"⟩, prog_14_method_45_code, (some .int), 11610071, 11601159)
def am_n_Model_outcome : am_I := (⟨"TapestryDeskModel", "outcome", "(I)I"⟩, prog_14_method_46_code, (some .int), 11730071, 11721171)
def am_n_Model_isNode : am_I := (⟨"TapestryDeskModel", "isNode", "(I)Z"⟩, prog_14_method_47_code, (some .boolean), 11850071, 571184)
def am_n_Model_deepOf : am_I := (⟨"TapestryDeskModel", "deepOf", "(I)I"⟩, prog_14_method_48_code, (some .int), 11890071, 581188)
def am_n_Model_node : am_I := (⟨"TapestryDeskModel", "node", "()I"⟩, prog_14_method_49_code, (some .int), 11770071, 11761175)
def am_n_Model_go : am_I := (⟨"TapestryDeskModel", "go", "(I)I"⟩, prog_14_method_50_code, (some .int), 11810071, 11801179)
def am_n_Model_undo : am_I := (⟨"TapestryDeskModel", "undo", "()I"⟩, prog_14_method_51_code, (some .int), 11930071, 11921191)
def am_n_Model_under : am_I := (⟨"TapestryDeskModel", "under", "(IZ)I"⟩, prog_14_method_52_code, (some .int), 12010071, 591200)
def am_n_Model_redo : am_I := (⟨"TapestryDeskModel", "redo", "()I"⟩, prog_14_method_53_code, (some .int), 11970071, 11961195)
def am_n_Model_told : am_I := (⟨"TapestryDeskModel", "told", "(II)I"⟩, prog_14_method_54_code, (some .int), 12050071, 12041203)
def am_n_Model_squeeze : am_I := (⟨"TapestryDeskModel", "squeeze", "(I)I"⟩, prog_14_method_55_code, (some .int), 12090071, 12081207)
def am_n_Model_trace : am_I := (⟨"TapestryDeskModel", "trace", "()J"⟩, prog_14_method_56_code, (some .long), 12130071, 12121211)
def am_n_Model_digest : am_I := (⟨"TapestryDeskModel", "digest", "()J"⟩, prog_14_method_57_code, (some .long), 12170071, 12161215)
def am_n_Math_floorDiv : am_I := (⟨"java/lang/Math", "floorDiv", "(II)I"⟩, prog_15_method_47_code, (some .int), 5350072, 99990534)
def am_n_Math_floorMod : am_I := (⟨"java/lang/Math", "floorMod", "(II)I"⟩, prog_15_method_50_code, (some .int), 5540072, 99990553)
def am_n_Math_abs : am_I := (⟨"java/lang/Math", "abs", "(I)I"⟩, prog_15_method_59_code, (some .int), 5320072, 99990531)
def am_n_Math_max : am_I := (⟨"java/lang/Math", "max", "(II)I"⟩, prog_15_method_65_code, (some .int), 5080072, 99990507)
def am_n_Math_min : am_I := (⟨"java/lang/Math", "min", "(II)I"⟩, prog_15_method_69_code, (some .int), 5050072, 99990504)
def am_info (z : Nat) : am_I := (bif Nat.ble 86 z then (bif Nat.ble 129 z then (bif Nat.ble 151 z then (bif Nat.ble 162 z then (bif Nat.ble 167 z then (bif Nat.ble 170 z then (bif Nat.ble 171 z then (bif Nat.ble 172 z then am_n_Math_min else am_n_Math_max) else am_n_Math_abs) else (bif Nat.ble 168 z then (bif Nat.ble 169 z then am_n_Math_floorMod else am_n_Math_floorDiv) else am_n_Model_digest)) else (bif Nat.ble 164 z then (bif Nat.ble 165 z then (bif Nat.ble 166 z then am_n_Model_trace else am_n_Model_squeeze) else am_n_Model_told) else (bif Nat.ble 163 z then am_n_Model_redo else am_n_Model_under))) else (bif Nat.ble 156 z then (bif Nat.ble 159 z then (bif Nat.ble 160 z then (bif Nat.ble 161 z then am_n_Model_undo else am_n_Model_go) else am_n_Model_node) else (bif Nat.ble 157 z then (bif Nat.ble 158 z then am_n_Model_deepOf else am_n_Model_isNode) else am_n_Model_outcome)) else (bif Nat.ble 153 z then (bif Nat.ble 154 z then (bif Nat.ble 155 z then am_n_Model_play else am_n_Model_plays) else am_n_Model_opens) else (bif Nat.ble 152 z then am_n_Model_times else am_n_Model_nest)))) else (bif Nat.ble 140 z then (bif Nat.ble 145 z then (bif Nat.ble 148 z then (bif Nat.ble 149 z then (bif Nat.ble 150 z then am_n_Model_part else am_n_Model_macro) else am_n_Model_isMacro) else (bif Nat.ble 146 z then (bif Nat.ble 147 z then am_n_Model_call else am_n_Model_calls) else am_n_Model_same)) else (bif Nat.ble 142 z then (bif Nat.ble 143 z then (bif Nat.ble 144 z then am_n_Model_bind else am_n_Model_handle) else am_n_Model_isHandle) else (bif Nat.ble 141 z then am_n_Model_run else am_n_Model_ends))) else (bif Nat.ble 134 z then (bif Nat.ble 137 z then (bif Nat.ble 138 z then (bif Nat.ble 139 z then am_n_Model_differ else am_n_Model_begins) else am_n_Model_does) else (bif Nat.ble 135 z then (bif Nat.ble 136 z then am_n_Model_looks else am_n_Model_boxed) else am_n_Model_round)) else (bif Nat.ble 131 z then (bif Nat.ble 132 z then (bif Nat.ble 133 z then am_n_Model_stamps else am_n_Model_lines) else am_n_Model_fills) else (bif Nat.ble 130 z then am_n_Model_floor else am_n_Model_box))))) else (bif Nat.ble 107 z then (bif Nat.ble 118 z then (bif Nat.ble 123 z then (bif Nat.ble 126 z then (bif Nat.ble 127 z then (bif Nat.ble 128 z then am_n_Model_paints else am_n_Model_ready) else am_n_Model_floats) else (bif Nat.ble 124 z then (bif Nat.ble 125 z then am_n_Model_used else am_n_Model_about) else am_n_Model_selected)) else (bif Nat.ble 120 z then (bif Nat.ble 121 z then (bif Nat.ble 122 z then am_n_Model_isSelected else am_n_Model_at) else am_n_Model_cloth) else (bif Nat.ble 119 z then am_n_Model_seen else am_n_Model_becomes))) else (bif Nat.ble 112 z then (bif Nat.ble 115 z then (bif Nat.ble 116 z then (bif Nat.ble 117 z then am_n_Model_keeps else am_n_Model_adds) else am_n_Model_isKnot) else (bif Nat.ble 113 z then (bif Nat.ble 114 z then am_n_Model_all else am_n_Model_in) else am_n_Model_init)) else (bif Nat.ble 109 z then (bif Nat.ble 110 z then (bif Nat.ble 111 z then am_n_Desk_moveTo else am_n_Desk_settle) else am_n_Desk_keepHandle) else (bif Nat.ble 108 z then am_n_Desk_macroOf else am_n_Desk_handleOf)))) else (bif Nat.ble 96 z then (bif Nat.ble 101 z then (bif Nat.ble 104 z then (bif Nat.ble 105 z then (bif Nat.ble 106 z then am_n_Desk_isWool else am_n_Desk_within) else am_n_Desk_digest) else (bif Nat.ble 102 z then (bif Nat.ble 103 z then am_n_Desk_trace else am_n_Desk_squeeze) else am_n_Desk_told)) else (bif Nat.ble 98 z then (bif Nat.ble 99 z then (bif Nat.ble 100 z then am_n_Desk_redo else am_n_Desk_undo) else am_n_Desk_go) else (bif Nat.ble 97 z then am_n_Desk_node else am_n_Desk_outcome))) else (bif Nat.ble 91 z then (bif Nat.ble 93 z then (bif Nat.ble 94 z then (bif Nat.ble 95 z then am_n_Desk_play else am_n_Desk_times) else am_n_Desk_nest) else (bif Nat.ble 92 z then am_n_Desk_part else am_n_Desk_macro)) else (bif Nat.ble 88 z then (bif Nat.ble 89 z then (bif Nat.ble 90 z then am_n_Desk_call else am_n_Desk_same) else am_n_Desk_bind) else (bif Nat.ble 87 z then am_n_Desk_handle else am_n_Desk_run)))))) else (bif Nat.ble 43 z then (bif Nat.ble 64 z then (bif Nat.ble 75 z then (bif Nat.ble 80 z then (bif Nat.ble 83 z then (bif Nat.ble 84 z then (bif Nat.ble 85 z then am_n_Desk_floats else am_n_Desk_used) else am_n_Desk_about) else (bif Nat.ble 81 z then (bif Nat.ble 82 z then am_n_Desk_isSelected else am_n_Desk_at) else am_n_Desk_cloth)) else (bif Nat.ble 77 z then (bif Nat.ble 78 z then (bif Nat.ble 79 z then am_n_Desk_init else am_n_Tree_takeOut) else am_n_Tree_stepsBetween) else (bif Nat.ble 76 z then am_n_Tree_changedIn else am_n_Tree_highestUnder))) else (bif Nat.ble 69 z then (bif Nat.ble 72 z then (bif Nat.ble 73 z then (bif Nat.ble 74 z then am_n_Tree_countUnder else am_n_Tree_thereCount) else am_n_Tree_parentOf) else (bif Nat.ble 70 z then (bif Nat.ble 71 z then am_n_Tree_clothOf else am_n_Tree_has) else am_n_Tree_find)) else (bif Nat.ble 66 z then (bif Nat.ble 67 z then (bif Nat.ble 68 z then am_n_Tree_grow else am_n_Tree_isFull) else am_n_Tree_plant) else (bif Nat.ble 65 z then am_n_Tree_init else am_n_Runner_fail)))) else (bif Nat.ble 53 z then (bif Nat.ble 58 z then (bif Nat.ble 61 z then (bif Nat.ble 62 z then (bif Nat.ble 63 z then am_n_Runner_callParts else am_n_Runner_isTrue) else am_n_Runner_roundsOf) else (bif Nat.ble 59 z then (bif Nat.ble 60 z then am_n_Runner_callMacro else am_n_Runner_perform) else am_n_Runner_begin)) else (bif Nat.ble 55 z then (bif Nat.ble 56 z then (bif Nat.ble 57 z then am_n_Runner_init else am_n_Readiness_hasFitNumbers) else am_n_Readiness_hasItsBlock) else (bif Nat.ble 54 z then am_n_Readiness_failureAsLook else am_n_Readiness_hasFitWools))) else (bif Nat.ble 48 z then (bif Nat.ble 50 z then (bif Nat.ble 51 z then (bif Nat.ble 52 z then am_n_Readiness_failureAt else am_n_Readiness_ask) else am_n_Readiness_init) else (bif Nat.ble 49 z then am_n_Part_init else am_n_Painter_mend)) else (bif Nat.ble 45 z then (bif Nat.ble 46 z then (bif Nat.ble 47 z then am_n_Painter_swap else am_n_Painter_border) else am_n_Painter_shift) else (bif Nat.ble 44 z then am_n_Painter_mirror else am_n_Painter_woolBefore))))) else (bif Nat.ble 21 z then (bif Nat.ble 32 z then (bif Nat.ble 37 z then (bif Nat.ble 40 z then (bif Nat.ble 41 z then (bif Nat.ble 42 z then am_n_Painter_keepBefore else am_n_Painter_measureBox) else am_n_Painter_stamp) else (bif Nat.ble 38 z then (bif Nat.ble 39 z then am_n_Painter_line else am_n_Painter_fill) else am_n_Painter_carryOut)) else (bif Nat.ble 34 z then (bif Nat.ble 35 z then (bif Nat.ble 36 z then am_n_Painter_init else am_n_Node_init) else am_n_Macro_partOf) else (bif Nat.ble 33 z then am_n_Macro_join else am_n_Macro_isFull))) else (bif Nat.ble 26 z then (bif Nat.ble 29 z then (bif Nat.ble 30 z then (bif Nat.ble 31 z then am_n_Macro_init else am_n_Looker_show) else am_n_Looker_pick) else (bif Nat.ble 27 z then (bif Nat.ble 28 z then am_n_Looker_isKept else am_n_Looker_select) else am_n_Looker_carryOut)) else (bif Nat.ble 23 z then (bif Nat.ble 24 z then (bif Nat.ble 25 z then am_n_Looker_init else am_n_Handle_fillIn) else am_n_Handle_isLike) else (bif Nat.ble 22 z then am_n_Handle_withBound else am_n_Handle_isBound)))) else (bif Nat.ble 10 z then (bif Nat.ble 15 z then (bif Nat.ble 18 z then (bif Nat.ble 19 z then (bif Nat.ble 20 z then am_n_Handle_init else am_n_Command_put) else am_n_Command_fillIn) else (bif Nat.ble 16 z then (bif Nat.ble 17 z then am_n_Command_init else am_n_Cloth_fingerprint) else am_n_Cloth_tellFloat)) else (bif Nat.ble 12 z then (bif Nat.ble 13 z then (bif Nat.ble 14 z then am_n_Cloth_floatFrom else am_n_Cloth_findFloat) else am_n_Cloth_hasWoolsOf) else (bif Nat.ble 11 z then am_n_Cloth_changedFrom else am_n_Cloth_seenCount))) else (bif Nat.ble 5 z then (bif Nat.ble 7 z then (bif Nat.ble 8 z then (bif Nat.ble 9 z then am_n_Cloth_chosenCount else am_n_Cloth_paint) else am_n_Cloth_choose) else (bif Nat.ble 6 z then am_n_Cloth_isChosen else am_n_Cloth_seenAt)) else (bif Nat.ble 2 z then (bif Nat.ble 3 z then (bif Nat.ble 4 z then am_n_Cloth_woolAt else am_n_Cloth_isKnot) else am_n_Cloth_copyFrom) else (bif Nat.ble 1 z then am_n_Cloth_weave else am_n_Cloth_init)))))))
def am_count : Nat := 173
end
section
/-! every row of the tables is what the Statement says: by computation -/
def am_an (t : Nat) : String := match t with | 2 => am_RNode | 3 => am_RHandle | 4 => am_RMacro | _ => am_RPart
def am_dv (ty : FieldType) : Value := match ty with
  | .int => .int 0
  | .boolean => .int 0
  | .long => .long 0
  | _ => .null
def am_len (i : ClassFile.Instr) : Nat := match i with
  | .iload _ => 2
  | .lload _ => 2
  | .aload _ => 2
  | .istore _ => 2
  | .lstore _ => 2
  | .astore _ => 2
  | .bipush _ => 2
  | .newarray _ => 2
  | .sipush _ => 3
  | .ldc2_w _ => 3
  | .iinc _ _ => 3
  | .ifCond _ _ => 3
  | .if_icmp _ _ => 3
  | .goto _ => 3
  | .ifnull _ => 3
  | .ifnonnull _ => 3
  | .getfield _ => 3
  | .putfield _ => 3
  | .getstatic _ => 3
  | .new _ => 3
  | .anewarray _ => 3
  | .invokevirtual _ => 3
  | .invokespecial _ => 3
  | .invokestatic _ => 3
  | .tableswitch _ _ _ _ => 0
  | .lookupswitch _ _ => 0
  | _ => 1
def am_w (pl : Nat) (w : Cond) : Bool := decide (lw_tbl[pl]? = some w)
def am_tok (pc : Nat) (off : Int) : Bool := decide (0 ≤ (pc : Int) + off)
def am_fld (own nm : String) (put : Bool) (k aux : Nat) : Bool := match am_cl[aux / 1000000]? with
  | some (C, T, N) => Nat.blt (aux / 10000 % 100) N && am_w (aux % 10000) (.fieldLink own k C (T (aux / 10000 % 100)).2.1 (T (aux / 10000 % 100)).2.2.1) && (!put || !(T (aux / 10000 % 100)).2.2.2 || (nm == "<init>" && C == own))
  | none => false
def am_mlk (own : String) (k aux : Nat) : Bool := am_w (aux % 10000) (.methodLink own k (am_info (aux / 10000)).1) || am_w (aux % 10000) (.methodLinkNest own k (am_info (aux / 10000)).1 "TapestryDesk")
def am_res (own nm : String) (pc : Nat) (i : ClassFile.Instr) (aux : Nat) : Bool := match i with
  | .ifCond _ off => am_tok pc off
  | .if_icmp _ off => am_tok pc off
  | .goto off => am_tok pc off
  | .ifnull off => am_tok pc off
  | .ifnonnull off => am_tok pc off
  | .tableswitch df _ _ offs => am_tok pc df && offs.toList.all (am_tok pc)
  | .lookupswitch df ps => am_tok pc df && ps.toList.all (fun q => am_tok pc q.2) && (ps.toList.zip (ps.toList.drop 1)).all (fun (a, next) => a.1 < next.1)
  | .getfield k => am_fld own nm false k aux
  | .putfield k => am_fld own nm true k aux
  | .getstatic k => Nat.blt (aux / 10000) 5 && am_w (aux % 10000) (.fieldLink own k (am_sC (aux / 10000)) (am_sN (aux / 10000)) "[I")
  | .ldc2_w k => am_w (aux % 10000) (.constantLong own k (Int64.ofNat (aux / 10000)))
  | .new k => match am_cl[aux / 10000]? with
    | some (C, _, _) => am_w (aux % 10000) (.classLink own k C)
    | none => false
  | .anewarray k => Nat.ble 2 (aux / 10000) && Nat.blt (aux / 10000) 6 && am_w (aux % 10000) (.classLink own k (am_an (aux / 10000)))
  | .newarray a => (decide (a = .int) && Nat.beq aux 0) || (decide (a = .boolean) && Nat.beq aux 10000)
  | .invokevirtual k => Nat.blt (aux / 10000) am_count && am_w (aux % 10000) (.methodLink own k (am_info (aux / 10000)).1)
  | .invokespecial k => (Nat.beq (aux / 10000) 1000 && am_w (aux % 10000) (.methodLink own k Lib.objectInit)) || (Nat.blt (aux / 10000) am_count && am_mlk own k aux)
  | .invokestatic k => (Nat.beq (aux / 10000) 1001 && am_w (aux % 10000) (.methodLink own k arraycopyName)) || (Nat.blt (aux / 10000) am_count && am_mlk own k aux)
  | _ => true
def am_chk (z pc : Nat) : Bool := match (am_meth z).2.1 pc with
  | none => true
  | some (i, len, aux) => decide (decode (am_info z).2.1 pc = .ok (i, len)) && (Nat.beq (am_len i) 0 || Nat.beq (am_len i) len) && am_res (am_info z).1.cls (am_info z).1.name pc i aux
def am_all (z : Nat) : Bool := (List.range (am_meth z).1).all (am_chk z)
def am_rk (k : Nat) (r : Option FieldType) : Bool := match k, r with
  | 0, none => true
  | 1, some .int => true
  | 2, some .boolean => true
  | 3, some .long => true
  | 4, some (.object _) => true
  | _, _ => false
def am_rcc (rc : Nat) (y : MethodName) : Bool := match am_cl[rc - 1]? with
  | some (C, _, _) => y.cls == C && !(y.name == "<init>")
  | none => false
/-- a method's own words -/
def am_mok (z : Nat) : Bool :=
  am_w ((am_info z).2.2.2.1 % 10000) (.initialized (am_info z).1.cls) &&
  decide ((parseMethodDescriptor (am_info z).1.desc).map (fun d => d.parameters.length) = some ((am_meth z).2.2.2.1 - (if (am_meth z).2.2.2.2.2 = 0 then 0 else 1))) &&
  plainFor (am_info z).1 && decide ((am_info z).1.cls ≠ "java/lang/invoke/MethodHandle") && decide ((am_info z).1.cls ≠ "java/lang/invoke/VarHandle") &&
  am_rk (am_meth z).2.2.2.2.1 (am_info z).2.2.1 && Nat.ble ((am_meth z).2.2.1 + 19) 64 && Nat.ble (am_meth z).2.2.2.1 (am_meth z).2.2.1 &&
  (bif Nat.beq (am_meth z).2.2.2.2.2 0 then am_w ((am_info z).2.2.2.2 % 10000) (.static (am_info z).1)
   else Nat.blt 0 (am_meth z).2.2.2.1 && am_w ((am_info z).2.2.2.2 % 10000) (.instanceMethod (am_info z).1) && (bif Nat.blt 100 (am_meth z).2.2.2.2.2 then ((am_info z).1.name == "<init>") && am_rk 0 (am_info z).2.2.1
    else am_rcc (am_meth z).2.2.2.2.2 (am_info z).1 && am_w ((am_info z).2.2.2.2 / 10000) (.selects (am_info z).1.cls (am_info z).1 (am_info z).1)))
def am_cok (ci : Nat) : Bool := match am_cl[ci]?, am_cy[ci]? with
  | some (C, T, N), some y => (u_ws C T N).all (fun w => decide (w ∈ lw_tbl) && goodWord w) && (List.range N).all (fun k => decide (parseFieldDescriptor (T k).2.2.1 = some (y k)) && decide ((T k).1 = C) && decide (defaultValue (y k) = am_dv (y k))) &&
      (List.range N).all (fun a => (List.range N).all (fun b => decide (a = b) || decide ((T a).2.1 ≠ (T b).2.1))) && decide (Cond.instantiable C N ∈ lw_tbl) && decide (Cond.initialized C ∈ lw_tbl)
  | _, _ => false
end
section
theorem am_all_0 : (List.range 12).all (fun k => am_all (0 + k)) = true := by decide +kernel
theorem am_all_1 : (List.range 12).all (fun k => am_all (12 + k)) = true := by decide +kernel
theorem am_all_2 : (List.range 12).all (fun k => am_all (24 + k)) = true := by decide +kernel
theorem am_all_3 : (List.range 12).all (fun k => am_all (36 + k)) = true := by decide +kernel
theorem am_all_4 : (List.range 12).all (fun k => am_all (48 + k)) = true := by decide +kernel
theorem am_all_5 : (List.range 12).all (fun k => am_all (60 + k)) = true := by decide +kernel
end
section
theorem am_all_6 : (List.range 12).all (fun k => am_all (72 + k)) = true := by decide +kernel
theorem am_all_7 : (List.range 12).all (fun k => am_all (84 + k)) = true := by decide +kernel
end
section
theorem am_all_8 : (List.range 12).all (fun k => am_all (96 + k)) = true := by decide +kernel
theorem am_all_9 : (List.range 12).all (fun k => am_all (108 + k)) = true := by decide +kernel
end
section
theorem am_all_10 : (List.range 12).all (fun k => am_all (120 + k)) = true := by decide +kernel
theorem am_all_11 : (List.range 12).all (fun k => am_all (132 + k)) = true := by decide +kernel
end
section
theorem am_all_12 : (List.range 12).all (fun k => am_all (144 + k)) = true := by decide +kernel
theorem am_all_13 : (List.range 12).all (fun k => am_all (156 + k)) = true := by decide +kernel
theorem am_all_14 : (List.range 5).all (fun k => am_all (168 + k)) = true := by decide +kernel
end
section
theorem am_moks_0 : (List.range 30).all (fun k => am_mok (0 + k)) = true := by decide +kernel
theorem am_moks_1 : (List.range 30).all (fun k => am_mok (30 + k)) = true := by decide +kernel
theorem am_moks_2 : (List.range 30).all (fun k => am_mok (60 + k)) = true := by decide +kernel
theorem am_moks_3 : (List.range 30).all (fun k => am_mok (90 + k)) = true := by decide +kernel
theorem am_moks_4 : (List.range 30).all (fun k => am_mok (120 + k)) = true := by decide +kernel
theorem am_moks_5 : (List.range 23).all (fun k => am_mok (150 + k)) = true := by decide +kernel
theorem am_coks : (List.range 13).all am_cok = true := by decide +kernel
end
section
set_option maxRecDepth 100000 in
theorem am_cw_0 : lw_tbl[(am_info 0).2.2.2.1 / 10000]? = some (Cond.code (am_info 0).1 (am_info 0).2.1 (am_meth 0).2.2.1 (am_info 0).2.2.1) := rfl
set_option maxRecDepth 100000 in
theorem am_cw_1 : lw_tbl[(am_info 1).2.2.2.1 / 10000]? = some (Cond.code (am_info 1).1 (am_info 1).2.1 (am_meth 1).2.2.1 (am_info 1).2.2.1) := rfl
set_option maxRecDepth 100000 in
theorem am_cw_2 : lw_tbl[(am_info 2).2.2.2.1 / 10000]? = some (Cond.code (am_info 2).1 (am_info 2).2.1 (am_meth 2).2.2.1 (am_info 2).2.2.1) := rfl
set_option maxRecDepth 100000 in
theorem am_cw_3 : lw_tbl[(am_info 3).2.2.2.1 / 10000]? = some (Cond.code (am_info 3).1 (am_info 3).2.1 (am_meth 3).2.2.1 (am_info 3).2.2.1) := rfl
set_option maxRecDepth 100000 in
theorem am_cw_4 : lw_tbl[(am_info 4).2.2.2.1 / 10000]? = some (Cond.code (am_info 4).1 (am_info 4).2.1 (am_meth 4).2.2.1 (am_info 4).2.2.1) := rfl
set_option maxRecDepth 100000 in
theorem am_cw_5 : lw_tbl[(am_info 5).2.2.2.1 / 10000]? = some (Cond.code (am_info 5).1 (am_info 5).2.1 (am_meth 5).2.2.1 (am_info 5).2.2.1) := rfl
set_option maxRecDepth 100000 in
theorem am_cw_6 : lw_tbl[(am_info 6).2.2.2.1 / 10000]? = some (Cond.code (am_info 6).1 (am_info 6).2.1 (am_meth 6).2.2.1 (am_info 6).2.2.1) := rfl
set_option maxRecDepth 100000 in
theorem am_cw_7 : lw_tbl[(am_info 7).2.2.2.1 / 10000]? = some (Cond.code (am_info 7).1 (am_info 7).2.1 (am_meth 7).2.2.1 (am_info 7).2.2.1) := rfl
set_option maxRecDepth 100000 in
theorem am_cw_8 : lw_tbl[(am_info 8).2.2.2.1 / 10000]? = some (Cond.code (am_info 8).1 (am_info 8).2.1 (am_meth 8).2.2.1 (am_info 8).2.2.1) := rfl
set_option maxRecDepth 100000 in
theorem am_cw_9 : lw_tbl[(am_info 9).2.2.2.1 / 10000]? = some (Cond.code (am_info 9).1 (am_info 9).2.1 (am_meth 9).2.2.1 (am_info 9).2.2.1) := rfl
set_option maxRecDepth 100000 in
theorem am_cw_10 : lw_tbl[(am_info 10).2.2.2.1 / 10000]? = some (Cond.code (am_info 10).1 (am_info 10).2.1 (am_meth 10).2.2.1 (am_info 10).2.2.1) := rfl
set_option maxRecDepth 100000 in
theorem am_cw_11 : lw_tbl[(am_info 11).2.2.2.1 / 10000]? = some (Cond.code (am_info 11).1 (am_info 11).2.1 (am_meth 11).2.2.1 (am_info 11).2.2.1) := rfl
set_option maxRecDepth 100000 in
theorem am_cw_12 : lw_tbl[(am_info 12).2.2.2.1 / 10000]? = some (Cond.code (am_info 12).1 (am_info 12).2.1 (am_meth 12).2.2.1 (am_info 12).2.2.1) := rfl
set_option maxRecDepth 100000 in
theorem am_cw_13 : lw_tbl[(am_info 13).2.2.2.1 / 10000]? = some (Cond.code (am_info 13).1 (am_info 13).2.1 (am_meth 13).2.2.1 (am_info 13).2.2.1) := rfl
set_option maxRecDepth 100000 in
theorem am_cw_14 : lw_tbl[(am_info 14).2.2.2.1 / 10000]? = some (Cond.code (am_info 14).1 (am_info 14).2.1 (am_meth 14).2.2.1 (am_info 14).2.2.1) := rfl
set_option maxRecDepth 100000 in
theorem am_cw_15 : lw_tbl[(am_info 15).2.2.2.1 / 10000]? = some (Cond.code (am_info 15).1 (am_info 15).2.1 (am_meth 15).2.2.1 (am_info 15).2.2.1) := rfl
set_option maxRecDepth 100000 in
theorem am_cw_16 : lw_tbl[(am_info 16).2.2.2.1 / 10000]? = some (Cond.code (am_info 16).1 (am_info 16).2.1 (am_meth 16).2.2.1 (am_info 16).2.2.1) := rfl
set_option maxRecDepth 100000 in
theorem am_cw_17 : lw_tbl[(am_info 17).2.2.2.1 / 10000]? = some (Cond.code (am_info 17).1 (am_info 17).2.1 (am_meth 17).2.2.1 (am_info 17).2.2.1) := rfl
set_option maxRecDepth 100000 in
theorem am_cw_18 : lw_tbl[(am_info 18).2.2.2.1 / 10000]? = some (Cond.code (am_info 18).1 (am_info 18).2.1 (am_meth 18).2.2.1 (am_info 18).2.2.1) := rfl
set_option maxRecDepth 100000 in
theorem am_cw_19 : lw_tbl[(am_info 19).2.2.2.1 / 10000]? = some (Cond.code (am_info 19).1 (am_info 19).2.1 (am_meth 19).2.2.1 (am_info 19).2.2.1) := rfl
set_option maxRecDepth 100000 in
theorem am_cw_20 : lw_tbl[(am_info 20).2.2.2.1 / 10000]? = some (Cond.code (am_info 20).1 (am_info 20).2.1 (am_meth 20).2.2.1 (am_info 20).2.2.1) := rfl
set_option maxRecDepth 100000 in
theorem am_cw_21 : lw_tbl[(am_info 21).2.2.2.1 / 10000]? = some (Cond.code (am_info 21).1 (am_info 21).2.1 (am_meth 21).2.2.1 (am_info 21).2.2.1) := rfl
set_option maxRecDepth 100000 in
theorem am_cw_22 : lw_tbl[(am_info 22).2.2.2.1 / 10000]? = some (Cond.code (am_info 22).1 (am_info 22).2.1 (am_meth 22).2.2.1 (am_info 22).2.2.1) := rfl
set_option maxRecDepth 100000 in
theorem am_cw_23 : lw_tbl[(am_info 23).2.2.2.1 / 10000]? = some (Cond.code (am_info 23).1 (am_info 23).2.1 (am_meth 23).2.2.1 (am_info 23).2.2.1) := rfl
set_option maxRecDepth 100000 in
theorem am_cw_24 : lw_tbl[(am_info 24).2.2.2.1 / 10000]? = some (Cond.code (am_info 24).1 (am_info 24).2.1 (am_meth 24).2.2.1 (am_info 24).2.2.1) := rfl
set_option maxRecDepth 100000 in
theorem am_cw_25 : lw_tbl[(am_info 25).2.2.2.1 / 10000]? = some (Cond.code (am_info 25).1 (am_info 25).2.1 (am_meth 25).2.2.1 (am_info 25).2.2.1) := rfl
set_option maxRecDepth 100000 in
theorem am_cw_26 : lw_tbl[(am_info 26).2.2.2.1 / 10000]? = some (Cond.code (am_info 26).1 (am_info 26).2.1 (am_meth 26).2.2.1 (am_info 26).2.2.1) := rfl
set_option maxRecDepth 100000 in
theorem am_cw_27 : lw_tbl[(am_info 27).2.2.2.1 / 10000]? = some (Cond.code (am_info 27).1 (am_info 27).2.1 (am_meth 27).2.2.1 (am_info 27).2.2.1) := rfl
set_option maxRecDepth 100000 in
theorem am_cw_28 : lw_tbl[(am_info 28).2.2.2.1 / 10000]? = some (Cond.code (am_info 28).1 (am_info 28).2.1 (am_meth 28).2.2.1 (am_info 28).2.2.1) := rfl
set_option maxRecDepth 100000 in
theorem am_cw_29 : lw_tbl[(am_info 29).2.2.2.1 / 10000]? = some (Cond.code (am_info 29).1 (am_info 29).2.1 (am_meth 29).2.2.1 (am_info 29).2.2.1) := rfl
set_option maxRecDepth 100000 in
theorem am_cw_30 : lw_tbl[(am_info 30).2.2.2.1 / 10000]? = some (Cond.code (am_info 30).1 (am_info 30).2.1 (am_meth 30).2.2.1 (am_info 30).2.2.1) := rfl
set_option maxRecDepth 100000 in
theorem am_cw_31 : lw_tbl[(am_info 31).2.2.2.1 / 10000]? = some (Cond.code (am_info 31).1 (am_info 31).2.1 (am_meth 31).2.2.1 (am_info 31).2.2.1) := rfl
set_option maxRecDepth 100000 in
theorem am_cw_32 : lw_tbl[(am_info 32).2.2.2.1 / 10000]? = some (Cond.code (am_info 32).1 (am_info 32).2.1 (am_meth 32).2.2.1 (am_info 32).2.2.1) := rfl
set_option maxRecDepth 100000 in
theorem am_cw_33 : lw_tbl[(am_info 33).2.2.2.1 / 10000]? = some (Cond.code (am_info 33).1 (am_info 33).2.1 (am_meth 33).2.2.1 (am_info 33).2.2.1) := rfl
set_option maxRecDepth 100000 in
theorem am_cw_34 : lw_tbl[(am_info 34).2.2.2.1 / 10000]? = some (Cond.code (am_info 34).1 (am_info 34).2.1 (am_meth 34).2.2.1 (am_info 34).2.2.1) := rfl
set_option maxRecDepth 100000 in
theorem am_cw_35 : lw_tbl[(am_info 35).2.2.2.1 / 10000]? = some (Cond.code (am_info 35).1 (am_info 35).2.1 (am_meth 35).2.2.1 (am_info 35).2.2.1) := rfl
set_option maxRecDepth 100000 in
theorem am_cw_36 : lw_tbl[(am_info 36).2.2.2.1 / 10000]? = some (Cond.code (am_info 36).1 (am_info 36).2.1 (am_meth 36).2.2.1 (am_info 36).2.2.1) := rfl
set_option maxRecDepth 100000 in
theorem am_cw_37 : lw_tbl[(am_info 37).2.2.2.1 / 10000]? = some (Cond.code (am_info 37).1 (am_info 37).2.1 (am_meth 37).2.2.1 (am_info 37).2.2.1) := rfl
set_option maxRecDepth 100000 in
theorem am_cw_38 : lw_tbl[(am_info 38).2.2.2.1 / 10000]? = some (Cond.code (am_info 38).1 (am_info 38).2.1 (am_meth 38).2.2.1 (am_info 38).2.2.1) := rfl
set_option maxRecDepth 100000 in
theorem am_cw_39 : lw_tbl[(am_info 39).2.2.2.1 / 10000]? = some (Cond.code (am_info 39).1 (am_info 39).2.1 (am_meth 39).2.2.1 (am_info 39).2.2.1) := rfl
set_option maxRecDepth 100000 in
theorem am_cw_40 : lw_tbl[(am_info 40).2.2.2.1 / 10000]? = some (Cond.code (am_info 40).1 (am_info 40).2.1 (am_meth 40).2.2.1 (am_info 40).2.2.1) := rfl
set_option maxRecDepth 100000 in
theorem am_cw_41 : lw_tbl[(am_info 41).2.2.2.1 / 10000]? = some (Cond.code (am_info 41).1 (am_info 41).2.1 (am_meth 41).2.2.1 (am_info 41).2.2.1) := rfl
set_option maxRecDepth 100000 in
theorem am_cw_42 : lw_tbl[(am_info 42).2.2.2.1 / 10000]? = some (Cond.code (am_info 42).1 (am_info 42).2.1 (am_meth 42).2.2.1 (am_info 42).2.2.1) := rfl
set_option maxRecDepth 100000 in
theorem am_cw_43 : lw_tbl[(am_info 43).2.2.2.1 / 10000]? = some (Cond.code (am_info 43).1 (am_info 43).2.1 (am_meth 43).2.2.1 (am_info 43).2.2.1) := rfl
set_option maxRecDepth 100000 in
theorem am_cw_44 : lw_tbl[(am_info 44).2.2.2.1 / 10000]? = some (Cond.code (am_info 44).1 (am_info 44).2.1 (am_meth 44).2.2.1 (am_info 44).2.2.1) := rfl
set_option maxRecDepth 100000 in
theorem am_cw_45 : lw_tbl[(am_info 45).2.2.2.1 / 10000]? = some (Cond.code (am_info 45).1 (am_info 45).2.1 (am_meth 45).2.2.1 (am_info 45).2.2.1) := rfl
set_option maxRecDepth 100000 in
theorem am_cw_46 : lw_tbl[(am_info 46).2.2.2.1 / 10000]? = some (Cond.code (am_info 46).1 (am_info 46).2.1 (am_meth 46).2.2.1 (am_info 46).2.2.1) := rfl
set_option maxRecDepth 100000 in
theorem am_cw_47 : lw_tbl[(am_info 47).2.2.2.1 / 10000]? = some (Cond.code (am_info 47).1 (am_info 47).2.1 (am_meth 47).2.2.1 (am_info 47).2.2.1) := rfl
set_option maxRecDepth 100000 in
theorem am_cw_48 : lw_tbl[(am_info 48).2.2.2.1 / 10000]? = some (Cond.code (am_info 48).1 (am_info 48).2.1 (am_meth 48).2.2.1 (am_info 48).2.2.1) := rfl
set_option maxRecDepth 100000 in
theorem am_cw_49 : lw_tbl[(am_info 49).2.2.2.1 / 10000]? = some (Cond.code (am_info 49).1 (am_info 49).2.1 (am_meth 49).2.2.1 (am_info 49).2.2.1) := rfl
set_option maxRecDepth 100000 in
theorem am_cw_50 : lw_tbl[(am_info 50).2.2.2.1 / 10000]? = some (Cond.code (am_info 50).1 (am_info 50).2.1 (am_meth 50).2.2.1 (am_info 50).2.2.1) := rfl
set_option maxRecDepth 100000 in
theorem am_cw_51 : lw_tbl[(am_info 51).2.2.2.1 / 10000]? = some (Cond.code (am_info 51).1 (am_info 51).2.1 (am_meth 51).2.2.1 (am_info 51).2.2.1) := rfl
set_option maxRecDepth 100000 in
theorem am_cw_52 : lw_tbl[(am_info 52).2.2.2.1 / 10000]? = some (Cond.code (am_info 52).1 (am_info 52).2.1 (am_meth 52).2.2.1 (am_info 52).2.2.1) := rfl
set_option maxRecDepth 100000 in
theorem am_cw_53 : lw_tbl[(am_info 53).2.2.2.1 / 10000]? = some (Cond.code (am_info 53).1 (am_info 53).2.1 (am_meth 53).2.2.1 (am_info 53).2.2.1) := rfl
set_option maxRecDepth 100000 in
theorem am_cw_54 : lw_tbl[(am_info 54).2.2.2.1 / 10000]? = some (Cond.code (am_info 54).1 (am_info 54).2.1 (am_meth 54).2.2.1 (am_info 54).2.2.1) := rfl
set_option maxRecDepth 100000 in
theorem am_cw_55 : lw_tbl[(am_info 55).2.2.2.1 / 10000]? = some (Cond.code (am_info 55).1 (am_info 55).2.1 (am_meth 55).2.2.1 (am_info 55).2.2.1) := rfl
set_option maxRecDepth 100000 in
theorem am_cw_56 : lw_tbl[(am_info 56).2.2.2.1 / 10000]? = some (Cond.code (am_info 56).1 (am_info 56).2.1 (am_meth 56).2.2.1 (am_info 56).2.2.1) := rfl
set_option maxRecDepth 100000 in
theorem am_cw_57 : lw_tbl[(am_info 57).2.2.2.1 / 10000]? = some (Cond.code (am_info 57).1 (am_info 57).2.1 (am_meth 57).2.2.1 (am_info 57).2.2.1) := rfl
set_option maxRecDepth 100000 in
theorem am_cw_58 : lw_tbl[(am_info 58).2.2.2.1 / 10000]? = some (Cond.code (am_info 58).1 (am_info 58).2.1 (am_meth 58).2.2.1 (am_info 58).2.2.1) := rfl
set_option maxRecDepth 100000 in
theorem am_cw_59 : lw_tbl[(am_info 59).2.2.2.1 / 10000]? = some (Cond.code (am_info 59).1 (am_info 59).2.1 (am_meth 59).2.2.1 (am_info 59).2.2.1) := rfl
set_option maxRecDepth 100000 in
theorem am_cw_60 : lw_tbl[(am_info 60).2.2.2.1 / 10000]? = some (Cond.code (am_info 60).1 (am_info 60).2.1 (am_meth 60).2.2.1 (am_info 60).2.2.1) := rfl
set_option maxRecDepth 100000 in
theorem am_cw_61 : lw_tbl[(am_info 61).2.2.2.1 / 10000]? = some (Cond.code (am_info 61).1 (am_info 61).2.1 (am_meth 61).2.2.1 (am_info 61).2.2.1) := rfl
set_option maxRecDepth 100000 in
theorem am_cw_62 : lw_tbl[(am_info 62).2.2.2.1 / 10000]? = some (Cond.code (am_info 62).1 (am_info 62).2.1 (am_meth 62).2.2.1 (am_info 62).2.2.1) := rfl
set_option maxRecDepth 100000 in
theorem am_cw_63 : lw_tbl[(am_info 63).2.2.2.1 / 10000]? = some (Cond.code (am_info 63).1 (am_info 63).2.1 (am_meth 63).2.2.1 (am_info 63).2.2.1) := rfl
set_option maxRecDepth 100000 in
theorem am_cw_64 : lw_tbl[(am_info 64).2.2.2.1 / 10000]? = some (Cond.code (am_info 64).1 (am_info 64).2.1 (am_meth 64).2.2.1 (am_info 64).2.2.1) := rfl
set_option maxRecDepth 100000 in
theorem am_cw_65 : lw_tbl[(am_info 65).2.2.2.1 / 10000]? = some (Cond.code (am_info 65).1 (am_info 65).2.1 (am_meth 65).2.2.1 (am_info 65).2.2.1) := rfl
set_option maxRecDepth 100000 in
theorem am_cw_66 : lw_tbl[(am_info 66).2.2.2.1 / 10000]? = some (Cond.code (am_info 66).1 (am_info 66).2.1 (am_meth 66).2.2.1 (am_info 66).2.2.1) := rfl
set_option maxRecDepth 100000 in
theorem am_cw_67 : lw_tbl[(am_info 67).2.2.2.1 / 10000]? = some (Cond.code (am_info 67).1 (am_info 67).2.1 (am_meth 67).2.2.1 (am_info 67).2.2.1) := rfl
set_option maxRecDepth 100000 in
theorem am_cw_68 : lw_tbl[(am_info 68).2.2.2.1 / 10000]? = some (Cond.code (am_info 68).1 (am_info 68).2.1 (am_meth 68).2.2.1 (am_info 68).2.2.1) := rfl
set_option maxRecDepth 100000 in
theorem am_cw_69 : lw_tbl[(am_info 69).2.2.2.1 / 10000]? = some (Cond.code (am_info 69).1 (am_info 69).2.1 (am_meth 69).2.2.1 (am_info 69).2.2.1) := rfl
set_option maxRecDepth 100000 in
theorem am_cw_70 : lw_tbl[(am_info 70).2.2.2.1 / 10000]? = some (Cond.code (am_info 70).1 (am_info 70).2.1 (am_meth 70).2.2.1 (am_info 70).2.2.1) := rfl
set_option maxRecDepth 100000 in
theorem am_cw_71 : lw_tbl[(am_info 71).2.2.2.1 / 10000]? = some (Cond.code (am_info 71).1 (am_info 71).2.1 (am_meth 71).2.2.1 (am_info 71).2.2.1) := rfl
set_option maxRecDepth 100000 in
theorem am_cw_72 : lw_tbl[(am_info 72).2.2.2.1 / 10000]? = some (Cond.code (am_info 72).1 (am_info 72).2.1 (am_meth 72).2.2.1 (am_info 72).2.2.1) := rfl
set_option maxRecDepth 100000 in
theorem am_cw_73 : lw_tbl[(am_info 73).2.2.2.1 / 10000]? = some (Cond.code (am_info 73).1 (am_info 73).2.1 (am_meth 73).2.2.1 (am_info 73).2.2.1) := rfl
set_option maxRecDepth 100000 in
theorem am_cw_74 : lw_tbl[(am_info 74).2.2.2.1 / 10000]? = some (Cond.code (am_info 74).1 (am_info 74).2.1 (am_meth 74).2.2.1 (am_info 74).2.2.1) := rfl
set_option maxRecDepth 100000 in
theorem am_cw_75 : lw_tbl[(am_info 75).2.2.2.1 / 10000]? = some (Cond.code (am_info 75).1 (am_info 75).2.1 (am_meth 75).2.2.1 (am_info 75).2.2.1) := rfl
set_option maxRecDepth 100000 in
theorem am_cw_76 : lw_tbl[(am_info 76).2.2.2.1 / 10000]? = some (Cond.code (am_info 76).1 (am_info 76).2.1 (am_meth 76).2.2.1 (am_info 76).2.2.1) := rfl
set_option maxRecDepth 100000 in
theorem am_cw_77 : lw_tbl[(am_info 77).2.2.2.1 / 10000]? = some (Cond.code (am_info 77).1 (am_info 77).2.1 (am_meth 77).2.2.1 (am_info 77).2.2.1) := rfl
set_option maxRecDepth 100000 in
theorem am_cw_78 : lw_tbl[(am_info 78).2.2.2.1 / 10000]? = some (Cond.code (am_info 78).1 (am_info 78).2.1 (am_meth 78).2.2.1 (am_info 78).2.2.1) := rfl
set_option maxRecDepth 100000 in
theorem am_cw_79 : lw_tbl[(am_info 79).2.2.2.1 / 10000]? = some (Cond.code (am_info 79).1 (am_info 79).2.1 (am_meth 79).2.2.1 (am_info 79).2.2.1) := rfl
set_option maxRecDepth 100000 in
theorem am_cw_80 : lw_tbl[(am_info 80).2.2.2.1 / 10000]? = some (Cond.code (am_info 80).1 (am_info 80).2.1 (am_meth 80).2.2.1 (am_info 80).2.2.1) := rfl
set_option maxRecDepth 100000 in
theorem am_cw_81 : lw_tbl[(am_info 81).2.2.2.1 / 10000]? = some (Cond.code (am_info 81).1 (am_info 81).2.1 (am_meth 81).2.2.1 (am_info 81).2.2.1) := rfl
set_option maxRecDepth 100000 in
theorem am_cw_82 : lw_tbl[(am_info 82).2.2.2.1 / 10000]? = some (Cond.code (am_info 82).1 (am_info 82).2.1 (am_meth 82).2.2.1 (am_info 82).2.2.1) := rfl
set_option maxRecDepth 100000 in
theorem am_cw_83 : lw_tbl[(am_info 83).2.2.2.1 / 10000]? = some (Cond.code (am_info 83).1 (am_info 83).2.1 (am_meth 83).2.2.1 (am_info 83).2.2.1) := rfl
set_option maxRecDepth 100000 in
theorem am_cw_84 : lw_tbl[(am_info 84).2.2.2.1 / 10000]? = some (Cond.code (am_info 84).1 (am_info 84).2.1 (am_meth 84).2.2.1 (am_info 84).2.2.1) := rfl
set_option maxRecDepth 100000 in
theorem am_cw_85 : lw_tbl[(am_info 85).2.2.2.1 / 10000]? = some (Cond.code (am_info 85).1 (am_info 85).2.1 (am_meth 85).2.2.1 (am_info 85).2.2.1) := rfl
set_option maxRecDepth 100000 in
theorem am_cw_86 : lw_tbl[(am_info 86).2.2.2.1 / 10000]? = some (Cond.code (am_info 86).1 (am_info 86).2.1 (am_meth 86).2.2.1 (am_info 86).2.2.1) := rfl
set_option maxRecDepth 100000 in
theorem am_cw_87 : lw_tbl[(am_info 87).2.2.2.1 / 10000]? = some (Cond.code (am_info 87).1 (am_info 87).2.1 (am_meth 87).2.2.1 (am_info 87).2.2.1) := rfl
set_option maxRecDepth 100000 in
theorem am_cw_88 : lw_tbl[(am_info 88).2.2.2.1 / 10000]? = some (Cond.code (am_info 88).1 (am_info 88).2.1 (am_meth 88).2.2.1 (am_info 88).2.2.1) := rfl
set_option maxRecDepth 100000 in
theorem am_cw_89 : lw_tbl[(am_info 89).2.2.2.1 / 10000]? = some (Cond.code (am_info 89).1 (am_info 89).2.1 (am_meth 89).2.2.1 (am_info 89).2.2.1) := rfl
set_option maxRecDepth 100000 in
theorem am_cw_90 : lw_tbl[(am_info 90).2.2.2.1 / 10000]? = some (Cond.code (am_info 90).1 (am_info 90).2.1 (am_meth 90).2.2.1 (am_info 90).2.2.1) := rfl
set_option maxRecDepth 100000 in
theorem am_cw_91 : lw_tbl[(am_info 91).2.2.2.1 / 10000]? = some (Cond.code (am_info 91).1 (am_info 91).2.1 (am_meth 91).2.2.1 (am_info 91).2.2.1) := rfl
set_option maxRecDepth 100000 in
theorem am_cw_92 : lw_tbl[(am_info 92).2.2.2.1 / 10000]? = some (Cond.code (am_info 92).1 (am_info 92).2.1 (am_meth 92).2.2.1 (am_info 92).2.2.1) := rfl
set_option maxRecDepth 100000 in
theorem am_cw_93 : lw_tbl[(am_info 93).2.2.2.1 / 10000]? = some (Cond.code (am_info 93).1 (am_info 93).2.1 (am_meth 93).2.2.1 (am_info 93).2.2.1) := rfl
set_option maxRecDepth 100000 in
theorem am_cw_94 : lw_tbl[(am_info 94).2.2.2.1 / 10000]? = some (Cond.code (am_info 94).1 (am_info 94).2.1 (am_meth 94).2.2.1 (am_info 94).2.2.1) := rfl
set_option maxRecDepth 100000 in
theorem am_cw_95 : lw_tbl[(am_info 95).2.2.2.1 / 10000]? = some (Cond.code (am_info 95).1 (am_info 95).2.1 (am_meth 95).2.2.1 (am_info 95).2.2.1) := rfl
set_option maxRecDepth 100000 in
theorem am_cw_96 : lw_tbl[(am_info 96).2.2.2.1 / 10000]? = some (Cond.code (am_info 96).1 (am_info 96).2.1 (am_meth 96).2.2.1 (am_info 96).2.2.1) := rfl
set_option maxRecDepth 100000 in
theorem am_cw_97 : lw_tbl[(am_info 97).2.2.2.1 / 10000]? = some (Cond.code (am_info 97).1 (am_info 97).2.1 (am_meth 97).2.2.1 (am_info 97).2.2.1) := rfl
set_option maxRecDepth 100000 in
theorem am_cw_98 : lw_tbl[(am_info 98).2.2.2.1 / 10000]? = some (Cond.code (am_info 98).1 (am_info 98).2.1 (am_meth 98).2.2.1 (am_info 98).2.2.1) := rfl
set_option maxRecDepth 100000 in
theorem am_cw_99 : lw_tbl[(am_info 99).2.2.2.1 / 10000]? = some (Cond.code (am_info 99).1 (am_info 99).2.1 (am_meth 99).2.2.1 (am_info 99).2.2.1) := rfl
set_option maxRecDepth 100000 in
theorem am_cw_100 : lw_tbl[(am_info 100).2.2.2.1 / 10000]? = some (Cond.code (am_info 100).1 (am_info 100).2.1 (am_meth 100).2.2.1 (am_info 100).2.2.1) := rfl
set_option maxRecDepth 100000 in
theorem am_cw_101 : lw_tbl[(am_info 101).2.2.2.1 / 10000]? = some (Cond.code (am_info 101).1 (am_info 101).2.1 (am_meth 101).2.2.1 (am_info 101).2.2.1) := rfl
set_option maxRecDepth 100000 in
theorem am_cw_102 : lw_tbl[(am_info 102).2.2.2.1 / 10000]? = some (Cond.code (am_info 102).1 (am_info 102).2.1 (am_meth 102).2.2.1 (am_info 102).2.2.1) := rfl
set_option maxRecDepth 100000 in
theorem am_cw_103 : lw_tbl[(am_info 103).2.2.2.1 / 10000]? = some (Cond.code (am_info 103).1 (am_info 103).2.1 (am_meth 103).2.2.1 (am_info 103).2.2.1) := rfl
set_option maxRecDepth 100000 in
theorem am_cw_104 : lw_tbl[(am_info 104).2.2.2.1 / 10000]? = some (Cond.code (am_info 104).1 (am_info 104).2.1 (am_meth 104).2.2.1 (am_info 104).2.2.1) := rfl
set_option maxRecDepth 100000 in
theorem am_cw_105 : lw_tbl[(am_info 105).2.2.2.1 / 10000]? = some (Cond.code (am_info 105).1 (am_info 105).2.1 (am_meth 105).2.2.1 (am_info 105).2.2.1) := rfl
set_option maxRecDepth 100000 in
theorem am_cw_106 : lw_tbl[(am_info 106).2.2.2.1 / 10000]? = some (Cond.code (am_info 106).1 (am_info 106).2.1 (am_meth 106).2.2.1 (am_info 106).2.2.1) := rfl
set_option maxRecDepth 100000 in
theorem am_cw_107 : lw_tbl[(am_info 107).2.2.2.1 / 10000]? = some (Cond.code (am_info 107).1 (am_info 107).2.1 (am_meth 107).2.2.1 (am_info 107).2.2.1) := rfl
set_option maxRecDepth 100000 in
theorem am_cw_108 : lw_tbl[(am_info 108).2.2.2.1 / 10000]? = some (Cond.code (am_info 108).1 (am_info 108).2.1 (am_meth 108).2.2.1 (am_info 108).2.2.1) := rfl
set_option maxRecDepth 100000 in
theorem am_cw_109 : lw_tbl[(am_info 109).2.2.2.1 / 10000]? = some (Cond.code (am_info 109).1 (am_info 109).2.1 (am_meth 109).2.2.1 (am_info 109).2.2.1) := rfl
set_option maxRecDepth 100000 in
theorem am_cw_110 : lw_tbl[(am_info 110).2.2.2.1 / 10000]? = some (Cond.code (am_info 110).1 (am_info 110).2.1 (am_meth 110).2.2.1 (am_info 110).2.2.1) := rfl
set_option maxRecDepth 100000 in
theorem am_cw_111 : lw_tbl[(am_info 111).2.2.2.1 / 10000]? = some (Cond.code (am_info 111).1 (am_info 111).2.1 (am_meth 111).2.2.1 (am_info 111).2.2.1) := rfl
set_option maxRecDepth 100000 in
theorem am_cw_112 : lw_tbl[(am_info 112).2.2.2.1 / 10000]? = some (Cond.code (am_info 112).1 (am_info 112).2.1 (am_meth 112).2.2.1 (am_info 112).2.2.1) := rfl
set_option maxRecDepth 100000 in
theorem am_cw_113 : lw_tbl[(am_info 113).2.2.2.1 / 10000]? = some (Cond.code (am_info 113).1 (am_info 113).2.1 (am_meth 113).2.2.1 (am_info 113).2.2.1) := rfl
set_option maxRecDepth 100000 in
theorem am_cw_114 : lw_tbl[(am_info 114).2.2.2.1 / 10000]? = some (Cond.code (am_info 114).1 (am_info 114).2.1 (am_meth 114).2.2.1 (am_info 114).2.2.1) := rfl
set_option maxRecDepth 100000 in
theorem am_cw_115 : lw_tbl[(am_info 115).2.2.2.1 / 10000]? = some (Cond.code (am_info 115).1 (am_info 115).2.1 (am_meth 115).2.2.1 (am_info 115).2.2.1) := rfl
set_option maxRecDepth 100000 in
theorem am_cw_116 : lw_tbl[(am_info 116).2.2.2.1 / 10000]? = some (Cond.code (am_info 116).1 (am_info 116).2.1 (am_meth 116).2.2.1 (am_info 116).2.2.1) := rfl
set_option maxRecDepth 100000 in
theorem am_cw_117 : lw_tbl[(am_info 117).2.2.2.1 / 10000]? = some (Cond.code (am_info 117).1 (am_info 117).2.1 (am_meth 117).2.2.1 (am_info 117).2.2.1) := rfl
set_option maxRecDepth 100000 in
theorem am_cw_118 : lw_tbl[(am_info 118).2.2.2.1 / 10000]? = some (Cond.code (am_info 118).1 (am_info 118).2.1 (am_meth 118).2.2.1 (am_info 118).2.2.1) := rfl
set_option maxRecDepth 100000 in
theorem am_cw_119 : lw_tbl[(am_info 119).2.2.2.1 / 10000]? = some (Cond.code (am_info 119).1 (am_info 119).2.1 (am_meth 119).2.2.1 (am_info 119).2.2.1) := rfl
set_option maxRecDepth 100000 in
theorem am_cw_120 : lw_tbl[(am_info 120).2.2.2.1 / 10000]? = some (Cond.code (am_info 120).1 (am_info 120).2.1 (am_meth 120).2.2.1 (am_info 120).2.2.1) := rfl
set_option maxRecDepth 100000 in
theorem am_cw_121 : lw_tbl[(am_info 121).2.2.2.1 / 10000]? = some (Cond.code (am_info 121).1 (am_info 121).2.1 (am_meth 121).2.2.1 (am_info 121).2.2.1) := rfl
set_option maxRecDepth 100000 in
theorem am_cw_122 : lw_tbl[(am_info 122).2.2.2.1 / 10000]? = some (Cond.code (am_info 122).1 (am_info 122).2.1 (am_meth 122).2.2.1 (am_info 122).2.2.1) := rfl
set_option maxRecDepth 100000 in
theorem am_cw_123 : lw_tbl[(am_info 123).2.2.2.1 / 10000]? = some (Cond.code (am_info 123).1 (am_info 123).2.1 (am_meth 123).2.2.1 (am_info 123).2.2.1) := rfl
set_option maxRecDepth 100000 in
theorem am_cw_124 : lw_tbl[(am_info 124).2.2.2.1 / 10000]? = some (Cond.code (am_info 124).1 (am_info 124).2.1 (am_meth 124).2.2.1 (am_info 124).2.2.1) := rfl
set_option maxRecDepth 100000 in
theorem am_cw_125 : lw_tbl[(am_info 125).2.2.2.1 / 10000]? = some (Cond.code (am_info 125).1 (am_info 125).2.1 (am_meth 125).2.2.1 (am_info 125).2.2.1) := rfl
set_option maxRecDepth 100000 in
theorem am_cw_126 : lw_tbl[(am_info 126).2.2.2.1 / 10000]? = some (Cond.code (am_info 126).1 (am_info 126).2.1 (am_meth 126).2.2.1 (am_info 126).2.2.1) := rfl
set_option maxRecDepth 100000 in
theorem am_cw_127 : lw_tbl[(am_info 127).2.2.2.1 / 10000]? = some (Cond.code (am_info 127).1 (am_info 127).2.1 (am_meth 127).2.2.1 (am_info 127).2.2.1) := rfl
set_option maxRecDepth 100000 in
theorem am_cw_128 : lw_tbl[(am_info 128).2.2.2.1 / 10000]? = some (Cond.code (am_info 128).1 (am_info 128).2.1 (am_meth 128).2.2.1 (am_info 128).2.2.1) := rfl
set_option maxRecDepth 100000 in
theorem am_cw_129 : lw_tbl[(am_info 129).2.2.2.1 / 10000]? = some (Cond.code (am_info 129).1 (am_info 129).2.1 (am_meth 129).2.2.1 (am_info 129).2.2.1) := rfl
set_option maxRecDepth 100000 in
theorem am_cw_130 : lw_tbl[(am_info 130).2.2.2.1 / 10000]? = some (Cond.code (am_info 130).1 (am_info 130).2.1 (am_meth 130).2.2.1 (am_info 130).2.2.1) := rfl
set_option maxRecDepth 100000 in
theorem am_cw_131 : lw_tbl[(am_info 131).2.2.2.1 / 10000]? = some (Cond.code (am_info 131).1 (am_info 131).2.1 (am_meth 131).2.2.1 (am_info 131).2.2.1) := rfl
set_option maxRecDepth 100000 in
theorem am_cw_132 : lw_tbl[(am_info 132).2.2.2.1 / 10000]? = some (Cond.code (am_info 132).1 (am_info 132).2.1 (am_meth 132).2.2.1 (am_info 132).2.2.1) := rfl
set_option maxRecDepth 100000 in
theorem am_cw_133 : lw_tbl[(am_info 133).2.2.2.1 / 10000]? = some (Cond.code (am_info 133).1 (am_info 133).2.1 (am_meth 133).2.2.1 (am_info 133).2.2.1) := rfl
set_option maxRecDepth 100000 in
theorem am_cw_134 : lw_tbl[(am_info 134).2.2.2.1 / 10000]? = some (Cond.code (am_info 134).1 (am_info 134).2.1 (am_meth 134).2.2.1 (am_info 134).2.2.1) := rfl
set_option maxRecDepth 100000 in
theorem am_cw_135 : lw_tbl[(am_info 135).2.2.2.1 / 10000]? = some (Cond.code (am_info 135).1 (am_info 135).2.1 (am_meth 135).2.2.1 (am_info 135).2.2.1) := rfl
set_option maxRecDepth 100000 in
theorem am_cw_136 : lw_tbl[(am_info 136).2.2.2.1 / 10000]? = some (Cond.code (am_info 136).1 (am_info 136).2.1 (am_meth 136).2.2.1 (am_info 136).2.2.1) := rfl
set_option maxRecDepth 100000 in
theorem am_cw_137 : lw_tbl[(am_info 137).2.2.2.1 / 10000]? = some (Cond.code (am_info 137).1 (am_info 137).2.1 (am_meth 137).2.2.1 (am_info 137).2.2.1) := rfl
set_option maxRecDepth 100000 in
theorem am_cw_138 : lw_tbl[(am_info 138).2.2.2.1 / 10000]? = some (Cond.code (am_info 138).1 (am_info 138).2.1 (am_meth 138).2.2.1 (am_info 138).2.2.1) := rfl
set_option maxRecDepth 100000 in
theorem am_cw_139 : lw_tbl[(am_info 139).2.2.2.1 / 10000]? = some (Cond.code (am_info 139).1 (am_info 139).2.1 (am_meth 139).2.2.1 (am_info 139).2.2.1) := rfl
set_option maxRecDepth 100000 in
theorem am_cw_140 : lw_tbl[(am_info 140).2.2.2.1 / 10000]? = some (Cond.code (am_info 140).1 (am_info 140).2.1 (am_meth 140).2.2.1 (am_info 140).2.2.1) := rfl
set_option maxRecDepth 100000 in
theorem am_cw_141 : lw_tbl[(am_info 141).2.2.2.1 / 10000]? = some (Cond.code (am_info 141).1 (am_info 141).2.1 (am_meth 141).2.2.1 (am_info 141).2.2.1) := rfl
set_option maxRecDepth 100000 in
theorem am_cw_142 : lw_tbl[(am_info 142).2.2.2.1 / 10000]? = some (Cond.code (am_info 142).1 (am_info 142).2.1 (am_meth 142).2.2.1 (am_info 142).2.2.1) := rfl
set_option maxRecDepth 100000 in
theorem am_cw_143 : lw_tbl[(am_info 143).2.2.2.1 / 10000]? = some (Cond.code (am_info 143).1 (am_info 143).2.1 (am_meth 143).2.2.1 (am_info 143).2.2.1) := rfl
set_option maxRecDepth 100000 in
theorem am_cw_144 : lw_tbl[(am_info 144).2.2.2.1 / 10000]? = some (Cond.code (am_info 144).1 (am_info 144).2.1 (am_meth 144).2.2.1 (am_info 144).2.2.1) := rfl
set_option maxRecDepth 100000 in
theorem am_cw_145 : lw_tbl[(am_info 145).2.2.2.1 / 10000]? = some (Cond.code (am_info 145).1 (am_info 145).2.1 (am_meth 145).2.2.1 (am_info 145).2.2.1) := rfl
set_option maxRecDepth 100000 in
theorem am_cw_146 : lw_tbl[(am_info 146).2.2.2.1 / 10000]? = some (Cond.code (am_info 146).1 (am_info 146).2.1 (am_meth 146).2.2.1 (am_info 146).2.2.1) := rfl
set_option maxRecDepth 100000 in
theorem am_cw_147 : lw_tbl[(am_info 147).2.2.2.1 / 10000]? = some (Cond.code (am_info 147).1 (am_info 147).2.1 (am_meth 147).2.2.1 (am_info 147).2.2.1) := rfl
set_option maxRecDepth 100000 in
theorem am_cw_148 : lw_tbl[(am_info 148).2.2.2.1 / 10000]? = some (Cond.code (am_info 148).1 (am_info 148).2.1 (am_meth 148).2.2.1 (am_info 148).2.2.1) := rfl
set_option maxRecDepth 100000 in
theorem am_cw_149 : lw_tbl[(am_info 149).2.2.2.1 / 10000]? = some (Cond.code (am_info 149).1 (am_info 149).2.1 (am_meth 149).2.2.1 (am_info 149).2.2.1) := rfl
set_option maxRecDepth 100000 in
theorem am_cw_150 : lw_tbl[(am_info 150).2.2.2.1 / 10000]? = some (Cond.code (am_info 150).1 (am_info 150).2.1 (am_meth 150).2.2.1 (am_info 150).2.2.1) := rfl
set_option maxRecDepth 100000 in
theorem am_cw_151 : lw_tbl[(am_info 151).2.2.2.1 / 10000]? = some (Cond.code (am_info 151).1 (am_info 151).2.1 (am_meth 151).2.2.1 (am_info 151).2.2.1) := rfl
set_option maxRecDepth 100000 in
theorem am_cw_152 : lw_tbl[(am_info 152).2.2.2.1 / 10000]? = some (Cond.code (am_info 152).1 (am_info 152).2.1 (am_meth 152).2.2.1 (am_info 152).2.2.1) := rfl
set_option maxRecDepth 100000 in
theorem am_cw_153 : lw_tbl[(am_info 153).2.2.2.1 / 10000]? = some (Cond.code (am_info 153).1 (am_info 153).2.1 (am_meth 153).2.2.1 (am_info 153).2.2.1) := rfl
set_option maxRecDepth 100000 in
theorem am_cw_154 : lw_tbl[(am_info 154).2.2.2.1 / 10000]? = some (Cond.code (am_info 154).1 (am_info 154).2.1 (am_meth 154).2.2.1 (am_info 154).2.2.1) := rfl
set_option maxRecDepth 100000 in
theorem am_cw_155 : lw_tbl[(am_info 155).2.2.2.1 / 10000]? = some (Cond.code (am_info 155).1 (am_info 155).2.1 (am_meth 155).2.2.1 (am_info 155).2.2.1) := rfl
set_option maxRecDepth 100000 in
theorem am_cw_156 : lw_tbl[(am_info 156).2.2.2.1 / 10000]? = some (Cond.code (am_info 156).1 (am_info 156).2.1 (am_meth 156).2.2.1 (am_info 156).2.2.1) := rfl
set_option maxRecDepth 100000 in
theorem am_cw_157 : lw_tbl[(am_info 157).2.2.2.1 / 10000]? = some (Cond.code (am_info 157).1 (am_info 157).2.1 (am_meth 157).2.2.1 (am_info 157).2.2.1) := rfl
set_option maxRecDepth 100000 in
theorem am_cw_158 : lw_tbl[(am_info 158).2.2.2.1 / 10000]? = some (Cond.code (am_info 158).1 (am_info 158).2.1 (am_meth 158).2.2.1 (am_info 158).2.2.1) := rfl
set_option maxRecDepth 100000 in
theorem am_cw_159 : lw_tbl[(am_info 159).2.2.2.1 / 10000]? = some (Cond.code (am_info 159).1 (am_info 159).2.1 (am_meth 159).2.2.1 (am_info 159).2.2.1) := rfl
set_option maxRecDepth 100000 in
theorem am_cw_160 : lw_tbl[(am_info 160).2.2.2.1 / 10000]? = some (Cond.code (am_info 160).1 (am_info 160).2.1 (am_meth 160).2.2.1 (am_info 160).2.2.1) := rfl
set_option maxRecDepth 100000 in
theorem am_cw_161 : lw_tbl[(am_info 161).2.2.2.1 / 10000]? = some (Cond.code (am_info 161).1 (am_info 161).2.1 (am_meth 161).2.2.1 (am_info 161).2.2.1) := rfl
set_option maxRecDepth 100000 in
theorem am_cw_162 : lw_tbl[(am_info 162).2.2.2.1 / 10000]? = some (Cond.code (am_info 162).1 (am_info 162).2.1 (am_meth 162).2.2.1 (am_info 162).2.2.1) := rfl
set_option maxRecDepth 100000 in
theorem am_cw_163 : lw_tbl[(am_info 163).2.2.2.1 / 10000]? = some (Cond.code (am_info 163).1 (am_info 163).2.1 (am_meth 163).2.2.1 (am_info 163).2.2.1) := rfl
set_option maxRecDepth 100000 in
theorem am_cw_164 : lw_tbl[(am_info 164).2.2.2.1 / 10000]? = some (Cond.code (am_info 164).1 (am_info 164).2.1 (am_meth 164).2.2.1 (am_info 164).2.2.1) := rfl
set_option maxRecDepth 100000 in
theorem am_cw_165 : lw_tbl[(am_info 165).2.2.2.1 / 10000]? = some (Cond.code (am_info 165).1 (am_info 165).2.1 (am_meth 165).2.2.1 (am_info 165).2.2.1) := rfl
set_option maxRecDepth 100000 in
theorem am_cw_166 : lw_tbl[(am_info 166).2.2.2.1 / 10000]? = some (Cond.code (am_info 166).1 (am_info 166).2.1 (am_meth 166).2.2.1 (am_info 166).2.2.1) := rfl
set_option maxRecDepth 100000 in
theorem am_cw_167 : lw_tbl[(am_info 167).2.2.2.1 / 10000]? = some (Cond.code (am_info 167).1 (am_info 167).2.1 (am_meth 167).2.2.1 (am_info 167).2.2.1) := rfl
set_option maxRecDepth 100000 in
theorem am_cw_168 : lw_tbl[(am_info 168).2.2.2.1 / 10000]? = some (Cond.code (am_info 168).1 (am_info 168).2.1 (am_meth 168).2.2.1 (am_info 168).2.2.1) := rfl
set_option maxRecDepth 100000 in
theorem am_cw_169 : lw_tbl[(am_info 169).2.2.2.1 / 10000]? = some (Cond.code (am_info 169).1 (am_info 169).2.1 (am_meth 169).2.2.1 (am_info 169).2.2.1) := rfl
set_option maxRecDepth 100000 in
theorem am_cw_170 : lw_tbl[(am_info 170).2.2.2.1 / 10000]? = some (Cond.code (am_info 170).1 (am_info 170).2.1 (am_meth 170).2.2.1 (am_info 170).2.2.1) := rfl
set_option maxRecDepth 100000 in
theorem am_cw_171 : lw_tbl[(am_info 171).2.2.2.1 / 10000]? = some (Cond.code (am_info 171).1 (am_info 171).2.1 (am_meth 171).2.2.1 (am_info 171).2.2.1) := rfl
set_option maxRecDepth 100000 in
theorem am_cw_172 : lw_tbl[(am_info 172).2.2.2.1 / 10000]? = some (Cond.code (am_info 172).1 (am_info 172).2.1 (am_meth 172).2.2.1 (am_info 172).2.2.1) := rfl
theorem am_cwz : ∀ z : Nat, z < 173 → lw_tbl[(am_info z).2.2.2.1 / 10000]? = some (Cond.code (am_info z).1 (am_info z).2.1 (am_meth z).2.2.1 (am_info z).2.2.1)
  | 0, _ => am_cw_0
  | 1, _ => am_cw_1
  | 2, _ => am_cw_2
  | 3, _ => am_cw_3
  | 4, _ => am_cw_4
  | 5, _ => am_cw_5
  | 6, _ => am_cw_6
  | 7, _ => am_cw_7
  | 8, _ => am_cw_8
  | 9, _ => am_cw_9
  | 10, _ => am_cw_10
  | 11, _ => am_cw_11
  | 12, _ => am_cw_12
  | 13, _ => am_cw_13
  | 14, _ => am_cw_14
  | 15, _ => am_cw_15
  | 16, _ => am_cw_16
  | 17, _ => am_cw_17
  | 18, _ => am_cw_18
  | 19, _ => am_cw_19
  | 20, _ => am_cw_20
  | 21, _ => am_cw_21
  | 22, _ => am_cw_22
  | 23, _ => am_cw_23
  | 24, _ => am_cw_24
  | 25, _ => am_cw_25
  | 26, _ => am_cw_26
  | 27, _ => am_cw_27
  | 28, _ => am_cw_28
  | 29, _ => am_cw_29
  | 30, _ => am_cw_30
  | 31, _ => am_cw_31
  | 32, _ => am_cw_32
  | 33, _ => am_cw_33
  | 34, _ => am_cw_34
  | 35, _ => am_cw_35
  | 36, _ => am_cw_36
  | 37, _ => am_cw_37
  | 38, _ => am_cw_38
  | 39, _ => am_cw_39
  | 40, _ => am_cw_40
  | 41, _ => am_cw_41
  | 42, _ => am_cw_42
  | 43, _ => am_cw_43
  | 44, _ => am_cw_44
  | 45, _ => am_cw_45
  | 46, _ => am_cw_46
  | 47, _ => am_cw_47
  | 48, _ => am_cw_48
  | 49, _ => am_cw_49
  | 50, _ => am_cw_50
  | 51, _ => am_cw_51
  | 52, _ => am_cw_52
  | 53, _ => am_cw_53
  | 54, _ => am_cw_54
  | 55, _ => am_cw_55
  | 56, _ => am_cw_56
  | 57, _ => am_cw_57
  | 58, _ => am_cw_58
  | 59, _ => am_cw_59
  | 60, _ => am_cw_60
  | 61, _ => am_cw_61
  | 62, _ => am_cw_62
  | 63, _ => am_cw_63
  | 64, _ => am_cw_64
  | 65, _ => am_cw_65
  | 66, _ => am_cw_66
  | 67, _ => am_cw_67
  | 68, _ => am_cw_68
  | 69, _ => am_cw_69
  | 70, _ => am_cw_70
  | 71, _ => am_cw_71
  | 72, _ => am_cw_72
  | 73, _ => am_cw_73
  | 74, _ => am_cw_74
  | 75, _ => am_cw_75
  | 76, _ => am_cw_76
  | 77, _ => am_cw_77
  | 78, _ => am_cw_78
  | 79, _ => am_cw_79
  | 80, _ => am_cw_80
  | 81, _ => am_cw_81
  | 82, _ => am_cw_82
  | 83, _ => am_cw_83
  | 84, _ => am_cw_84
  | 85, _ => am_cw_85
  | 86, _ => am_cw_86
  | 87, _ => am_cw_87
  | 88, _ => am_cw_88
  | 89, _ => am_cw_89
  | 90, _ => am_cw_90
  | 91, _ => am_cw_91
  | 92, _ => am_cw_92
  | 93, _ => am_cw_93
  | 94, _ => am_cw_94
  | 95, _ => am_cw_95
  | 96, _ => am_cw_96
  | 97, _ => am_cw_97
  | 98, _ => am_cw_98
  | 99, _ => am_cw_99
  | 100, _ => am_cw_100
  | 101, _ => am_cw_101
  | 102, _ => am_cw_102
  | 103, _ => am_cw_103
  | 104, _ => am_cw_104
  | 105, _ => am_cw_105
  | 106, _ => am_cw_106
  | 107, _ => am_cw_107
  | 108, _ => am_cw_108
  | 109, _ => am_cw_109
  | 110, _ => am_cw_110
  | 111, _ => am_cw_111
  | 112, _ => am_cw_112
  | 113, _ => am_cw_113
  | 114, _ => am_cw_114
  | 115, _ => am_cw_115
  | 116, _ => am_cw_116
  | 117, _ => am_cw_117
  | 118, _ => am_cw_118
  | 119, _ => am_cw_119
  | 120, _ => am_cw_120
  | 121, _ => am_cw_121
  | 122, _ => am_cw_122
  | 123, _ => am_cw_123
  | 124, _ => am_cw_124
  | 125, _ => am_cw_125
  | 126, _ => am_cw_126
  | 127, _ => am_cw_127
  | 128, _ => am_cw_128
  | 129, _ => am_cw_129
  | 130, _ => am_cw_130
  | 131, _ => am_cw_131
  | 132, _ => am_cw_132
  | 133, _ => am_cw_133
  | 134, _ => am_cw_134
  | 135, _ => am_cw_135
  | 136, _ => am_cw_136
  | 137, _ => am_cw_137
  | 138, _ => am_cw_138
  | 139, _ => am_cw_139
  | 140, _ => am_cw_140
  | 141, _ => am_cw_141
  | 142, _ => am_cw_142
  | 143, _ => am_cw_143
  | 144, _ => am_cw_144
  | 145, _ => am_cw_145
  | 146, _ => am_cw_146
  | 147, _ => am_cw_147
  | 148, _ => am_cw_148
  | 149, _ => am_cw_149
  | 150, _ => am_cw_150
  | 151, _ => am_cw_151
  | 152, _ => am_cw_152
  | 153, _ => am_cw_153
  | 154, _ => am_cw_154
  | 155, _ => am_cw_155
  | 156, _ => am_cw_156
  | 157, _ => am_cw_157
  | 158, _ => am_cw_158
  | 159, _ => am_cw_159
  | 160, _ => am_cw_160
  | 161, _ => am_cw_161
  | 162, _ => am_cw_162
  | 163, _ => am_cw_163
  | 164, _ => am_cw_164
  | 165, _ => am_cw_165
  | 166, _ => am_cw_166
  | 167, _ => am_cw_167
  | 168, _ => am_cw_168
  | 169, _ => am_cw_169
  | 170, _ => am_cw_170
  | 171, _ => am_cw_171
  | 172, _ => am_cw_172
  | n + 173, h => absurd h (by omega)
end
section
/-! the small machine: the program's instructions over a heap of numbered cells, as a function -/
abbrev am_C : Type := (Nat × Nat × ((Nat → Int32) ⊕ (Nat → Option Nat))) ⊕ (Nat × List Value)
abbrev am_H : Type := Nat × Nat × (Nat → am_C)
abbrev am_G : Type := Nat × List (Option Value) × List Value × am_H
def am_fetch (z pc : Nat) : Option (ClassFile.Instr × Nat × Nat) := bif Nat.blt pc (am_meth z).1 then (am_meth z).2.1 pc else none
def am_tgt (pc : Nat) (off : Int) : Nat := ((pc : Int) + off).toNat
def am_ok1 (L : List (Option Value)) (i : Nat) : Bool := match i with
  | 0 => true
  | j + 1 => match L[j]? with
    | some (some (.long _)) => false
    | some (some (.double _)) => false
    | _ => true
def am_ld (pc : Nat) (L : List (Option Value)) (i : Nat) (st : List Value) (h : am_H) : Option am_G := match L[i]? with
  | some (some (.int x)) => some (pc, L, .int x :: st, h)
  | _ => none
def am_ldl (pc : Nat) (L : List (Option Value)) (i : Nat) (st : List Value) (h : am_H) : Option am_G := match L[i]? with
  | some (some (.long x)) => some (pc, L, .long x :: st, h)
  | _ => none
def am_lda (pc : Nat) (L : List (Option Value)) (i : Nat) (st : List Value) (h : am_H) : Option am_G := match L[i]? with
  | some (some (.ref x)) => some (pc, L, .ref x :: st, h)
  | some (some .null) => some (pc, L, .null :: st, h)
  | _ => none
def am_sti (pc : Nat) (L : List (Option Value)) (i : Nat) (st : List Value) (h : am_H) : Option am_G := match st with
  | .int x :: st => bif Nat.blt i L.length && am_ok1 L i then some (pc, L.set i (some (.int x)), st, h) else none
  | _ => none
def am_stl (pc : Nat) (L : List (Option Value)) (i : Nat) (st : List Value) (h : am_H) : Option am_G := match st with
  | .long x :: st => bif Nat.blt (i + 1) L.length && am_ok1 L i then some (pc, (L.set i (some (.long x))).set (i + 1) none, st, h) else none
  | _ => none
def am_sta (pc : Nat) (L : List (Option Value)) (i : Nat) (st : List Value) (h : am_H) : Option am_G := match st with
  | .ref x :: st => bif Nat.blt i L.length && am_ok1 L i then some (pc, L.set i (some (.ref x)), st, h) else none
  | .null :: st => bif Nat.blt i L.length && am_ok1 L i then some (pc, L.set i (some .null), st, h) else none
  | _ => none
def am_fit (ty : FieldType) (v : Value) : Bool := match ty, v with
  | .int, .int _ => true
  | .boolean, .int x => x == 0 || x == 1
  | .long, .long _ => true
  | .object _, .ref _ => true
  | .object _, .null => true
  | .array _, .ref _ => true
  | .array _, .null => true
  | _, _ => false
def am_if (cd : ClassFile.Cond) (pc t : Nat) (x y : Int32) : Nat := match cd with
  | .eq => if x = y then t else pc + 3
  | .ne => if x = y then pc + 3 else t
  | .lt => if x < y then t else pc + 3
  | .ge => if y ≤ x then t else pc + 3
  | .gt => if y < x then t else pc + 3
  | .le => if x ≤ y then t else pc + 3
def am_lk (ps : List (Int × Int)) (df : Int) (x : Int) : Int := Op.lookupswitch.offset ps df x
def am_ac (t : Nat) : Nat := match t with | 2 => 5 | 3 => 2 | 4 => 4 | _ => 7
def am_df (ci : Nat) : List Value := match am_cl[ci]?, am_cy[ci]? with
  | some (_, _, N), some y => (List.range N).map (fun j => am_dv (y j))
  | _, _ => []
def am_step (d : Nat) (i : ClassFile.Instr) (aux pc : Nat) (L : List (Option Value)) (st : List Value) (h : am_H) : Option am_G := match i with
  | .aconst_null => some (pc + 1, L, .null :: st, h)
  | .iconst n => some (pc + 1, L, .int (Int32.ofInt n) :: st, h)
  | .bipush n => some (pc + 2, L, .int (Int8.ofInt n).toInt32 :: st, h)
  | .sipush n => some (pc + 3, L, .int (Int16.ofInt n).toInt32 :: st, h)
  | .lconst n => some (pc + 1, L, .long (Int64.ofNat (n : Nat)) :: st, h)
  | .ldc2_w _ => some (pc + 3, L, .long (Int64.ofNat (aux / 10000)) :: st, h)
  | .iload k => am_ld (pc + 2) L k st h
  | .iload_n k => am_ld (pc + 1) L (k : Nat) st h
  | .lload k => am_ldl (pc + 2) L k st h
  | .lload_n k => am_ldl (pc + 1) L (k : Nat) st h
  | .aload k => am_lda (pc + 2) L k st h
  | .aload_n k => am_lda (pc + 1) L (k : Nat) st h
  | .istore k => am_sti (pc + 2) L k st h
  | .istore_n k => am_sti (pc + 1) L (k : Nat) st h
  | .lstore k => am_stl (pc + 2) L k st h
  | .lstore_n k => am_stl (pc + 1) L (k : Nat) st h
  | .astore k => am_sta (pc + 2) L k st h
  | .astore_n k => am_sta (pc + 1) L (k : Nat) st h
  | .iinc k n => match L[k]? with
    | some (some (.int x)) => bif am_ok1 L k then some (pc + 3, L.set k (some (.int (x + Int32.ofInt n))), st, h) else none
    | _ => none
  | .dup => match st with
    | .int x :: st => some (pc + 1, L, .int x :: .int x :: st, h)
    | .ref x :: st => some (pc + 1, L, .ref x :: .ref x :: st, h)
    | _ => none
  | .dup2 => match st with
    | .int y :: .ref x :: st => some (pc + 1, L, .int y :: .ref x :: .int y :: .ref x :: st, h)
    | _ => none
  | .pop => match st with
    | .int _ :: st => some (pc + 1, L, st, h)
    | _ => none
  | .iadd => match st with | .int y :: .int x :: st => some (pc + 1, L, .int (x + y) :: st, h) | _ => none
  | .isub => match st with | .int y :: .int x :: st => some (pc + 1, L, .int (x - y) :: st, h) | _ => none
  | .imul => match st with | .int y :: .int x :: st => some (pc + 1, L, .int (x * y) :: st, h) | _ => none
  | .iand => match st with | .int y :: .int x :: st => some (pc + 1, L, .int (x &&& y) :: st, h) | _ => none
  | .ior => match st with | .int y :: .int x :: st => some (pc + 1, L, .int (x ||| y) :: st, h) | _ => none
  | .ixor => match st with | .int y :: .int x :: st => some (pc + 1, L, .int (x ^^^ y) :: st, h) | _ => none
  | .ishl => match st with | .int y :: .int x :: st => some (pc + 1, L, .int (x <<< (y &&& 31)) :: st, h) | _ => none
  | .ishr => match st with | .int y :: .int x :: st => some (pc + 1, L, .int (x >>> (y &&& 31)) :: st, h) | _ => none
  | .idiv => match st with | .int y :: .int x :: st => if y = 0 then none else some (pc + 1, L, .int (x / y) :: st, h) | _ => none
  | .irem => match st with | .int y :: .int x :: st => if y = 0 then none else some (pc + 1, L, .int (x - x / y * y) :: st, h) | _ => none
  | .ineg => match st with | .int x :: st => some (pc + 1, L, .int (-x) :: st, h) | _ => none
  | .ladd => match st with | .long y :: .long x :: st => some (pc + 1, L, .long (x + y) :: st, h) | _ => none
  | .lmul => match st with | .long y :: .long x :: st => some (pc + 1, L, .long (x * y) :: st, h) | _ => none
  | .i2l => match st with | .int x :: st => some (pc + 1, L, .long x.toInt64 :: st, h) | _ => none
  | .lcmp => match st with | .long y :: .long x :: st => some (pc + 1, L, .int (lg_cmp x y) :: st, h) | _ => none
  | .ifCond cd off => match st with | .int x :: st => some (am_if cd pc (am_tgt pc off) x 0, L, st, h) | _ => none
  | .if_icmp cd off => match st with | .int y :: .int x :: st => some (am_if cd pc (am_tgt pc off) x y, L, st, h) | _ => none
  | .goto off => some (am_tgt pc off, L, st, h)
  | .ifnull off => match st with
    | .null :: st => some (am_tgt pc off, L, st, h)
    | .ref _ :: st => some (pc + 3, L, st, h)
    | _ => none
  | .ifnonnull off => match st with
    | .null :: st => some (pc + 3, L, st, h)
    | .ref _ :: st => some (am_tgt pc off, L, st, h)
    | _ => none
  | .tableswitch df lo hi offs => match st with
    | .int x :: st => if x.toInt < lo ∨ hi < x.toInt then some (am_tgt pc df, L, st, h) else match offs[(x.toInt - lo).toNat]? with
      | some off => if 0 ≤ (pc : Int) + off then some (am_tgt pc off, L, st, h) else none
      | none => none
    | _ => none
  | .lookupswitch df ps => match st with
    | .int x :: st => if 0 ≤ (pc : Int) + am_lk ps.toList df x.toInt then some (am_tgt pc (am_lk ps.toList df x.toInt), L, st, h) else none
    | _ => none
  | .getfield _ => match st with
    | .ref a :: st => if a < h.1 then match h.2.2 a with
      | .inr (ci, fs) => if ci = aux / 1000000 then match fs[aux / 10000 % 100]? with
        | some v => some (pc + 3, L, v :: st, h)
        | none => none
        else none
      | _ => none
      else none
    | _ => none
  | .putfield _ => match st with
    | v :: .ref a :: st => if a < h.1 then match h.2.2 a with
      | .inr (ci, fs) => if ci = aux / 1000000 ∧ aux / 10000 % 100 < fs.length ∧ am_fit ((am_cy.getD ci (fun _ => .int)) (aux / 10000 % 100)) v = true then some (pc + 3, L, st, (h.1, h.2.1, va_up h.2.2 a (.inr (ci, fs.set (aux / 10000 % 100) v)))) else none
      | _ => none
      else none
    | _ => none
  | .getstatic _ => some (pc + 3, L, .float (UInt32.ofNat (aux / 10000)) :: st, h)
  | .new _ => match am_cl[aux / 10000]? with
    | some (_, _, N) => some (pc + 3, L, .ref h.1 :: st, (h.1 + 1, h.2.1 + N, va_up h.2.2 h.1 (.inr (aux / 10000, am_df (aux / 10000)))))
    | none => none
  | .newarray _ => match st with
    | .int n :: st => if ¬ n < 0 ∧ n.toNatClampNeg ≤ 100000 then some (pc + 2, L, .ref h.1 :: st, (h.1 + 1, h.2.1 + n.toNatClampNeg, va_up h.2.2 h.1 (.inl (aux / 10000, n.toNatClampNeg, .inl (fun _ => 0))))) else none
    | _ => none
  | .anewarray _ => match st with
    | .int n :: st => if ¬ n < 0 ∧ n.toNatClampNeg ≤ 100000 then some (pc + 3, L, .ref h.1 :: st, (h.1 + 1, h.2.1 + n.toNatClampNeg, va_up h.2.2 h.1 (.inl (aux / 10000, n.toNatClampNeg, .inr (fun _ => none))))) else none
    | _ => none
  | .arraylength => match st with
    | .ref a :: st => if a < h.1 then match h.2.2 a with
      | .inl (t, n, _) => if t < 6 then some (pc + 1, L, .int (Int32.ofNat n) :: st, h) else none
      | _ => none
      else none
    | .float j :: st => if j.toNat < 5 then some (pc + 1, L, .int (Int32.ofNat (am_sV j.toNat).length) :: st, h) else none
    | _ => none
  | .iaload => match st with
    | .int i :: .ref a :: st => if a < h.1 then match h.2.2 a with
      | .inl (0, n, .inl f) => if ¬ i < 0 ∧ i.toNatClampNeg < n then some (pc + 1, L, .int (f i.toNatClampNeg) :: st, h) else none
      | _ => none
      else none
    | .int i :: .float j :: st => if j.toNat < 5 ∧ ¬ i < 0 ∧ i.toNatClampNeg < (am_sV j.toNat).length then some (pc + 1, L, .int ((am_sV j.toNat).getD i.toNatClampNeg 0) :: st, h) else none
    | _ => none
  | .baload => match st with
    | .int i :: .ref a :: st => if a < h.1 then match h.2.2 a with
      | .inl (1, n, .inl f) => if ¬ i < 0 ∧ i.toNatClampNeg < n then some (pc + 1, L, .int (f i.toNatClampNeg) :: st, h) else none
      | _ => none
      else none
    | _ => none
  | .aaload => match st with
    | .int i :: .ref a :: st => if a < h.1 then match h.2.2 a with
      | .inl (t, n, .inr f) => if (2 ≤ t ∧ t < 6) ∧ ¬ i < 0 ∧ i.toNatClampNeg < n then some (pc + 1, L, va_rf (f i.toNatClampNeg) :: st, h) else none
      | _ => none
      else none
    | _ => none
  | .iastore => match st with
    | .int x :: .int i :: .ref a :: st => if a < h.1 then match h.2.2 a with
      | .inl (0, n, .inl f) => if ¬ i < 0 ∧ i.toNatClampNeg < n then some (pc + 1, L, st, (h.1, h.2.1, va_up h.2.2 a (.inl (0, n, .inl (va_up f i.toNatClampNeg x))))) else none
      | _ => none
      else none
    | _ => none
  | .bastore => match st with
    | .int x :: .int i :: .ref a :: st => if a < h.1 then match h.2.2 a with
      | .inl (1, n, .inl f) => if ¬ i < 0 ∧ i.toNatClampNeg < n then some (pc + 1, L, st, (h.1, h.2.1, va_up h.2.2 a (.inl (1, n, .inl (va_up f i.toNatClampNeg (x &&& 1)))))) else none
      | _ => none
      else none
    | _ => none
  | .aastore => match st with
    | .ref v :: .int i :: .ref a :: st => if a < h.1 ∧ v < h.1 then match h.2.2 a, h.2.2 v with
      | .inl (t, n, .inr f), .inr (ci, _) => if (2 ≤ t ∧ t < 6) ∧ ci = am_ac t ∧ ¬ i < 0 ∧ i.toNatClampNeg < n then some (pc + 1, L, st, (h.1, h.2.1, va_up h.2.2 a (.inl (t, n, .inr (va_up f i.toNatClampNeg (some v)))))) else none
      | _, _ => none
      else none
    | _ => none
  | .invokespecial _ => if aux / 10000 = 1000 ∧ 0 < d then match st with
    | .ref _ :: st => if (st.map fun v => v.category).sum ≤ 8 then some (pc + 3, L, st, h) else none
    | _ => none
    else none
  | .invokestatic _ => if aux / 10000 = 1001 ∧ 0 < d then match st with
    | .int n :: .int dp :: .ref a :: .int sp :: .ref a0 :: st => if a < h.1 ∧ a0 < h.1 ∧ (st.map fun v => v.category).sum ≤ 8 then match h.2.2 a0, h.2.2 a with
      | .inl (0, n0, .inl f), .inl (0, n1, .inl g) => if ¬ sp < 0 ∧ ¬ dp < 0 ∧ ¬ n < 0 ∧ sp.toNatClampNeg + n.toNatClampNeg ≤ n0 ∧ dp.toNatClampNeg + n.toNatClampNeg ≤ n1 then some (pc + 3, L, st, (h.1, h.2.1, va_up h.2.2 a (.inl (0, n1, .inl (va_cpy f g sp.toNatClampNeg dp.toNatClampNeg n.toNatClampNeg))))) else none
      | _, _ => none
      else none
    | _ => none
    else none
  | _ => none
def am_args : Nat → List Value → List Value → Option (List Value × List Value)
  | 0, acc, st => some (acc, st)
  | n + 1, acc, v :: st => am_args n (v :: acc) st
  | _ + 1, _, [] => none
def am_entry (z : Nat) (as : List Value) : List (Option Value) := as.map some ++ List.replicate ((am_meth z).2.2.1 - as.length) none
/-- what a call needs: the callee's number, its arguments with the receiver, what stays on the stack -/
def am_c1 (v : Value) : Bool := match v with
  | .long _ => false
  | .double _ => false
  | _ => true
def am_rcv (k : Nat) (z : Nat) (as : List Value) (h : am_H) : Bool := as.all am_c1 && match k with
  | 0 => Nat.beq (am_meth z).2.2.2.2.2 0
  | 1 => match as with
    | .ref b :: _ => Nat.blt 100 (am_meth z).2.2.2.2.2
    | _ => false
  | _ => match as with
    | .ref b :: _ => Nat.blt b h.1 && (match h.2.2 b with
      | .inr (ci, _) => Nat.beq (ci + 1) (am_meth z).2.2.2.2.2
      | _ => false)
    | _ => false
def am_ret (z : Nat) (i : ClassFile.Instr) (st : List Value) (h : am_H) : Option (Option Value × am_H) := match i, st with
  | .ireturn, [.int v] => if (am_meth z).2.2.2.2.1 = 1 ∨ ((am_meth z).2.2.2.2.1 = 2 ∧ (v = 0 ∨ v = 1)) then some (some (.int v), h) else none
  | .lreturn, [.long v] => if (am_meth z).2.2.2.2.1 = 3 then some (some (.long v), h) else none
  | .areturn, [.ref v] => if (am_meth z).2.2.2.2.1 = 4 then some (some (.ref v), h) else none
  | .areturn, [.null] => if (am_meth z).2.2.2.2.1 = 4 then some (some .null, h) else none
  | .return_, [] => if (am_meth z).2.2.2.2.1 = 0 then some (none, h) else none
  | _, _ => none
/-- which call: 0 of a static method, 1 of a constructor, 2 of an instance's method; 9 none -/
def am_kind (i : ClassFile.Instr) (aux : Nat) : Nat := match i with
  | .invokestatic _ => if aux / 10000 < am_count then 0 else 9
  | .invokespecial _ => if aux / 10000 < am_count then 1 else 9
  | .invokevirtual _ => if aux / 10000 < am_count then 2 else 9
  | .ireturn => 3
  | .lreturn => 3
  | .areturn => 3
  | .return_ => 3
  | _ => 9
def am_run : Nat → Nat → Nat → am_G → Option (Option Value × am_H)
  | 0, _, _, _ => none
  | f + 1, d, z, g => match am_fetch z g.1 with
    | none => none
    | some (i, _, aux) => match am_kind i aux with
      | 9 => match am_step d i aux g.1 g.2.1 g.2.2.1 g.2.2.2 with
        | some g' => am_run f d z g'
        | none => none
      | 3 => am_ret z i g.2.2.1 g.2.2.2
      | k => if d = 0 then none else match am_args (am_meth (aux / 10000)).2.2.2.1 [] g.2.2.1 with
        | some (as, rest) => if am_rcv k (aux / 10000) as g.2.2.2 = true ∧ (rest.map fun v => v.category).sum ≤ 8 then match am_run f (d - 1) (aux / 10000) (0, am_entry (aux / 10000) as, [], g.2.2.2) with
          | some (r, h1) => am_run f d z (g.1 + 3, g.2.1, r.toList ++ rest, h1)
          | none => none
          else none
        | none => none
end
section
theorem am_allz {z : Nat} (h : z < am_count) : am_all z = true := by
  have key : ∀ (n b : Nat), (List.range n).all (fun k => am_all (b + k)) = true → b ≤ z → z < b + n → am_all z = true := by
    intro n b hh h1 h2
    have := List.all_eq_true.mp hh (z - b) (List.mem_range.mpr (by omega))
    rw [show b + (z - b) = z by omega] at this
    exact this
  have h' : z < 173 := h
  rcases Nat.lt_or_ge z 12 with q0 | q0
  · exact key _ _ am_all_0 (by omega) (by omega)
  rcases Nat.lt_or_ge z 24 with q1 | q1
  · exact key _ _ am_all_1 (by omega) (by omega)
  rcases Nat.lt_or_ge z 36 with q2 | q2
  · exact key _ _ am_all_2 (by omega) (by omega)
  rcases Nat.lt_or_ge z 48 with q3 | q3
  · exact key _ _ am_all_3 (by omega) (by omega)
  rcases Nat.lt_or_ge z 60 with q4 | q4
  · exact key _ _ am_all_4 (by omega) (by omega)
  rcases Nat.lt_or_ge z 72 with q5 | q5
  · exact key _ _ am_all_5 (by omega) (by omega)
  rcases Nat.lt_or_ge z 84 with q6 | q6
  · exact key _ _ am_all_6 (by omega) (by omega)
  rcases Nat.lt_or_ge z 96 with q7 | q7
  · exact key _ _ am_all_7 (by omega) (by omega)
  rcases Nat.lt_or_ge z 108 with q8 | q8
  · exact key _ _ am_all_8 (by omega) (by omega)
  rcases Nat.lt_or_ge z 120 with q9 | q9
  · exact key _ _ am_all_9 (by omega) (by omega)
  rcases Nat.lt_or_ge z 132 with q10 | q10
  · exact key _ _ am_all_10 (by omega) (by omega)
  rcases Nat.lt_or_ge z 144 with q11 | q11
  · exact key _ _ am_all_11 (by omega) (by omega)
  rcases Nat.lt_or_ge z 156 with q12 | q12
  · exact key _ _ am_all_12 (by omega) (by omega)
  rcases Nat.lt_or_ge z 168 with q13 | q13
  · exact key _ _ am_all_13 (by omega) (by omega)
  rcases Nat.lt_or_ge z 173 with q14 | q14
  · exact key _ _ am_all_14 (by omega) (by omega)
  omega
theorem am_chkz {z pc : Nat} {e : ClassFile.Instr × Nat × Nat} (h : z < am_count) (hf : am_fetch z pc = some e) : decode (am_info z).2.1 pc = .ok (e.1, e.2.1) ∧ (am_len e.1 = 0 ∨ am_len e.1 = e.2.1) ∧ am_res (am_info z).1.cls (am_info z).1.name pc e.1 e.2.2 = true := by
  unfold am_fetch at hf
  cases hb : Nat.blt pc (am_meth z).1 with
  | false => rw [hb] at hf; cases hf
  | true =>
    rw [hb] at hf
    have hlt : pc < (am_meth z).1 := by simpa [Nat.blt_eq] using hb
    have h1 := List.all_eq_true.mp (am_allz h) pc (List.mem_range.mpr hlt)
    unfold am_chk at h1
    have hf' : (am_meth z).2.1 pc = some e := hf
    rw [hf'] at h1
    obtain ⟨i, len, aux⟩ := e
    simp only [Bool.and_eq_true, Bool.or_eq_true, decide_eq_true_eq] at h1
    refine ⟨h1.1.1, ?_, h1.2⟩
    rcases h1.1.2 with q | q
    · exact Or.inl (Nat.eq_of_beq_eq_true q)
    · exact Or.inr (Nat.eq_of_beq_eq_true q)
theorem am_mokz {z : Nat} (h : z < am_count) : am_mok z = true := by
  have key : ∀ (n b : Nat), (List.range n).all (fun k => am_mok (b + k)) = true → b ≤ z → z < b + n → am_mok z = true := by
    intro n b hh h1 h2
    have := List.all_eq_true.mp hh (z - b) (List.mem_range.mpr (by omega))
    rw [show b + (z - b) = z by omega] at this
    exact this
  have h' : z < 173 := h
  rcases Nat.lt_or_ge z 30 with q0 | q0
  · exact key _ _ am_moks_0 (by omega) (by omega)
  rcases Nat.lt_or_ge z 60 with q1 | q1
  · exact key _ _ am_moks_1 (by omega) (by omega)
  rcases Nat.lt_or_ge z 90 with q2 | q2
  · exact key _ _ am_moks_2 (by omega) (by omega)
  rcases Nat.lt_or_ge z 120 with q3 | q3
  · exact key _ _ am_moks_3 (by omega) (by omega)
  rcases Nat.lt_or_ge z 150 with q4 | q4
  · exact key _ _ am_moks_4 (by omega) (by omega)
  rcases Nat.lt_or_ge z 173 with q5 | q5
  · exact key _ _ am_moks_5 (by omega) (by omega)
  omega
end
section
/-! the small machine's values, cells and heap as the machine's -/
def am_v (base : Nat) (tS : Nat → Nat) (v : Value) : Value := match v with
  | .ref k => .ref (base + k)
  | .float j => .ref (tS j.toNat)
  | v => v
def am_c (cA : Nat → ClassId) (base : Nat) (tS : Nat → Nat) (x : am_C) : va_E := match x with
  | .inl (t, n, .inl f) => .inl (cA t, n, .inl f)
  | .inl (t, n, .inr g) => .inl (cA t, n, .inr (.inr (.inr (.inr (fun j => (g j).map (fun k => base + k))))))
  | .inr (ci, fs) => .inr (ci, fs.map (am_v base tS))
def am_R (D : va_G) (cA : Nat → ClassId) (tS : Nat → Nat) (base : Nat) (h : am_H) (H : Heap) : Prop := H.size = base + h.1 ∧ ∀ k, k < h.1 → va_at D am_cl (base + k, am_c cA base tS (h.2.2 k)) H
def am_L (base : Nat) (tS : Nat → Nat) (L : List (Option Value)) (ls : Array Slot) (nL : Nat) : Prop := L.length = nL ∧ ls.size = nL ∧ lv_wf ls ∧ ∀ (i : Nat) (v : Value), L[i]? = some (some v) → ls[i]? = some (.val (am_v base tS v))
def am_tys (cA : Nat → ClassId) : List (ClassId × FieldType) := (List.range 6).map (fun t => (cA t, am_ty t))
theorem am_tys_at (cA : Nat → ClassId) {t : Nat} (h : t < 6) : (am_tys cA)[t]? = some (cA t, am_ty t) := by
  simp [am_tys, List.getElem?_map, List.getElem?_range h]
def am_isN (w : Cond) : Bool := match w with
  | .methodLinkNest _ _ _ _ => true
  | _ => false
def am_nest : List Cond := lw_tbl.filter am_isN
def am_good : List Cond := lw_tbl.filter goodWord
def am_X (D : va_G) (cA : Nat → ClassId) (tS : Nat → Nat) (base : Nat) (U : State) : Prop :=
  va_K D am_cl (am_tys cA) U ∧
  (∀ j, j < 5 → va_Z (am_sC j) (am_sN j) "[I" (.ref (tS j)) (fun q => base ≤ q) U U.heap ∧ va_T .int (tS j) (am_sV j).length (fun i => .int ((am_sV j).getD i 0)) (fun q => base ≤ q) U U.heap) ∧
  (∀ w ∈ am_nest, va_Nw w U) ∧ (∀ t, 2 ≤ t → t < 6 → va_AO (am_an t) U)
theorem am_X.moved {D : va_G} {cA : Nat → ClassId} {tS : Nat → Nat} {base : Nat} {u U : State} (h : am_X D cA tS base u) (hW : u.WarmedH U.vm) (hh : ∀ q : Nat, q < base → U.heap[q]? = u.heap[q]?) : am_X D cA tS base U := by
  refine ⟨h.1.moved hW.alike, fun j hj => ⟨((h.2.1 j hj).1.moved hW.alike).kept (fun a _ ha => hh a (Nat.not_le.mp ha)), ((h.2.1 j hj).2.moved hW.alike).kept (fun a _ ha => hh a (Nat.not_le.mp ha))⟩, fun w hw => ?_, fun t h1 h2 => (h.2.2.2 t h1 h2).moved hW.alike⟩
  have h1 := h.2.2.1 w hw
  have h2 : am_isN w = true := (List.mem_filter.mp hw).2
  cases w <;> first | exact va_Nw.warmM hW h1 | (cases h2)
theorem am_X.same {D : va_G} {cA : Nat → ClassId} {tS : Nat → Nat} {base : Nat} {u U : State} (h : am_X D cA tS base u) (hv : u.vm = U.vm) (hh : U.heap = u.heap) : am_X D cA tS base U := by
  have ha : u.vm.Alike U.vm := hv ▸ Vm.Alike.refl u.vm
  refine ⟨h.1.moved ha, fun j hj => ⟨((h.2.1 j hj).1.moved ha).kept (fun a _ _ => by rw [hh]), ((h.2.1 j hj).2.moved ha).kept (fun a _ _ => by rw [hh])⟩, fun w hw => ?_, fun t h1 h2 => (h.2.2.2 t h1 h2).moved ha⟩
  have h1 := h.2.2.1 w hw
  have h2 : am_isN w = true := (List.mem_filter.mp hw).2
  cases w <;> first | exact va_Nw.same rfl hv h1 | (cases h2)
theorem am_R.set {D : va_G} {cA : Nat → ClassId} {tS : Nat → Nat} {base : Nat} {h : am_H} {H H1 : Heap} (hR : am_R D cA tS base h H) {k : Nat} {x : am_C} (he : va_at D am_cl (base + k, am_c cA base tS x) H1) (hz : H1.size = H.size) (ho : ∀ q : Nat, q ≠ base + k → H1[q]? = H[q]?) : am_R D cA tS base (h.1, h.2.1, va_up h.2.2 k x) H1 := by
  refine ⟨hz.trans hR.1, fun j hj => ?_⟩
  show va_at D am_cl (base + j, am_c cA base tS (va_up h.2.2 k x j)) H1
  by_cases hjk : j = k
  · subst hjk
    rw [va_up_self]
    exact he
  · rw [va_up_ne _ _ hjk]
    exact (hR.2 j hj).kept (ho _ (fun z => hjk (by omega)))
theorem am_R.push {D : va_G} {cA : Nat → ClassId} {tS : Nat → Nat} {base : Nat} {h : am_H} {H H1 : Heap} (hR : am_R D cA tS base h H) {x : am_C} {sl : Nat} (he : va_at D am_cl (base + h.1, am_c cA base tS x) H1) (hz : H1.size = H.size + 1) (ho : ∀ q : Nat, q < H.size → H1[q]? = H[q]?) : am_R D cA tS base (h.1 + 1, sl, va_up h.2.2 h.1 x) H1 := by
  refine ⟨by show H1.size = base + (h.1 + 1); rw [hz, hR.1]; omega, fun j hj => ?_⟩
  show va_at D am_cl (base + j, am_c cA base tS (va_up h.2.2 h.1 x j)) H1
  by_cases hjk : j = h.1
  · subst hjk
    rw [va_up_self]
    exact he
  · rw [va_up_ne _ _ hjk]
    have hj' : j < h.1 := by have : j < h.1 + 1 := hj; omega
    exact (hR.2 j hj').kept (ho _ (by rw [hR.1]; show base + j < base + h.1; omega))
theorem am_R.one {D : va_G} {cA : Nat → ClassId} {tS : Nat → Nat} {base : Nat} {h : am_H} {H : Heap} (hR : am_R D cA tS base h H) {k : Nat} (hk : k < h.1) {x : am_C} (hx : h.2.2 k = x) : va_P D am_cl [(base + k, am_c cA base tS x)] H := by
  intro j q hj
  have hz : j < 1 := (List.getElem?_eq_some_iff.mp hj).1
  rw [show j = 0 by omega] at hj
  cases hj
  rw [← hx]
  exact hR.2 k hk
/-! the locals -/
def am_as (base : Nat) (tS : Nat → Nat) : Nat → List (Option Value) → List (Nat × Value)
  | _, [] => []
  | j, none :: t => am_as base tS (j + 1) t
  | j, some v :: t => (j, am_v base tS v) :: am_as base tS (j + 1) t
theorem am_as_mem {base : Nat} {tS : Nat → Nat} : ∀ (L : List (Option Value)) (j i : Nat) (w : Value), (i, w) ∈ am_as base tS j L ↔ ∃ (n : Nat) (v : Value), i = j + n ∧ L[n]? = some (some v) ∧ w = am_v base tS v
  | [], j, i, w => by simp [am_as]
  | none :: t, j, i, w => by
    rw [am_as, am_as_mem t (j + 1) i w]
    constructor
    · rintro ⟨n, v, h1, h2, h3⟩
      exact ⟨n + 1, v, by omega, by simpa using h2, h3⟩
    · rintro ⟨n, v, h1, h2, h3⟩
      cases n with
      | zero => simp at h2
      | succ n => exact ⟨n, v, by omega, by simpa using h2, h3⟩
  | some u :: t, j, i, w => by
    rw [am_as, List.mem_cons, am_as_mem t (j + 1) i w]
    constructor
    · rintro (h | ⟨n, v, h1, h2, h3⟩)
      · cases h
        exact ⟨0, u, rfl, rfl, rfl⟩
      · exact ⟨n + 1, v, by omega, by simpa using h2, h3⟩
    · rintro ⟨n, v, h1, h2, h3⟩
      cases n with
      | zero =>
        have : u = v := by simpa using h2
        subst this
        subst h3
        exact Or.inl (by rw [h1]; rfl)
      | succ n => exact Or.inr ⟨n, v, by omega, by simpa using h2, h3⟩
theorem am_as_in {base : Nat} {tS : Nat → Nat} {L : List (Option Value)} {i : Nat} {v : Value} (h : L[i]? = some (some v)) : (i, am_v base tS v) ∈ am_as base tS 0 L := (am_as_mem L 0 i _).mpr ⟨i, v, by omega, h, rfl⟩
theorem am_L.has {base : Nat} {tS : Nat → Nat} {L : List (Option Value)} {ls : Array Slot} {nL : Nat} (h : am_L base tS L ls nL) : lv_has ls nL (am_as base tS 0 L) := by
  refine ⟨h.2.1, h.2.2.1, fun q hq => ?_⟩
  obtain ⟨i, w⟩ := q
  obtain ⟨n, v, h1, h2, h3⟩ := (am_as_mem L 0 i w).mp hq
  subst h3
  rw [show i = n by omega]
  exact h.2.2.2 n v h2
theorem am_cat {base : Nat} {tS : Nat → Nat} (v : Value) : (am_v base tS v).category = v.category := by cases v <;> rfl
theorem am_ok1_cat {L : List (Option Value)} {j : Nat} {w : Value} (h : am_ok1 L (j + 1) = true) (hw : L[j]? = some (some w)) : ¬ w.category = 2 := by
  unfold am_ok1 at h
  simp only at h
  rw [hw] at h
  cases w <;> first | (simp [Value.category]; done) | (cases h)
theorem am_L.st1 {base : Nat} {tS : Nat → Nat} {L : List (Option Value)} {ls ls' : Array Slot} {nL i : Nat} {v : Value} (h : am_L base tS L ls nL) (hi : i < L.length) (hk : am_ok1 L i = true) (h' : lv_has ls' nL ((i, am_v base tS v) :: (am_as base tS 0 L).filter (fun q => !(q.1 == i) && !(q.1 + 1 == i && q.2.category == 2)))) : am_L base tS (L.set i (some v)) ls' nL := by
  refine ⟨by rw [List.length_set]; exact h.1, h'.1, h'.2.1, fun j w hj => ?_⟩
  by_cases hji : j = i
  · subst hji
    rw [List.getElem?_set_self hi] at hj
    cases hj
    exact h'.2.2 (j, _) List.mem_cons_self
  · rw [List.getElem?_set_ne (Ne.symm hji)] at hj
    refine h'.2.2 (j, _) (List.mem_cons_of_mem _ (List.mem_filter.mpr ⟨am_as_in hj, ?_⟩))
    simp only [Bool.and_eq_true, Bool.not_eq_true', beq_eq_false_iff_ne, ne_eq, Bool.and_eq_false_iff]
    refine ⟨hji, ?_⟩
    by_cases h1 : j + 1 = i
    · subst h1
      exact Or.inr (fun z => am_ok1_cat hk hj ((am_cat (base := base) (tS := tS) w).symm.trans z))
    · exact Or.inl h1
theorem am_L.st2 {base : Nat} {tS : Nat → Nat} {L : List (Option Value)} {ls ls' : Array Slot} {nL i : Nat} {v : Value} (h : am_L base tS L ls nL) (hi : i + 1 < L.length) (hk : am_ok1 L i = true) (h' : lv_has ls' nL ((i, am_v base tS v) :: (am_as base tS 0 L).filter (fun q => !(q.1 == i) && (!(q.1 == i + 1) && !(q.1 + 1 == i && q.2.category == 2))))) : am_L base tS ((L.set i (some v)).set (i + 1) none) ls' nL := by
  refine ⟨by rw [List.length_set, List.length_set]; exact h.1, h'.1, h'.2.1, fun j w hj => ?_⟩
  by_cases hj1 : j = i + 1
  · subst hj1
    rw [List.getElem?_set_self (by rw [List.length_set]; exact hi)] at hj
    cases hj
  · rw [List.getElem?_set_ne (Ne.symm hj1)] at hj
    by_cases hji : j = i
    · subst hji
      rw [List.getElem?_set_self (by omega)] at hj
      cases hj
      exact h'.2.2 (j, _) List.mem_cons_self
    · rw [List.getElem?_set_ne (Ne.symm hji)] at hj
      refine h'.2.2 (j, _) (List.mem_cons_of_mem _ (List.mem_filter.mpr ⟨am_as_in hj, ?_⟩))
      simp only [Bool.and_eq_true, Bool.not_eq_true', beq_eq_false_iff_ne, ne_eq, Bool.and_eq_false_iff]
      refine ⟨hji, hj1, ?_⟩
      by_cases h1 : j + 1 = i
      · subst h1
        exact Or.inr (fun z => am_ok1_cat hk hj ((am_cat (base := base) (tS := tS) w).symm.trans z))
      · exact Or.inl h1
theorem am_in {pl : Nat} {w : Cond} (h : am_w pl w = true) (g : goodWord w = true) : w ∈ am_good := by
  unfold am_w at h
  exact List.mem_filter.mpr ⟨List.mem_of_getElem? (of_decide_eq_true h), g⟩
theorem am_inN {pl : Nat} {a : String} {i : Nat} {x : MethodName} {b : String} (h : am_w pl (.methodLinkNest a i x b) = true) : Cond.methodLinkNest a i x b ∈ am_nest := by
  unfold am_w at h
  exact List.mem_filter.mpr ⟨List.mem_of_getElem? (of_decide_eq_true h), rfl⟩
/-- what is known of a class of ours -/
theorem am_clsz {ci : Nat} {C : String} {T : u_T} {N : Nat} (hc : am_cl[ci]? = some (C, T, N)) : ∃ y, am_cy[ci]? = some y ∧ (∀ w ∈ u_ws C T N, w ∈ am_good) ∧ (∀ k, k < N → parseFieldDescriptor (T k).2.2.1 = some (y k) ∧ (T k).1 = C ∧ defaultValue (y k) = am_dv (y k)) ∧ (∀ a, a < N → ∀ b, b < N → a ≠ b → (T a).2.1 ≠ (T b).2.1) ∧ Cond.instantiable C N ∈ am_good ∧ Cond.initialized C ∈ am_good := by
  have hlt : ci < 13 := (List.getElem?_eq_some_iff.mp hc).1
  have h := List.all_eq_true.mp am_coks ci (List.mem_range.mpr hlt)
  unfold am_cok at h
  rw [hc] at h
  cases hy : am_cy[ci]? with
  | none => rw [hy] at h; cases h
  | some y =>
    rw [hy] at h
    simp only [Bool.and_eq_true, decide_eq_true_eq, List.all_eq_true, Bool.or_eq_true, List.mem_range] at h
    obtain ⟨⟨⟨⟨h1, h2⟩, h3⟩, h4⟩, h5⟩ := h
    refine ⟨y, rfl, fun w hw => List.mem_filter.mpr (h1 w hw), fun k hk => ⟨(h2 k hk).1.1, (h2 k hk).1.2, (h2 k hk).2⟩, fun a ha b hb hne => ?_, List.mem_filter.mpr ⟨h4, rfl⟩, List.mem_filter.mpr ⟨h5, rfl⟩⟩
    rcases h3 a ha b hb with q | q
    · exact absurd q hne
    · exact q
end
section
/-! each instruction of the small machine is the machine's -/
def am_Ctx (p : Program) (s : State) (m : MethodId) (args : Array Value) (meth : Method) (c : Code) (D : va_G) (cA : Nat → ClassId) (tS : Nat → Nat) (base z : Nat) : Prop :=
  p.tables.exec = Jvm.exec ∧ c.code = (am_info z).2.1 ∧ c.maxLocals = (am_meth z).2.2.1 ∧ meth.sig.returnType = (am_info z).2.2.1 ∧ s.vm.findClass (am_info z).1.cls = some m.cls ∧ (∀ w ∈ am_good, w.before args s = true) ∧ meth.locks = false ∧ meth.name = (am_info z).1.name ∧ am_X D cA tS base s ∧ z < am_count
def am_Sit (D : va_G) (cA : Nat → ClassId) (tS : Nat → Nat) (base : Nat) (s : State) (g : am_G) (H : Heap) (locs : List Loc) (ls : Array Slot) (nL : Nat) : Prop :=
  am_R D cA tS base g.2.2.2 H ∧ (∀ q : Nat, q < base → H[q]? = s.heap[q]?) ∧ (∀ x ∈ locs, base ≤ x.base) ∧ am_L base tS g.2.1 ls nL
def am_At (p : Program) (l : Launch) (e : Env) (R : Room) (s : State) (m : MethodId) (args : Array Value) (below : List Frame) (meth : Method) (c : Code) (D : va_G) (cA : Nat → ClassId) (tS : Nat → Nat) (base z : Nat) (Q : State → Prop) (n0 s0 : Nat) (g : am_G) : Prop :=
  ∀ (H : Heap) (locs : List Loc) (ls : Array Slot), am_Sit D cA tS base s g H locs ls (am_meth z).2.2.1 → W p l e R s m args below meth c H locs (g.2.2.2.1 - n0) (g.2.2.2.2.1 - s0) Q (F0 m g.1 ls (g.2.2.1.map (am_v base tS)))
section AMS
variable {p : Program} {l : Launch} {e : Env} {R : Room} {s : State} {m : MethodId} {args : Array Value} {below : List Frame} {meth : Method} {c : Code} {D : va_G} {cA : Nat → ClassId} {tS : Nat → Nat} {base z d n0 s0 : Nat} {Q : State → Prop}
theorem am_At.pc {a b : Nat} {r : List (Option Value) × List Value × am_H} (k : am_At p l e R s m args below meth c D cA tS base z Q n0 s0 (a, r)) (he : a = b) : am_At p l e R s m args below meth c D cA tS base z Q n0 s0 (b, r) := he ▸ k
theorem am_tgt_eq {pc : Nat} {off : Int} (h : 0 ≤ (pc : Int) + off) : (pc : Int) + off = (am_tgt pc off : Int) := (Int.toNat_of_nonneg h).symm
theorem am_tok_eq {pc : Nat} {off : Int} (h : am_tok pc off = true) : (pc : Int) + off = (am_tgt pc off : Int) := am_tgt_eq (of_decide_eq_true h)
theorem am_k_aconst_null (C : am_Ctx p s m args meth c D cA tS base z) {len aux pc : Nat} {L : List (Option Value)} {st : List Value} {h : am_H} {g : am_G} (hf : am_fetch z pc = some (.aconst_null, len, aux)) (hs : am_step d (.aconst_null) aux pc L st h = some g) (hd : R.frames = d ∧ 64 * d ≤ R.locals) (h0 : n0 ≤ h.1 ∧ s0 ≤ h.2.1) (hr : g.2.2.2.1 - n0 ≤ R.cells ∧ g.2.2.2.2.1 - s0 ≤ R.slots) (k : am_At p l e R s m args below meth c D cA tS base z Q n0 s0 g) : am_At p l e R s m args below meth c D cA tS base z Q n0 s0 (pc, L, st, h) := by
  obtain ⟨hx, hb, hml, hrt, hown, hts, hlk, hnm, hX, hz⟩ := C
  obtain ⟨hdc, hln, hres⟩ := am_chkz hz hf
  have hlen : len = 1 := by
    rcases hln with q | q
    · exact absurd (show (1 : Nat) = 0 from q) (by decide)
    · exact (show (1 : Nat) = len from q).symm
  subst hlen
  have hdc : decode (am_info z).2.1 pc = .ok (.aconst_null, 1) := hdc
  cases hs
  intro H locs ls hS
  exact lv_null hx hb hdc (k H locs ls hS)
theorem am_k_iconst (C : am_Ctx p s m args meth c D cA tS base z) {n : Int} {len aux pc : Nat} {L : List (Option Value)} {st : List Value} {h : am_H} {g : am_G} (hf : am_fetch z pc = some (.iconst n, len, aux)) (hs : am_step d (.iconst n) aux pc L st h = some g) (hd : R.frames = d ∧ 64 * d ≤ R.locals) (h0 : n0 ≤ h.1 ∧ s0 ≤ h.2.1) (hr : g.2.2.2.1 - n0 ≤ R.cells ∧ g.2.2.2.2.1 - s0 ≤ R.slots) (k : am_At p l e R s m args below meth c D cA tS base z Q n0 s0 g) : am_At p l e R s m args below meth c D cA tS base z Q n0 s0 (pc, L, st, h) := by
  obtain ⟨hx, hb, hml, hrt, hown, hts, hlk, hnm, hX, hz⟩ := C
  obtain ⟨hdc, hln, hres⟩ := am_chkz hz hf
  have hlen : len = 1 := by
    rcases hln with q | q
    · exact absurd (show (1 : Nat) = 0 from q) (by decide)
    · exact (show (1 : Nat) = len from q).symm
  subst hlen
  have hdc : decode (am_info z).2.1 pc = .ok (.iconst n, 1) := hdc
  cases hs
  intro H locs ls hS
  exact lv_iconst hx hb hdc rfl (k H locs ls hS)
theorem am_k_bipush (C : am_Ctx p s m args meth c D cA tS base z) {n : Int} {len aux pc : Nat} {L : List (Option Value)} {st : List Value} {h : am_H} {g : am_G} (hf : am_fetch z pc = some (.bipush n, len, aux)) (hs : am_step d (.bipush n) aux pc L st h = some g) (hd : R.frames = d ∧ 64 * d ≤ R.locals) (h0 : n0 ≤ h.1 ∧ s0 ≤ h.2.1) (hr : g.2.2.2.1 - n0 ≤ R.cells ∧ g.2.2.2.2.1 - s0 ≤ R.slots) (k : am_At p l e R s m args below meth c D cA tS base z Q n0 s0 g) : am_At p l e R s m args below meth c D cA tS base z Q n0 s0 (pc, L, st, h) := by
  obtain ⟨hx, hb, hml, hrt, hown, hts, hlk, hnm, hX, hz⟩ := C
  obtain ⟨hdc, hln, hres⟩ := am_chkz hz hf
  have hlen : len = 2 := by
    rcases hln with q | q
    · exact absurd (show (2 : Nat) = 0 from q) (by decide)
    · exact (show (2 : Nat) = len from q).symm
  subst hlen
  have hdc : decode (am_info z).2.1 pc = .ok (.bipush n, 2) := hdc
  cases hs
  intro H locs ls hS
  exact lv_bipush hx hb hdc rfl (k H locs ls hS)
theorem am_k_sipush (C : am_Ctx p s m args meth c D cA tS base z) {n : Int} {len aux pc : Nat} {L : List (Option Value)} {st : List Value} {h : am_H} {g : am_G} (hf : am_fetch z pc = some (.sipush n, len, aux)) (hs : am_step d (.sipush n) aux pc L st h = some g) (hd : R.frames = d ∧ 64 * d ≤ R.locals) (h0 : n0 ≤ h.1 ∧ s0 ≤ h.2.1) (hr : g.2.2.2.1 - n0 ≤ R.cells ∧ g.2.2.2.2.1 - s0 ≤ R.slots) (k : am_At p l e R s m args below meth c D cA tS base z Q n0 s0 g) : am_At p l e R s m args below meth c D cA tS base z Q n0 s0 (pc, L, st, h) := by
  obtain ⟨hx, hb, hml, hrt, hown, hts, hlk, hnm, hX, hz⟩ := C
  obtain ⟨hdc, hln, hres⟩ := am_chkz hz hf
  have hlen : len = 3 := by
    rcases hln with q | q
    · exact absurd (show (3 : Nat) = 0 from q) (by decide)
    · exact (show (3 : Nat) = len from q).symm
  subst hlen
  have hdc : decode (am_info z).2.1 pc = .ok (.sipush n, 3) := hdc
  cases hs
  intro H locs ls hS
  exact lv_sipush hx hb hdc rfl (k H locs ls hS)
theorem am_k_lconst (C : am_Ctx p s m args meth c D cA tS base z) {n : Fin 2} {len aux pc : Nat} {L : List (Option Value)} {st : List Value} {h : am_H} {g : am_G} (hf : am_fetch z pc = some (.lconst n, len, aux)) (hs : am_step d (.lconst n) aux pc L st h = some g) (hd : R.frames = d ∧ 64 * d ≤ R.locals) (h0 : n0 ≤ h.1 ∧ s0 ≤ h.2.1) (hr : g.2.2.2.1 - n0 ≤ R.cells ∧ g.2.2.2.2.1 - s0 ≤ R.slots) (k : am_At p l e R s m args below meth c D cA tS base z Q n0 s0 g) : am_At p l e R s m args below meth c D cA tS base z Q n0 s0 (pc, L, st, h) := by
  obtain ⟨hx, hb, hml, hrt, hown, hts, hlk, hnm, hX, hz⟩ := C
  obtain ⟨hdc, hln, hres⟩ := am_chkz hz hf
  have hlen : len = 1 := by
    rcases hln with q | q
    · exact absurd (show (1 : Nat) = 0 from q) (by decide)
    · exact (show (1 : Nat) = len from q).symm
  subst hlen
  have hdc : decode (am_info z).2.1 pc = .ok (.lconst n, 1) := hdc
  cases hs
  intro H locs ls hS
  exact lv_lconst hx hb hdc rfl (k H locs ls hS)
theorem am_k_ldc2_w (C : am_Ctx p s m args meth c D cA tS base z) {n : Nat} {len aux pc : Nat} {L : List (Option Value)} {st : List Value} {h : am_H} {g : am_G} (hf : am_fetch z pc = some (.ldc2_w n, len, aux)) (hs : am_step d (.ldc2_w n) aux pc L st h = some g) (hd : R.frames = d ∧ 64 * d ≤ R.locals) (h0 : n0 ≤ h.1 ∧ s0 ≤ h.2.1) (hr : g.2.2.2.1 - n0 ≤ R.cells ∧ g.2.2.2.2.1 - s0 ≤ R.slots) (k : am_At p l e R s m args below meth c D cA tS base z Q n0 s0 g) : am_At p l e R s m args below meth c D cA tS base z Q n0 s0 (pc, L, st, h) := by
  obtain ⟨hx, hb, hml, hrt, hown, hts, hlk, hnm, hX, hz⟩ := C
  obtain ⟨hdc, hln, hres⟩ := am_chkz hz hf
  have hlen : len = 3 := by
    rcases hln with q | q
    · exact absurd (show (3 : Nat) = 0 from q) (by decide)
    · exact (show (3 : Nat) = len from q).symm
  subst hlen
  have hdc : decode (am_info z).2.1 pc = .ok (.ldc2_w n, 3) := hdc
  cases hs
  intro H locs ls hS
  exact lv_ldc2 hx hb hown (hts _ (am_in (show am_w (aux % 10000) _ = true from hres) rfl)) hdc (k H locs ls hS)
theorem am_k_iload (C : am_Ctx p s m args meth c D cA tS base z) {n : Nat} {len aux pc : Nat} {L : List (Option Value)} {st : List Value} {h : am_H} {g : am_G} (hf : am_fetch z pc = some (.iload n, len, aux)) (hs : am_step d (.iload n) aux pc L st h = some g) (hd : R.frames = d ∧ 64 * d ≤ R.locals) (h0 : n0 ≤ h.1 ∧ s0 ≤ h.2.1) (hr : g.2.2.2.1 - n0 ≤ R.cells ∧ g.2.2.2.2.1 - s0 ≤ R.slots) (k : am_At p l e R s m args below meth c D cA tS base z Q n0 s0 g) : am_At p l e R s m args below meth c D cA tS base z Q n0 s0 (pc, L, st, h) := by
  obtain ⟨hx, hb, hml, hrt, hown, hts, hlk, hnm, hX, hz⟩ := C
  obtain ⟨hdc, hln, hres⟩ := am_chkz hz hf
  have hlen : len = 2 := by
    rcases hln with q | q
    · exact absurd (show (2 : Nat) = 0 from q) (by decide)
    · exact (show (2 : Nat) = len from q).symm
  subst hlen
  have hdc : decode (am_info z).2.1 pc = .ok (.iload n, 2) := hdc
  have hs : am_ld (pc + 2) L n st h = some g := hs
  unfold am_ld at hs
  split at hs
  · rename_i heq
    cases hs
    intro H locs ls hS
    exact lv_iload hx hb hdc (hS.2.2.2.2.2.2 _ _ heq) (k H locs ls hS)
  · cases hs
theorem am_k_iload_n (C : am_Ctx p s m args meth c D cA tS base z) {n : Fin 4} {len aux pc : Nat} {L : List (Option Value)} {st : List Value} {h : am_H} {g : am_G} (hf : am_fetch z pc = some (.iload_n n, len, aux)) (hs : am_step d (.iload_n n) aux pc L st h = some g) (hd : R.frames = d ∧ 64 * d ≤ R.locals) (h0 : n0 ≤ h.1 ∧ s0 ≤ h.2.1) (hr : g.2.2.2.1 - n0 ≤ R.cells ∧ g.2.2.2.2.1 - s0 ≤ R.slots) (k : am_At p l e R s m args below meth c D cA tS base z Q n0 s0 g) : am_At p l e R s m args below meth c D cA tS base z Q n0 s0 (pc, L, st, h) := by
  obtain ⟨hx, hb, hml, hrt, hown, hts, hlk, hnm, hX, hz⟩ := C
  obtain ⟨hdc, hln, hres⟩ := am_chkz hz hf
  have hlen : len = 1 := by
    rcases hln with q | q
    · exact absurd (show (1 : Nat) = 0 from q) (by decide)
    · exact (show (1 : Nat) = len from q).symm
  subst hlen
  have hdc : decode (am_info z).2.1 pc = .ok (.iload_n n, 1) := hdc
  have hs : am_ld (pc + 1) L n st h = some g := hs
  unfold am_ld at hs
  split at hs
  · rename_i heq
    cases hs
    intro H locs ls hS
    exact lv_iload_n hx hb hdc rfl (hS.2.2.2.2.2.2 _ _ heq) (k H locs ls hS)
  · cases hs
theorem am_k_lload (C : am_Ctx p s m args meth c D cA tS base z) {n : Nat} {len aux pc : Nat} {L : List (Option Value)} {st : List Value} {h : am_H} {g : am_G} (hf : am_fetch z pc = some (.lload n, len, aux)) (hs : am_step d (.lload n) aux pc L st h = some g) (hd : R.frames = d ∧ 64 * d ≤ R.locals) (h0 : n0 ≤ h.1 ∧ s0 ≤ h.2.1) (hr : g.2.2.2.1 - n0 ≤ R.cells ∧ g.2.2.2.2.1 - s0 ≤ R.slots) (k : am_At p l e R s m args below meth c D cA tS base z Q n0 s0 g) : am_At p l e R s m args below meth c D cA tS base z Q n0 s0 (pc, L, st, h) := by
  obtain ⟨hx, hb, hml, hrt, hown, hts, hlk, hnm, hX, hz⟩ := C
  obtain ⟨hdc, hln, hres⟩ := am_chkz hz hf
  have hlen : len = 2 := by
    rcases hln with q | q
    · exact absurd (show (2 : Nat) = 0 from q) (by decide)
    · exact (show (2 : Nat) = len from q).symm
  subst hlen
  have hdc : decode (am_info z).2.1 pc = .ok (.lload n, 2) := hdc
  have hs : am_ldl (pc + 2) L n st h = some g := hs
  unfold am_ldl at hs
  split at hs
  · rename_i heq
    cases hs
    intro H locs ls hS
    exact lv_lload hx hb hdc (hS.2.2.2.2.2.2 _ _ heq) (k H locs ls hS)
  · cases hs
theorem am_k_lload_n (C : am_Ctx p s m args meth c D cA tS base z) {n : Fin 4} {len aux pc : Nat} {L : List (Option Value)} {st : List Value} {h : am_H} {g : am_G} (hf : am_fetch z pc = some (.lload_n n, len, aux)) (hs : am_step d (.lload_n n) aux pc L st h = some g) (hd : R.frames = d ∧ 64 * d ≤ R.locals) (h0 : n0 ≤ h.1 ∧ s0 ≤ h.2.1) (hr : g.2.2.2.1 - n0 ≤ R.cells ∧ g.2.2.2.2.1 - s0 ≤ R.slots) (k : am_At p l e R s m args below meth c D cA tS base z Q n0 s0 g) : am_At p l e R s m args below meth c D cA tS base z Q n0 s0 (pc, L, st, h) := by
  obtain ⟨hx, hb, hml, hrt, hown, hts, hlk, hnm, hX, hz⟩ := C
  obtain ⟨hdc, hln, hres⟩ := am_chkz hz hf
  have hlen : len = 1 := by
    rcases hln with q | q
    · exact absurd (show (1 : Nat) = 0 from q) (by decide)
    · exact (show (1 : Nat) = len from q).symm
  subst hlen
  have hdc : decode (am_info z).2.1 pc = .ok (.lload_n n, 1) := hdc
  have hs : am_ldl (pc + 1) L n st h = some g := hs
  unfold am_ldl at hs
  split at hs
  · rename_i heq
    cases hs
    intro H locs ls hS
    exact lv_lload_n hx hb hdc rfl (hS.2.2.2.2.2.2 _ _ heq) (k H locs ls hS)
  · cases hs
theorem am_k_aload (C : am_Ctx p s m args meth c D cA tS base z) {n : Nat} {len aux pc : Nat} {L : List (Option Value)} {st : List Value} {h : am_H} {g : am_G} (hf : am_fetch z pc = some (.aload n, len, aux)) (hs : am_step d (.aload n) aux pc L st h = some g) (hd : R.frames = d ∧ 64 * d ≤ R.locals) (h0 : n0 ≤ h.1 ∧ s0 ≤ h.2.1) (hr : g.2.2.2.1 - n0 ≤ R.cells ∧ g.2.2.2.2.1 - s0 ≤ R.slots) (k : am_At p l e R s m args below meth c D cA tS base z Q n0 s0 g) : am_At p l e R s m args below meth c D cA tS base z Q n0 s0 (pc, L, st, h) := by
  obtain ⟨hx, hb, hml, hrt, hown, hts, hlk, hnm, hX, hz⟩ := C
  obtain ⟨hdc, hln, hres⟩ := am_chkz hz hf
  have hlen : len = 2 := by
    rcases hln with q | q
    · exact absurd (show (2 : Nat) = 0 from q) (by decide)
    · exact (show (2 : Nat) = len from q).symm
  subst hlen
  have hdc : decode (am_info z).2.1 pc = .ok (.aload n, 2) := hdc
  have hs : am_lda (pc + 2) L n st h = some g := hs
  unfold am_lda at hs
  split at hs
  · rename_i heq
    cases hs
    intro H locs ls hS
    exact lv_aload hx hb hdc (hS.2.2.2.2.2.2 _ _ heq) (k H locs ls hS)
  · rename_i heq
    cases hs
    intro H locs ls hS
    exact lv_aloadN hx hb hdc (hS.2.2.2.2.2.2 _ _ heq) (k H locs ls hS)
  · cases hs
theorem am_k_aload_n (C : am_Ctx p s m args meth c D cA tS base z) {n : Fin 4} {len aux pc : Nat} {L : List (Option Value)} {st : List Value} {h : am_H} {g : am_G} (hf : am_fetch z pc = some (.aload_n n, len, aux)) (hs : am_step d (.aload_n n) aux pc L st h = some g) (hd : R.frames = d ∧ 64 * d ≤ R.locals) (h0 : n0 ≤ h.1 ∧ s0 ≤ h.2.1) (hr : g.2.2.2.1 - n0 ≤ R.cells ∧ g.2.2.2.2.1 - s0 ≤ R.slots) (k : am_At p l e R s m args below meth c D cA tS base z Q n0 s0 g) : am_At p l e R s m args below meth c D cA tS base z Q n0 s0 (pc, L, st, h) := by
  obtain ⟨hx, hb, hml, hrt, hown, hts, hlk, hnm, hX, hz⟩ := C
  obtain ⟨hdc, hln, hres⟩ := am_chkz hz hf
  have hlen : len = 1 := by
    rcases hln with q | q
    · exact absurd (show (1 : Nat) = 0 from q) (by decide)
    · exact (show (1 : Nat) = len from q).symm
  subst hlen
  have hdc : decode (am_info z).2.1 pc = .ok (.aload_n n, 1) := hdc
  have hs : am_lda (pc + 1) L n st h = some g := hs
  unfold am_lda at hs
  split at hs
  · rename_i heq
    cases hs
    intro H locs ls hS
    exact lv_aload_n hx hb hdc rfl (hS.2.2.2.2.2.2 _ _ heq) (k H locs ls hS)
  · rename_i heq
    cases hs
    intro H locs ls hS
    exact lv_aload_nN hx hb hdc rfl (hS.2.2.2.2.2.2 _ _ heq) (k H locs ls hS)
  · cases hs
theorem am_k_istore (C : am_Ctx p s m args meth c D cA tS base z) {n : Nat} {len aux pc : Nat} {L : List (Option Value)} {st : List Value} {h : am_H} {g : am_G} (hf : am_fetch z pc = some (.istore n, len, aux)) (hs : am_step d (.istore n) aux pc L st h = some g) (hd : R.frames = d ∧ 64 * d ≤ R.locals) (h0 : n0 ≤ h.1 ∧ s0 ≤ h.2.1) (hr : g.2.2.2.1 - n0 ≤ R.cells ∧ g.2.2.2.2.1 - s0 ≤ R.slots) (k : am_At p l e R s m args below meth c D cA tS base z Q n0 s0 g) : am_At p l e R s m args below meth c D cA tS base z Q n0 s0 (pc, L, st, h) := by
  obtain ⟨hx, hb, hml, hrt, hown, hts, hlk, hnm, hX, hz⟩ := C
  obtain ⟨hdc, hln, hres⟩ := am_chkz hz hf
  have hlen : len = 2 := by
    rcases hln with q | q
    · exact absurd (show (2 : Nat) = 0 from q) (by decide)
    · exact (show (2 : Nat) = len from q).symm
  subst hlen
  have hdc : decode (am_info z).2.1 pc = .ok (.istore n, 2) := hdc
  have hs : am_sti (pc + 2) L n st h = some g := hs
  unfold am_sti at hs
  split at hs
  · cases hq : (Nat.blt n L.length && am_ok1 L n) with
    | false => rw [hq] at hs; cases hs
    | true =>
      rw [hq] at hs
      cases hs
      simp only [Bool.and_eq_true, Nat.blt_eq] at hq
      intro H locs ls hS
      exact lv_istore hx hb hdc hS.2.2.2.has (by rw [← hS.2.2.2.1]; exact hq.1) rfl (fun ls' h' => k H locs ls' ⟨hS.1, hS.2.1, hS.2.2.1, hS.2.2.2.st1 hq.1 hq.2 h'⟩)
  · cases hs
theorem am_k_astore (C : am_Ctx p s m args meth c D cA tS base z) {n : Nat} {len aux pc : Nat} {L : List (Option Value)} {st : List Value} {h : am_H} {g : am_G} (hf : am_fetch z pc = some (.astore n, len, aux)) (hs : am_step d (.astore n) aux pc L st h = some g) (hd : R.frames = d ∧ 64 * d ≤ R.locals) (h0 : n0 ≤ h.1 ∧ s0 ≤ h.2.1) (hr : g.2.2.2.1 - n0 ≤ R.cells ∧ g.2.2.2.2.1 - s0 ≤ R.slots) (k : am_At p l e R s m args below meth c D cA tS base z Q n0 s0 g) : am_At p l e R s m args below meth c D cA tS base z Q n0 s0 (pc, L, st, h) := by
  obtain ⟨hx, hb, hml, hrt, hown, hts, hlk, hnm, hX, hz⟩ := C
  obtain ⟨hdc, hln, hres⟩ := am_chkz hz hf
  have hlen : len = 2 := by
    rcases hln with q | q
    · exact absurd (show (2 : Nat) = 0 from q) (by decide)
    · exact (show (2 : Nat) = len from q).symm
  subst hlen
  have hdc : decode (am_info z).2.1 pc = .ok (.astore n, 2) := hdc
  have hs : am_sta (pc + 2) L n st h = some g := hs
  unfold am_sta at hs
  split at hs
  · cases hq : (Nat.blt n L.length && am_ok1 L n) with
    | false => rw [hq] at hs; cases hs
    | true =>
      rw [hq] at hs
      cases hs
      simp only [Bool.and_eq_true, Nat.blt_eq] at hq
      intro H locs ls hS
      exact lv_astore hx hb hdc hS.2.2.2.has (by rw [← hS.2.2.2.1]; exact hq.1) rfl (fun ls' h' => k H locs ls' ⟨hS.1, hS.2.1, hS.2.2.1, hS.2.2.2.st1 hq.1 hq.2 h'⟩)
  · cases hq : (Nat.blt n L.length && am_ok1 L n) with
    | false => rw [hq] at hs; cases hs
    | true =>
      rw [hq] at hs
      cases hs
      simp only [Bool.and_eq_true, Nat.blt_eq] at hq
      intro H locs ls hS
      exact lv_astoreN hx hb hdc hS.2.2.2.has (by rw [← hS.2.2.2.1]; exact hq.1) rfl (fun ls' h' => k H locs ls' ⟨hS.1, hS.2.1, hS.2.2.1, hS.2.2.2.st1 hq.1 hq.2 h'⟩)
  · cases hs
theorem am_k_lstore (C : am_Ctx p s m args meth c D cA tS base z) {n : Nat} {len aux pc : Nat} {L : List (Option Value)} {st : List Value} {h : am_H} {g : am_G} (hf : am_fetch z pc = some (.lstore n, len, aux)) (hs : am_step d (.lstore n) aux pc L st h = some g) (hd : R.frames = d ∧ 64 * d ≤ R.locals) (h0 : n0 ≤ h.1 ∧ s0 ≤ h.2.1) (hr : g.2.2.2.1 - n0 ≤ R.cells ∧ g.2.2.2.2.1 - s0 ≤ R.slots) (k : am_At p l e R s m args below meth c D cA tS base z Q n0 s0 g) : am_At p l e R s m args below meth c D cA tS base z Q n0 s0 (pc, L, st, h) := by
  obtain ⟨hx, hb, hml, hrt, hown, hts, hlk, hnm, hX, hz⟩ := C
  obtain ⟨hdc, hln, hres⟩ := am_chkz hz hf
  have hlen : len = 2 := by
    rcases hln with q | q
    · exact absurd (show (2 : Nat) = 0 from q) (by decide)
    · exact (show (2 : Nat) = len from q).symm
  subst hlen
  have hdc : decode (am_info z).2.1 pc = .ok (.lstore n, 2) := hdc
  have hs : am_stl (pc + 2) L n st h = some g := hs
  unfold am_stl at hs
  split at hs
  · cases hq : (Nat.blt (n + 1) L.length && am_ok1 L n) with
    | false => rw [hq] at hs; cases hs
    | true =>
      rw [hq] at hs
      cases hs
      simp only [Bool.and_eq_true, Nat.blt_eq] at hq
      intro H locs ls hS
      exact lv_lstore hx hb hdc hS.2.2.2.has (by rw [← hS.2.2.2.1]; exact hq.1) rfl (fun ls' h' => k H locs ls' ⟨hS.1, hS.2.1, hS.2.2.1, hS.2.2.2.st2 hq.1 hq.2 h'⟩)
  · cases hs
theorem am_k_istore_n (C : am_Ctx p s m args meth c D cA tS base z) {n : Fin 4} {len aux pc : Nat} {L : List (Option Value)} {st : List Value} {h : am_H} {g : am_G} (hf : am_fetch z pc = some (.istore_n n, len, aux)) (hs : am_step d (.istore_n n) aux pc L st h = some g) (hd : R.frames = d ∧ 64 * d ≤ R.locals) (h0 : n0 ≤ h.1 ∧ s0 ≤ h.2.1) (hr : g.2.2.2.1 - n0 ≤ R.cells ∧ g.2.2.2.2.1 - s0 ≤ R.slots) (k : am_At p l e R s m args below meth c D cA tS base z Q n0 s0 g) : am_At p l e R s m args below meth c D cA tS base z Q n0 s0 (pc, L, st, h) := by
  obtain ⟨hx, hb, hml, hrt, hown, hts, hlk, hnm, hX, hz⟩ := C
  obtain ⟨hdc, hln, hres⟩ := am_chkz hz hf
  have hlen : len = 1 := by
    rcases hln with q | q
    · exact absurd (show (1 : Nat) = 0 from q) (by decide)
    · exact (show (1 : Nat) = len from q).symm
  subst hlen
  have hdc : decode (am_info z).2.1 pc = .ok (.istore_n n, 1) := hdc
  have hs : am_sti (pc + 1) L n st h = some g := hs
  unfold am_sti at hs
  split at hs
  · cases hq : (Nat.blt n L.length && am_ok1 L n) with
    | false => rw [hq] at hs; cases hs
    | true =>
      rw [hq] at hs
      cases hs
      simp only [Bool.and_eq_true, Nat.blt_eq] at hq
      intro H locs ls hS
      exact lv_istore_n hx hb hdc rfl hS.2.2.2.has (by rw [← hS.2.2.2.1]; exact hq.1) rfl (fun ls' h' => k H locs ls' ⟨hS.1, hS.2.1, hS.2.2.1, hS.2.2.2.st1 hq.1 hq.2 h'⟩)
  · cases hs
theorem am_k_astore_n (C : am_Ctx p s m args meth c D cA tS base z) {n : Fin 4} {len aux pc : Nat} {L : List (Option Value)} {st : List Value} {h : am_H} {g : am_G} (hf : am_fetch z pc = some (.astore_n n, len, aux)) (hs : am_step d (.astore_n n) aux pc L st h = some g) (hd : R.frames = d ∧ 64 * d ≤ R.locals) (h0 : n0 ≤ h.1 ∧ s0 ≤ h.2.1) (hr : g.2.2.2.1 - n0 ≤ R.cells ∧ g.2.2.2.2.1 - s0 ≤ R.slots) (k : am_At p l e R s m args below meth c D cA tS base z Q n0 s0 g) : am_At p l e R s m args below meth c D cA tS base z Q n0 s0 (pc, L, st, h) := by
  obtain ⟨hx, hb, hml, hrt, hown, hts, hlk, hnm, hX, hz⟩ := C
  obtain ⟨hdc, hln, hres⟩ := am_chkz hz hf
  have hlen : len = 1 := by
    rcases hln with q | q
    · exact absurd (show (1 : Nat) = 0 from q) (by decide)
    · exact (show (1 : Nat) = len from q).symm
  subst hlen
  have hdc : decode (am_info z).2.1 pc = .ok (.astore_n n, 1) := hdc
  have hs : am_sta (pc + 1) L n st h = some g := hs
  unfold am_sta at hs
  split at hs
  · cases hq : (Nat.blt n L.length && am_ok1 L n) with
    | false => rw [hq] at hs; cases hs
    | true =>
      rw [hq] at hs
      cases hs
      simp only [Bool.and_eq_true, Nat.blt_eq] at hq
      intro H locs ls hS
      exact lv_astore_n hx hb hdc rfl hS.2.2.2.has (by rw [← hS.2.2.2.1]; exact hq.1) rfl (fun ls' h' => k H locs ls' ⟨hS.1, hS.2.1, hS.2.2.1, hS.2.2.2.st1 hq.1 hq.2 h'⟩)
  · cases hq : (Nat.blt n L.length && am_ok1 L n) with
    | false => rw [hq] at hs; cases hs
    | true =>
      rw [hq] at hs
      cases hs
      simp only [Bool.and_eq_true, Nat.blt_eq] at hq
      intro H locs ls hS
      exact lv_astore_nN hx hb hdc rfl hS.2.2.2.has (by rw [← hS.2.2.2.1]; exact hq.1) rfl (fun ls' h' => k H locs ls' ⟨hS.1, hS.2.1, hS.2.2.1, hS.2.2.2.st1 hq.1 hq.2 h'⟩)
  · cases hs
theorem am_k_lstore_n (C : am_Ctx p s m args meth c D cA tS base z) {n : Fin 4} {len aux pc : Nat} {L : List (Option Value)} {st : List Value} {h : am_H} {g : am_G} (hf : am_fetch z pc = some (.lstore_n n, len, aux)) (hs : am_step d (.lstore_n n) aux pc L st h = some g) (hd : R.frames = d ∧ 64 * d ≤ R.locals) (h0 : n0 ≤ h.1 ∧ s0 ≤ h.2.1) (hr : g.2.2.2.1 - n0 ≤ R.cells ∧ g.2.2.2.2.1 - s0 ≤ R.slots) (k : am_At p l e R s m args below meth c D cA tS base z Q n0 s0 g) : am_At p l e R s m args below meth c D cA tS base z Q n0 s0 (pc, L, st, h) := by
  obtain ⟨hx, hb, hml, hrt, hown, hts, hlk, hnm, hX, hz⟩ := C
  obtain ⟨hdc, hln, hres⟩ := am_chkz hz hf
  have hlen : len = 1 := by
    rcases hln with q | q
    · exact absurd (show (1 : Nat) = 0 from q) (by decide)
    · exact (show (1 : Nat) = len from q).symm
  subst hlen
  have hdc : decode (am_info z).2.1 pc = .ok (.lstore_n n, 1) := hdc
  have hs : am_stl (pc + 1) L n st h = some g := hs
  unfold am_stl at hs
  split at hs
  · cases hq : (Nat.blt (n + 1) L.length && am_ok1 L n) with
    | false => rw [hq] at hs; cases hs
    | true =>
      rw [hq] at hs
      cases hs
      simp only [Bool.and_eq_true, Nat.blt_eq] at hq
      intro H locs ls hS
      exact lv_lstore_n hx hb hdc rfl hS.2.2.2.has (by rw [← hS.2.2.2.1]; exact hq.1) rfl (fun ls' h' => k H locs ls' ⟨hS.1, hS.2.1, hS.2.2.1, hS.2.2.2.st2 hq.1 hq.2 h'⟩)
  · cases hs
theorem am_k_iinc (C : am_Ctx p s m args meth c D cA tS base z) {n : Nat} {v : Int} {len aux pc : Nat} {L : List (Option Value)} {st : List Value} {h : am_H} {g : am_G} (hf : am_fetch z pc = some (.iinc n v, len, aux)) (hs : am_step d (.iinc n v) aux pc L st h = some g) (hd : R.frames = d ∧ 64 * d ≤ R.locals) (h0 : n0 ≤ h.1 ∧ s0 ≤ h.2.1) (hr : g.2.2.2.1 - n0 ≤ R.cells ∧ g.2.2.2.2.1 - s0 ≤ R.slots) (k : am_At p l e R s m args below meth c D cA tS base z Q n0 s0 g) : am_At p l e R s m args below meth c D cA tS base z Q n0 s0 (pc, L, st, h) := by
  obtain ⟨hx, hb, hml, hrt, hown, hts, hlk, hnm, hX, hz⟩ := C
  obtain ⟨hdc, hln, hres⟩ := am_chkz hz hf
  have hlen : len = 3 := by
    rcases hln with q | q
    · exact absurd (show (3 : Nat) = 0 from q) (by decide)
    · exact (show (3 : Nat) = len from q).symm
  subst hlen
  have hdc : decode (am_info z).2.1 pc = .ok (.iinc n v, 3) := hdc
  unfold am_step at hs
  dsimp only at hs
  split at hs
  · rename_i x heq
    cases hq : am_ok1 L n with
    | false => rw [hq] at hs; cases hs
    | true =>
      rw [hq] at hs
      cases hs
      intro H locs ls hS
      have hlt : n < L.length := (List.getElem?_eq_some_iff.mp heq).1
      obtain ⟨j, hj⟩ := List.getElem?_of_mem (am_as_in (base := base) (tS := tS) heq)
      exact lv_iinc hx hb hdc hS.2.2.2.has hj rfl (by rw [← hS.2.2.2.1]; exact hlt) rfl (fun ls' h' => k H locs ls' ⟨hS.1, hS.2.1, hS.2.2.1, hS.2.2.2.st1 (v := .int (x + Int32.ofInt v)) hlt hq h'⟩)
  · cases hs
theorem am_k_iadd (C : am_Ctx p s m args meth c D cA tS base z) {len aux pc : Nat} {L : List (Option Value)} {st : List Value} {h : am_H} {g : am_G} (hf : am_fetch z pc = some (.iadd, len, aux)) (hs : am_step d (.iadd) aux pc L st h = some g) (hd : R.frames = d ∧ 64 * d ≤ R.locals) (h0 : n0 ≤ h.1 ∧ s0 ≤ h.2.1) (hr : g.2.2.2.1 - n0 ≤ R.cells ∧ g.2.2.2.2.1 - s0 ≤ R.slots) (k : am_At p l e R s m args below meth c D cA tS base z Q n0 s0 g) : am_At p l e R s m args below meth c D cA tS base z Q n0 s0 (pc, L, st, h) := by
  obtain ⟨hx, hb, hml, hrt, hown, hts, hlk, hnm, hX, hz⟩ := C
  obtain ⟨hdc, hln, hres⟩ := am_chkz hz hf
  have hlen : len = 1 := by
    rcases hln with q | q
    · exact absurd (show (1 : Nat) = 0 from q) (by decide)
    · exact (show (1 : Nat) = len from q).symm
  subst hlen
  have hdc : decode (am_info z).2.1 pc = .ok (.iadd, 1) := hdc
  unfold am_step at hs
  dsimp only at hs
  split at hs
  · cases hs
    intro H locs ls hS
    exact lv_iadd hx hb hdc (k H locs ls hS)
  · cases hs
theorem am_k_isub (C : am_Ctx p s m args meth c D cA tS base z) {len aux pc : Nat} {L : List (Option Value)} {st : List Value} {h : am_H} {g : am_G} (hf : am_fetch z pc = some (.isub, len, aux)) (hs : am_step d (.isub) aux pc L st h = some g) (hd : R.frames = d ∧ 64 * d ≤ R.locals) (h0 : n0 ≤ h.1 ∧ s0 ≤ h.2.1) (hr : g.2.2.2.1 - n0 ≤ R.cells ∧ g.2.2.2.2.1 - s0 ≤ R.slots) (k : am_At p l e R s m args below meth c D cA tS base z Q n0 s0 g) : am_At p l e R s m args below meth c D cA tS base z Q n0 s0 (pc, L, st, h) := by
  obtain ⟨hx, hb, hml, hrt, hown, hts, hlk, hnm, hX, hz⟩ := C
  obtain ⟨hdc, hln, hres⟩ := am_chkz hz hf
  have hlen : len = 1 := by
    rcases hln with q | q
    · exact absurd (show (1 : Nat) = 0 from q) (by decide)
    · exact (show (1 : Nat) = len from q).symm
  subst hlen
  have hdc : decode (am_info z).2.1 pc = .ok (.isub, 1) := hdc
  unfold am_step at hs
  dsimp only at hs
  split at hs
  · cases hs
    intro H locs ls hS
    exact lv_isub hx hb hdc (k H locs ls hS)
  · cases hs
theorem am_k_imul (C : am_Ctx p s m args meth c D cA tS base z) {len aux pc : Nat} {L : List (Option Value)} {st : List Value} {h : am_H} {g : am_G} (hf : am_fetch z pc = some (.imul, len, aux)) (hs : am_step d (.imul) aux pc L st h = some g) (hd : R.frames = d ∧ 64 * d ≤ R.locals) (h0 : n0 ≤ h.1 ∧ s0 ≤ h.2.1) (hr : g.2.2.2.1 - n0 ≤ R.cells ∧ g.2.2.2.2.1 - s0 ≤ R.slots) (k : am_At p l e R s m args below meth c D cA tS base z Q n0 s0 g) : am_At p l e R s m args below meth c D cA tS base z Q n0 s0 (pc, L, st, h) := by
  obtain ⟨hx, hb, hml, hrt, hown, hts, hlk, hnm, hX, hz⟩ := C
  obtain ⟨hdc, hln, hres⟩ := am_chkz hz hf
  have hlen : len = 1 := by
    rcases hln with q | q
    · exact absurd (show (1 : Nat) = 0 from q) (by decide)
    · exact (show (1 : Nat) = len from q).symm
  subst hlen
  have hdc : decode (am_info z).2.1 pc = .ok (.imul, 1) := hdc
  unfold am_step at hs
  dsimp only at hs
  split at hs
  · cases hs
    intro H locs ls hS
    exact lv_imul hx hb hdc (k H locs ls hS)
  · cases hs
theorem am_k_iand (C : am_Ctx p s m args meth c D cA tS base z) {len aux pc : Nat} {L : List (Option Value)} {st : List Value} {h : am_H} {g : am_G} (hf : am_fetch z pc = some (.iand, len, aux)) (hs : am_step d (.iand) aux pc L st h = some g) (hd : R.frames = d ∧ 64 * d ≤ R.locals) (h0 : n0 ≤ h.1 ∧ s0 ≤ h.2.1) (hr : g.2.2.2.1 - n0 ≤ R.cells ∧ g.2.2.2.2.1 - s0 ≤ R.slots) (k : am_At p l e R s m args below meth c D cA tS base z Q n0 s0 g) : am_At p l e R s m args below meth c D cA tS base z Q n0 s0 (pc, L, st, h) := by
  obtain ⟨hx, hb, hml, hrt, hown, hts, hlk, hnm, hX, hz⟩ := C
  obtain ⟨hdc, hln, hres⟩ := am_chkz hz hf
  have hlen : len = 1 := by
    rcases hln with q | q
    · exact absurd (show (1 : Nat) = 0 from q) (by decide)
    · exact (show (1 : Nat) = len from q).symm
  subst hlen
  have hdc : decode (am_info z).2.1 pc = .ok (.iand, 1) := hdc
  unfold am_step at hs
  dsimp only at hs
  split at hs
  · cases hs
    intro H locs ls hS
    exact lv_iand hx hb hdc (k H locs ls hS)
  · cases hs
theorem am_k_ior (C : am_Ctx p s m args meth c D cA tS base z) {len aux pc : Nat} {L : List (Option Value)} {st : List Value} {h : am_H} {g : am_G} (hf : am_fetch z pc = some (.ior, len, aux)) (hs : am_step d (.ior) aux pc L st h = some g) (hd : R.frames = d ∧ 64 * d ≤ R.locals) (h0 : n0 ≤ h.1 ∧ s0 ≤ h.2.1) (hr : g.2.2.2.1 - n0 ≤ R.cells ∧ g.2.2.2.2.1 - s0 ≤ R.slots) (k : am_At p l e R s m args below meth c D cA tS base z Q n0 s0 g) : am_At p l e R s m args below meth c D cA tS base z Q n0 s0 (pc, L, st, h) := by
  obtain ⟨hx, hb, hml, hrt, hown, hts, hlk, hnm, hX, hz⟩ := C
  obtain ⟨hdc, hln, hres⟩ := am_chkz hz hf
  have hlen : len = 1 := by
    rcases hln with q | q
    · exact absurd (show (1 : Nat) = 0 from q) (by decide)
    · exact (show (1 : Nat) = len from q).symm
  subst hlen
  have hdc : decode (am_info z).2.1 pc = .ok (.ior, 1) := hdc
  unfold am_step at hs
  dsimp only at hs
  split at hs
  · cases hs
    intro H locs ls hS
    exact lv_ior hx hb hdc (k H locs ls hS)
  · cases hs
theorem am_k_ixor (C : am_Ctx p s m args meth c D cA tS base z) {len aux pc : Nat} {L : List (Option Value)} {st : List Value} {h : am_H} {g : am_G} (hf : am_fetch z pc = some (.ixor, len, aux)) (hs : am_step d (.ixor) aux pc L st h = some g) (hd : R.frames = d ∧ 64 * d ≤ R.locals) (h0 : n0 ≤ h.1 ∧ s0 ≤ h.2.1) (hr : g.2.2.2.1 - n0 ≤ R.cells ∧ g.2.2.2.2.1 - s0 ≤ R.slots) (k : am_At p l e R s m args below meth c D cA tS base z Q n0 s0 g) : am_At p l e R s m args below meth c D cA tS base z Q n0 s0 (pc, L, st, h) := by
  obtain ⟨hx, hb, hml, hrt, hown, hts, hlk, hnm, hX, hz⟩ := C
  obtain ⟨hdc, hln, hres⟩ := am_chkz hz hf
  have hlen : len = 1 := by
    rcases hln with q | q
    · exact absurd (show (1 : Nat) = 0 from q) (by decide)
    · exact (show (1 : Nat) = len from q).symm
  subst hlen
  have hdc : decode (am_info z).2.1 pc = .ok (.ixor, 1) := hdc
  unfold am_step at hs
  dsimp only at hs
  split at hs
  · cases hs
    intro H locs ls hS
    exact lv_ixor hx hb hdc (k H locs ls hS)
  · cases hs
theorem am_k_ishl (C : am_Ctx p s m args meth c D cA tS base z) {len aux pc : Nat} {L : List (Option Value)} {st : List Value} {h : am_H} {g : am_G} (hf : am_fetch z pc = some (.ishl, len, aux)) (hs : am_step d (.ishl) aux pc L st h = some g) (hd : R.frames = d ∧ 64 * d ≤ R.locals) (h0 : n0 ≤ h.1 ∧ s0 ≤ h.2.1) (hr : g.2.2.2.1 - n0 ≤ R.cells ∧ g.2.2.2.2.1 - s0 ≤ R.slots) (k : am_At p l e R s m args below meth c D cA tS base z Q n0 s0 g) : am_At p l e R s m args below meth c D cA tS base z Q n0 s0 (pc, L, st, h) := by
  obtain ⟨hx, hb, hml, hrt, hown, hts, hlk, hnm, hX, hz⟩ := C
  obtain ⟨hdc, hln, hres⟩ := am_chkz hz hf
  have hlen : len = 1 := by
    rcases hln with q | q
    · exact absurd (show (1 : Nat) = 0 from q) (by decide)
    · exact (show (1 : Nat) = len from q).symm
  subst hlen
  have hdc : decode (am_info z).2.1 pc = .ok (.ishl, 1) := hdc
  unfold am_step at hs
  dsimp only at hs
  split at hs
  · cases hs
    intro H locs ls hS
    exact lv_ishl hx hb hdc (k H locs ls hS)
  · cases hs
theorem am_k_ishr (C : am_Ctx p s m args meth c D cA tS base z) {len aux pc : Nat} {L : List (Option Value)} {st : List Value} {h : am_H} {g : am_G} (hf : am_fetch z pc = some (.ishr, len, aux)) (hs : am_step d (.ishr) aux pc L st h = some g) (hd : R.frames = d ∧ 64 * d ≤ R.locals) (h0 : n0 ≤ h.1 ∧ s0 ≤ h.2.1) (hr : g.2.2.2.1 - n0 ≤ R.cells ∧ g.2.2.2.2.1 - s0 ≤ R.slots) (k : am_At p l e R s m args below meth c D cA tS base z Q n0 s0 g) : am_At p l e R s m args below meth c D cA tS base z Q n0 s0 (pc, L, st, h) := by
  obtain ⟨hx, hb, hml, hrt, hown, hts, hlk, hnm, hX, hz⟩ := C
  obtain ⟨hdc, hln, hres⟩ := am_chkz hz hf
  have hlen : len = 1 := by
    rcases hln with q | q
    · exact absurd (show (1 : Nat) = 0 from q) (by decide)
    · exact (show (1 : Nat) = len from q).symm
  subst hlen
  have hdc : decode (am_info z).2.1 pc = .ok (.ishr, 1) := hdc
  unfold am_step at hs
  dsimp only at hs
  split at hs
  · cases hs
    intro H locs ls hS
    exact lv_ishr hx hb hdc (k H locs ls hS)
  · cases hs
theorem am_k_ineg (C : am_Ctx p s m args meth c D cA tS base z) {len aux pc : Nat} {L : List (Option Value)} {st : List Value} {h : am_H} {g : am_G} (hf : am_fetch z pc = some (.ineg, len, aux)) (hs : am_step d (.ineg) aux pc L st h = some g) (hd : R.frames = d ∧ 64 * d ≤ R.locals) (h0 : n0 ≤ h.1 ∧ s0 ≤ h.2.1) (hr : g.2.2.2.1 - n0 ≤ R.cells ∧ g.2.2.2.2.1 - s0 ≤ R.slots) (k : am_At p l e R s m args below meth c D cA tS base z Q n0 s0 g) : am_At p l e R s m args below meth c D cA tS base z Q n0 s0 (pc, L, st, h) := by
  obtain ⟨hx, hb, hml, hrt, hown, hts, hlk, hnm, hX, hz⟩ := C
  obtain ⟨hdc, hln, hres⟩ := am_chkz hz hf
  have hlen : len = 1 := by
    rcases hln with q | q
    · exact absurd (show (1 : Nat) = 0 from q) (by decide)
    · exact (show (1 : Nat) = len from q).symm
  subst hlen
  have hdc : decode (am_info z).2.1 pc = .ok (.ineg, 1) := hdc
  unfold am_step at hs
  dsimp only at hs
  split at hs
  · cases hs
    intro H locs ls hS
    exact lv_ineg hx hb hdc (k H locs ls hS)
  · cases hs
theorem am_k_ladd (C : am_Ctx p s m args meth c D cA tS base z) {len aux pc : Nat} {L : List (Option Value)} {st : List Value} {h : am_H} {g : am_G} (hf : am_fetch z pc = some (.ladd, len, aux)) (hs : am_step d (.ladd) aux pc L st h = some g) (hd : R.frames = d ∧ 64 * d ≤ R.locals) (h0 : n0 ≤ h.1 ∧ s0 ≤ h.2.1) (hr : g.2.2.2.1 - n0 ≤ R.cells ∧ g.2.2.2.2.1 - s0 ≤ R.slots) (k : am_At p l e R s m args below meth c D cA tS base z Q n0 s0 g) : am_At p l e R s m args below meth c D cA tS base z Q n0 s0 (pc, L, st, h) := by
  obtain ⟨hx, hb, hml, hrt, hown, hts, hlk, hnm, hX, hz⟩ := C
  obtain ⟨hdc, hln, hres⟩ := am_chkz hz hf
  have hlen : len = 1 := by
    rcases hln with q | q
    · exact absurd (show (1 : Nat) = 0 from q) (by decide)
    · exact (show (1 : Nat) = len from q).symm
  subst hlen
  have hdc : decode (am_info z).2.1 pc = .ok (.ladd, 1) := hdc
  unfold am_step at hs
  dsimp only at hs
  split at hs
  · cases hs
    intro H locs ls hS
    exact lv_ladd hx hb hdc (k H locs ls hS)
  · cases hs
theorem am_k_lmul (C : am_Ctx p s m args meth c D cA tS base z) {len aux pc : Nat} {L : List (Option Value)} {st : List Value} {h : am_H} {g : am_G} (hf : am_fetch z pc = some (.lmul, len, aux)) (hs : am_step d (.lmul) aux pc L st h = some g) (hd : R.frames = d ∧ 64 * d ≤ R.locals) (h0 : n0 ≤ h.1 ∧ s0 ≤ h.2.1) (hr : g.2.2.2.1 - n0 ≤ R.cells ∧ g.2.2.2.2.1 - s0 ≤ R.slots) (k : am_At p l e R s m args below meth c D cA tS base z Q n0 s0 g) : am_At p l e R s m args below meth c D cA tS base z Q n0 s0 (pc, L, st, h) := by
  obtain ⟨hx, hb, hml, hrt, hown, hts, hlk, hnm, hX, hz⟩ := C
  obtain ⟨hdc, hln, hres⟩ := am_chkz hz hf
  have hlen : len = 1 := by
    rcases hln with q | q
    · exact absurd (show (1 : Nat) = 0 from q) (by decide)
    · exact (show (1 : Nat) = len from q).symm
  subst hlen
  have hdc : decode (am_info z).2.1 pc = .ok (.lmul, 1) := hdc
  unfold am_step at hs
  dsimp only at hs
  split at hs
  · cases hs
    intro H locs ls hS
    exact lv_lmul hx hb hdc (k H locs ls hS)
  · cases hs
theorem am_k_i2l (C : am_Ctx p s m args meth c D cA tS base z) {len aux pc : Nat} {L : List (Option Value)} {st : List Value} {h : am_H} {g : am_G} (hf : am_fetch z pc = some (.i2l, len, aux)) (hs : am_step d (.i2l) aux pc L st h = some g) (hd : R.frames = d ∧ 64 * d ≤ R.locals) (h0 : n0 ≤ h.1 ∧ s0 ≤ h.2.1) (hr : g.2.2.2.1 - n0 ≤ R.cells ∧ g.2.2.2.2.1 - s0 ≤ R.slots) (k : am_At p l e R s m args below meth c D cA tS base z Q n0 s0 g) : am_At p l e R s m args below meth c D cA tS base z Q n0 s0 (pc, L, st, h) := by
  obtain ⟨hx, hb, hml, hrt, hown, hts, hlk, hnm, hX, hz⟩ := C
  obtain ⟨hdc, hln, hres⟩ := am_chkz hz hf
  have hlen : len = 1 := by
    rcases hln with q | q
    · exact absurd (show (1 : Nat) = 0 from q) (by decide)
    · exact (show (1 : Nat) = len from q).symm
  subst hlen
  have hdc : decode (am_info z).2.1 pc = .ok (.i2l, 1) := hdc
  unfold am_step at hs
  dsimp only at hs
  split at hs
  · cases hs
    intro H locs ls hS
    exact lv_i2l hx hb hdc rfl (k H locs ls hS)
  · cases hs
theorem am_k_lcmp (C : am_Ctx p s m args meth c D cA tS base z) {len aux pc : Nat} {L : List (Option Value)} {st : List Value} {h : am_H} {g : am_G} (hf : am_fetch z pc = some (.lcmp, len, aux)) (hs : am_step d (.lcmp) aux pc L st h = some g) (hd : R.frames = d ∧ 64 * d ≤ R.locals) (h0 : n0 ≤ h.1 ∧ s0 ≤ h.2.1) (hr : g.2.2.2.1 - n0 ≤ R.cells ∧ g.2.2.2.2.1 - s0 ≤ R.slots) (k : am_At p l e R s m args below meth c D cA tS base z Q n0 s0 g) : am_At p l e R s m args below meth c D cA tS base z Q n0 s0 (pc, L, st, h) := by
  obtain ⟨hx, hb, hml, hrt, hown, hts, hlk, hnm, hX, hz⟩ := C
  obtain ⟨hdc, hln, hres⟩ := am_chkz hz hf
  have hlen : len = 1 := by
    rcases hln with q | q
    · exact absurd (show (1 : Nat) = 0 from q) (by decide)
    · exact (show (1 : Nat) = len from q).symm
  subst hlen
  have hdc : decode (am_info z).2.1 pc = .ok (.lcmp, 1) := hdc
  unfold am_step at hs
  dsimp only at hs
  split at hs
  · cases hs
    intro H locs ls hS
    exact W.lcmp hx hb hdc (k H locs ls hS)
  · cases hs
theorem am_k_pop (C : am_Ctx p s m args meth c D cA tS base z) {len aux pc : Nat} {L : List (Option Value)} {st : List Value} {h : am_H} {g : am_G} (hf : am_fetch z pc = some (.pop, len, aux)) (hs : am_step d (.pop) aux pc L st h = some g) (hd : R.frames = d ∧ 64 * d ≤ R.locals) (h0 : n0 ≤ h.1 ∧ s0 ≤ h.2.1) (hr : g.2.2.2.1 - n0 ≤ R.cells ∧ g.2.2.2.2.1 - s0 ≤ R.slots) (k : am_At p l e R s m args below meth c D cA tS base z Q n0 s0 g) : am_At p l e R s m args below meth c D cA tS base z Q n0 s0 (pc, L, st, h) := by
  obtain ⟨hx, hb, hml, hrt, hown, hts, hlk, hnm, hX, hz⟩ := C
  obtain ⟨hdc, hln, hres⟩ := am_chkz hz hf
  have hlen : len = 1 := by
    rcases hln with q | q
    · exact absurd (show (1 : Nat) = 0 from q) (by decide)
    · exact (show (1 : Nat) = len from q).symm
  subst hlen
  have hdc : decode (am_info z).2.1 pc = .ok (.pop, 1) := hdc
  unfold am_step at hs
  dsimp only at hs
  split at hs
  · cases hs
    intro H locs ls hS
    exact lv_pop hx hb hdc rfl (k H locs ls hS)
  · cases hs
theorem am_k_dup2 (C : am_Ctx p s m args meth c D cA tS base z) {len aux pc : Nat} {L : List (Option Value)} {st : List Value} {h : am_H} {g : am_G} (hf : am_fetch z pc = some (.dup2, len, aux)) (hs : am_step d (.dup2) aux pc L st h = some g) (hd : R.frames = d ∧ 64 * d ≤ R.locals) (h0 : n0 ≤ h.1 ∧ s0 ≤ h.2.1) (hr : g.2.2.2.1 - n0 ≤ R.cells ∧ g.2.2.2.2.1 - s0 ≤ R.slots) (k : am_At p l e R s m args below meth c D cA tS base z Q n0 s0 g) : am_At p l e R s m args below meth c D cA tS base z Q n0 s0 (pc, L, st, h) := by
  obtain ⟨hx, hb, hml, hrt, hown, hts, hlk, hnm, hX, hz⟩ := C
  obtain ⟨hdc, hln, hres⟩ := am_chkz hz hf
  have hlen : len = 1 := by
    rcases hln with q | q
    · exact absurd (show (1 : Nat) = 0 from q) (by decide)
    · exact (show (1 : Nat) = len from q).symm
  subst hlen
  have hdc : decode (am_info z).2.1 pc = .ok (.dup2, 1) := hdc
  unfold am_step at hs
  dsimp only at hs
  split at hs
  · cases hs
    intro H locs ls hS
    exact lv_dup2_11 hx hb hdc rfl rfl (k H locs ls hS)
  · cases hs
theorem am_k_dup (C : am_Ctx p s m args meth c D cA tS base z) {len aux pc : Nat} {L : List (Option Value)} {st : List Value} {h : am_H} {g : am_G} (hf : am_fetch z pc = some (.dup, len, aux)) (hs : am_step d (.dup) aux pc L st h = some g) (hd : R.frames = d ∧ 64 * d ≤ R.locals) (h0 : n0 ≤ h.1 ∧ s0 ≤ h.2.1) (hr : g.2.2.2.1 - n0 ≤ R.cells ∧ g.2.2.2.2.1 - s0 ≤ R.slots) (k : am_At p l e R s m args below meth c D cA tS base z Q n0 s0 g) : am_At p l e R s m args below meth c D cA tS base z Q n0 s0 (pc, L, st, h) := by
  obtain ⟨hx, hb, hml, hrt, hown, hts, hlk, hnm, hX, hz⟩ := C
  obtain ⟨hdc, hln, hres⟩ := am_chkz hz hf
  have hlen : len = 1 := by
    rcases hln with q | q
    · exact absurd (show (1 : Nat) = 0 from q) (by decide)
    · exact (show (1 : Nat) = len from q).symm
  subst hlen
  have hdc : decode (am_info z).2.1 pc = .ok (.dup, 1) := hdc
  unfold am_step at hs
  dsimp only at hs
  split at hs
  · cases hs
    intro H locs ls hS
    exact lv_dup hx hb hdc rfl (k H locs ls hS)
  · cases hs
    intro H locs ls hS
    exact lv_dup hx hb hdc rfl (k H locs ls hS)
  · cases hs
theorem am_k_idiv (C : am_Ctx p s m args meth c D cA tS base z) {len aux pc : Nat} {L : List (Option Value)} {st : List Value} {h : am_H} {g : am_G} (hf : am_fetch z pc = some (.idiv, len, aux)) (hs : am_step d (.idiv) aux pc L st h = some g) (hd : R.frames = d ∧ 64 * d ≤ R.locals) (h0 : n0 ≤ h.1 ∧ s0 ≤ h.2.1) (hr : g.2.2.2.1 - n0 ≤ R.cells ∧ g.2.2.2.2.1 - s0 ≤ R.slots) (k : am_At p l e R s m args below meth c D cA tS base z Q n0 s0 g) : am_At p l e R s m args below meth c D cA tS base z Q n0 s0 (pc, L, st, h) := by
  obtain ⟨hx, hb, hml, hrt, hown, hts, hlk, hnm, hX, hz⟩ := C
  obtain ⟨hdc, hln, hres⟩ := am_chkz hz hf
  have hlen : len = 1 := by
    rcases hln with q | q
    · exact absurd (show (1 : Nat) = 0 from q) (by decide)
    · exact (show (1 : Nat) = len from q).symm
  subst hlen
  have hdc : decode (am_info z).2.1 pc = .ok (.idiv, 1) := hdc
  unfold am_step at hs
  dsimp only at hs
  split at hs
  · split at hs
    · cases hs
    · rename_i hne
      cases hs
      intro H locs ls hS
      exact lv_idiv hx hb hdc hne (k H locs ls hS)
  · cases hs
theorem am_k_irem (C : am_Ctx p s m args meth c D cA tS base z) {len aux pc : Nat} {L : List (Option Value)} {st : List Value} {h : am_H} {g : am_G} (hf : am_fetch z pc = some (.irem, len, aux)) (hs : am_step d (.irem) aux pc L st h = some g) (hd : R.frames = d ∧ 64 * d ≤ R.locals) (h0 : n0 ≤ h.1 ∧ s0 ≤ h.2.1) (hr : g.2.2.2.1 - n0 ≤ R.cells ∧ g.2.2.2.2.1 - s0 ≤ R.slots) (k : am_At p l e R s m args below meth c D cA tS base z Q n0 s0 g) : am_At p l e R s m args below meth c D cA tS base z Q n0 s0 (pc, L, st, h) := by
  obtain ⟨hx, hb, hml, hrt, hown, hts, hlk, hnm, hX, hz⟩ := C
  obtain ⟨hdc, hln, hres⟩ := am_chkz hz hf
  have hlen : len = 1 := by
    rcases hln with q | q
    · exact absurd (show (1 : Nat) = 0 from q) (by decide)
    · exact (show (1 : Nat) = len from q).symm
  subst hlen
  have hdc : decode (am_info z).2.1 pc = .ok (.irem, 1) := hdc
  unfold am_step at hs
  dsimp only at hs
  split at hs
  · split at hs
    · cases hs
    · rename_i hne
      cases hs
      intro H locs ls hS
      exact lv_irem hx hb hdc hne (k H locs ls hS)
  · cases hs
theorem am_k_goto (C : am_Ctx p s m args meth c D cA tS base z) {off : Int} {len aux pc : Nat} {L : List (Option Value)} {st : List Value} {h : am_H} {g : am_G} (hf : am_fetch z pc = some (.goto off, len, aux)) (hs : am_step d (.goto off) aux pc L st h = some g) (hd : R.frames = d ∧ 64 * d ≤ R.locals) (h0 : n0 ≤ h.1 ∧ s0 ≤ h.2.1) (hr : g.2.2.2.1 - n0 ≤ R.cells ∧ g.2.2.2.2.1 - s0 ≤ R.slots) (k : am_At p l e R s m args below meth c D cA tS base z Q n0 s0 g) : am_At p l e R s m args below meth c D cA tS base z Q n0 s0 (pc, L, st, h) := by
  obtain ⟨hx, hb, hml, hrt, hown, hts, hlk, hnm, hX, hz⟩ := C
  obtain ⟨hdc, hln, hres⟩ := am_chkz hz hf
  have hlen : len = 3 := by
    rcases hln with q | q
    · exact absurd (show (3 : Nat) = 0 from q) (by decide)
    · exact (show (3 : Nat) = len from q).symm
  subst hlen
  have hdc : decode (am_info z).2.1 pc = .ok (.goto off, 3) := hdc
  cases hs
  intro H locs ls hS
  exact lv_goto hx hb hdc (am_tok_eq (show am_tok pc off = true from hres)) (k H locs ls hS)
theorem am_nn {c : Prop} [Decidable c] {a b : Nat} (h : ¬ ¬ c) : (if c then a else b) = a := if_pos (Decidable.not_not.mp h)
theorem am_k_ifCond (C : am_Ctx p s m args meth c D cA tS base z) {cd : ClassFile.Cond} {off : Int} {len aux pc : Nat} {L : List (Option Value)} {st : List Value} {h : am_H} {g : am_G} (hf : am_fetch z pc = some (.ifCond cd off, len, aux)) (hs : am_step d (.ifCond cd off) aux pc L st h = some g) (hd : R.frames = d ∧ 64 * d ≤ R.locals) (h0 : n0 ≤ h.1 ∧ s0 ≤ h.2.1) (hr : g.2.2.2.1 - n0 ≤ R.cells ∧ g.2.2.2.2.1 - s0 ≤ R.slots) (k : am_At p l e R s m args below meth c D cA tS base z Q n0 s0 g) : am_At p l e R s m args below meth c D cA tS base z Q n0 s0 (pc, L, st, h) := by
  obtain ⟨hx, hb, hml, hrt, hown, hts, hlk, hnm, hX, hz⟩ := C
  obtain ⟨hdc, hln, hres⟩ := am_chkz hz hf
  have hlen : len = 3 := by
    rcases hln with q | q
    · exact absurd (show (3 : Nat) = 0 from q) (by decide)
    · exact (show (3 : Nat) = len from q).symm
  subst hlen
  have hdc : decode (am_info z).2.1 pc = .ok (.ifCond cd off, 3) := hdc
  have htk := am_tok_eq (show am_tok pc off = true from hres)
  unfold am_step at hs
  dsimp only at hs
  split at hs
  · cases hs
    cases cd
    case eq =>
      intro H locs ls hS
      exact lv_if_eq hx hb hdc htk (fun hc => (am_At.pc k (if_pos hc)) H locs ls hS) (fun hc => (am_At.pc k (if_neg hc)) H locs ls hS)
    case ne =>
      intro H locs ls hS
      exact lv_if_ne hx hb hdc htk (fun hc => (am_At.pc k (if_neg hc)) H locs ls hS) (fun hc => (am_At.pc k (if_pos hc)) H locs ls hS)
    case lt =>
      intro H locs ls hS
      exact lv_if_lt hx hb hdc htk (fun hc => (am_At.pc k (if_pos hc)) H locs ls hS) (fun hc => (am_At.pc k (if_neg hc)) H locs ls hS)
    case ge =>
      intro H locs ls hS
      exact lv_if_ge hx hb hdc htk (fun hc => (am_At.pc k (if_pos hc)) H locs ls hS) (fun hc => (am_At.pc k (if_neg hc)) H locs ls hS)
    case gt =>
      intro H locs ls hS
      exact lv_if_gt hx hb hdc htk (fun hc => (am_At.pc k (if_pos hc)) H locs ls hS) (fun hc => (am_At.pc k (if_neg hc)) H locs ls hS)
    case le =>
      intro H locs ls hS
      exact lv_if_le hx hb hdc htk (fun hc => (am_At.pc k (if_pos hc)) H locs ls hS) (fun hc => (am_At.pc k (if_neg hc)) H locs ls hS)
  · cases hs
theorem am_k_if_icmp (C : am_Ctx p s m args meth c D cA tS base z) {cd : ClassFile.Cond} {off : Int} {len aux pc : Nat} {L : List (Option Value)} {st : List Value} {h : am_H} {g : am_G} (hf : am_fetch z pc = some (.if_icmp cd off, len, aux)) (hs : am_step d (.if_icmp cd off) aux pc L st h = some g) (hd : R.frames = d ∧ 64 * d ≤ R.locals) (h0 : n0 ≤ h.1 ∧ s0 ≤ h.2.1) (hr : g.2.2.2.1 - n0 ≤ R.cells ∧ g.2.2.2.2.1 - s0 ≤ R.slots) (k : am_At p l e R s m args below meth c D cA tS base z Q n0 s0 g) : am_At p l e R s m args below meth c D cA tS base z Q n0 s0 (pc, L, st, h) := by
  obtain ⟨hx, hb, hml, hrt, hown, hts, hlk, hnm, hX, hz⟩ := C
  obtain ⟨hdc, hln, hres⟩ := am_chkz hz hf
  have hlen : len = 3 := by
    rcases hln with q | q
    · exact absurd (show (3 : Nat) = 0 from q) (by decide)
    · exact (show (3 : Nat) = len from q).symm
  subst hlen
  have hdc : decode (am_info z).2.1 pc = .ok (.if_icmp cd off, 3) := hdc
  have htk := am_tok_eq (show am_tok pc off = true from hres)
  unfold am_step at hs
  dsimp only at hs
  split at hs
  · cases hs
    cases cd
    case eq =>
      intro H locs ls hS
      exact lv_icmp_eq hx hb hdc htk (fun hc => (am_At.pc k (if_pos hc)) H locs ls hS) (fun hc => (am_At.pc k (if_neg hc)) H locs ls hS)
    case ne =>
      intro H locs ls hS
      exact lv_icmp_ne hx hb hdc htk (fun hc => (am_At.pc k (if_neg hc)) H locs ls hS) (fun hc => (am_At.pc k (if_pos hc)) H locs ls hS)
    case lt =>
      intro H locs ls hS
      exact lv_icmp_lt hx hb hdc htk (fun hc => (am_At.pc k (if_pos hc)) H locs ls hS) (fun hc => (am_At.pc k (if_neg hc)) H locs ls hS)
    case ge =>
      intro H locs ls hS
      exact lv_icmp_ge hx hb hdc htk (fun hc => (am_At.pc k (if_pos hc)) H locs ls hS) (fun hc => (am_At.pc k (if_neg hc)) H locs ls hS)
    case gt =>
      intro H locs ls hS
      exact lv_icmp_gt hx hb hdc htk (fun hc => (am_At.pc k (if_pos hc)) H locs ls hS) (fun hc => (am_At.pc k (if_neg hc)) H locs ls hS)
    case le =>
      intro H locs ls hS
      exact lv_icmp_le hx hb hdc htk (fun hc => (am_At.pc k (if_pos hc)) H locs ls hS) (fun hc => (am_At.pc k (if_neg hc)) H locs ls hS)
  · cases hs
theorem am_k_ifnull (C : am_Ctx p s m args meth c D cA tS base z) {off : Int} {len aux pc : Nat} {L : List (Option Value)} {st : List Value} {h : am_H} {g : am_G} (hf : am_fetch z pc = some (.ifnull off, len, aux)) (hs : am_step d (.ifnull off) aux pc L st h = some g) (hd : R.frames = d ∧ 64 * d ≤ R.locals) (h0 : n0 ≤ h.1 ∧ s0 ≤ h.2.1) (hr : g.2.2.2.1 - n0 ≤ R.cells ∧ g.2.2.2.2.1 - s0 ≤ R.slots) (k : am_At p l e R s m args below meth c D cA tS base z Q n0 s0 g) : am_At p l e R s m args below meth c D cA tS base z Q n0 s0 (pc, L, st, h) := by
  obtain ⟨hx, hb, hml, hrt, hown, hts, hlk, hnm, hX, hz⟩ := C
  obtain ⟨hdc, hln, hres⟩ := am_chkz hz hf
  have hlen : len = 3 := by
    rcases hln with q | q
    · exact absurd (show (3 : Nat) = 0 from q) (by decide)
    · exact (show (3 : Nat) = len from q).symm
  subst hlen
  have hdc : decode (am_info z).2.1 pc = .ok (.ifnull off, 3) := hdc
  have htk := am_tok_eq (show am_tok pc off = true from hres)
  unfold am_step at hs
  dsimp only at hs
  split at hs
  · cases hs
    intro H locs ls hS
    exact lv_ifnullN hx hb hdc htk (k H locs ls hS)
  · cases hs
    intro H locs ls hS
    exact lv_ifnull hx hb hdc (k H locs ls hS)
  · cases hs
theorem am_k_ifnonnull (C : am_Ctx p s m args meth c D cA tS base z) {off : Int} {len aux pc : Nat} {L : List (Option Value)} {st : List Value} {h : am_H} {g : am_G} (hf : am_fetch z pc = some (.ifnonnull off, len, aux)) (hs : am_step d (.ifnonnull off) aux pc L st h = some g) (hd : R.frames = d ∧ 64 * d ≤ R.locals) (h0 : n0 ≤ h.1 ∧ s0 ≤ h.2.1) (hr : g.2.2.2.1 - n0 ≤ R.cells ∧ g.2.2.2.2.1 - s0 ≤ R.slots) (k : am_At p l e R s m args below meth c D cA tS base z Q n0 s0 g) : am_At p l e R s m args below meth c D cA tS base z Q n0 s0 (pc, L, st, h) := by
  obtain ⟨hx, hb, hml, hrt, hown, hts, hlk, hnm, hX, hz⟩ := C
  obtain ⟨hdc, hln, hres⟩ := am_chkz hz hf
  have hlen : len = 3 := by
    rcases hln with q | q
    · exact absurd (show (3 : Nat) = 0 from q) (by decide)
    · exact (show (3 : Nat) = len from q).symm
  subst hlen
  have hdc : decode (am_info z).2.1 pc = .ok (.ifnonnull off, 3) := hdc
  have htk := am_tok_eq (show am_tok pc off = true from hres)
  unfold am_step at hs
  dsimp only at hs
  split at hs
  · cases hs
    intro H locs ls hS
    exact lv_ifnonnullN hx hb hdc (k H locs ls hS)
  · cases hs
    intro H locs ls hS
    exact lv_ifnonnull hx hb hdc htk (k H locs ls hS)
  · cases hs
theorem am_k_tableswitch (C : am_Ctx p s m args meth c D cA tS base z) {df lo hi : Int} {offs : Array Int} {len aux pc : Nat} {L : List (Option Value)} {st : List Value} {h : am_H} {g : am_G} (hf : am_fetch z pc = some (.tableswitch df lo hi offs, len, aux)) (hs : am_step d (.tableswitch df lo hi offs) aux pc L st h = some g) (hd : R.frames = d ∧ 64 * d ≤ R.locals) (h0 : n0 ≤ h.1 ∧ s0 ≤ h.2.1) (hr : g.2.2.2.1 - n0 ≤ R.cells ∧ g.2.2.2.2.1 - s0 ≤ R.slots) (k : am_At p l e R s m args below meth c D cA tS base z Q n0 s0 g) : am_At p l e R s m args below meth c D cA tS base z Q n0 s0 (pc, L, st, h) := by
  obtain ⟨hx, hb, hml, hrt, hown, hts, hlk, hnm, hX, hz⟩ := C
  obtain ⟨hdc, hln, hres⟩ := am_chkz hz hf
  have hdc : decode (am_info z).2.1 pc = .ok (.tableswitch df lo hi offs, len) := hdc
  have hres' : (am_tok pc df && offs.toList.all (am_tok pc)) = true := hres
  rw [Bool.and_eq_true] at hres'
  unfold am_step at hs
  dsimp only at hs
  split at hs
  · split at hs
    · rename_i hc
      cases hs
      intro H locs ls hS
      exact lv_tableOut hx hb hdc hc (am_tok_eq hres'.1) (k H locs ls hS)
    · rename_i hc
      split at hs
      · rename_i off heq
        split at hs
        · rename_i hge
          cases hs
          intro H locs ls hS
          exact lv_tableIn hx hb hdc (fun q => hc (Or.inl q)) (fun q => hc (Or.inr q)) heq (am_tgt_eq hge) (k H locs ls hS)
        · cases hs
      · cases hs
  · cases hs
theorem am_k_lookupswitch (C : am_Ctx p s m args meth c D cA tS base z) {df : Int} {ps : Array (Int × Int)} {len aux pc : Nat} {L : List (Option Value)} {st : List Value} {h : am_H} {g : am_G} (hf : am_fetch z pc = some (.lookupswitch df ps, len, aux)) (hs : am_step d (.lookupswitch df ps) aux pc L st h = some g) (hd : R.frames = d ∧ 64 * d ≤ R.locals) (h0 : n0 ≤ h.1 ∧ s0 ≤ h.2.1) (hr : g.2.2.2.1 - n0 ≤ R.cells ∧ g.2.2.2.2.1 - s0 ≤ R.slots) (k : am_At p l e R s m args below meth c D cA tS base z Q n0 s0 g) : am_At p l e R s m args below meth c D cA tS base z Q n0 s0 (pc, L, st, h) := by
  obtain ⟨hx, hb, hml, hrt, hown, hts, hlk, hnm, hX, hz⟩ := C
  obtain ⟨hdc, hln, hres⟩ := am_chkz hz hf
  have hdc : decode (am_info z).2.1 pc = .ok (.lookupswitch df ps, len) := hdc
  have hres' : (am_tok pc df && ps.toList.all (fun q => am_tok pc q.2) && (ps.toList.zip (ps.toList.drop 1)).all (fun (a, next) => a.1 < next.1)) = true := hres
  rw [Bool.and_eq_true] at hres'
  unfold am_step at hs
  dsimp only at hs
  split at hs
  · split at hs
    · rename_i hge
      cases hs
      intro H locs ls hS
      exact lv_lookup hx hb hdc hres'.2 rfl (am_tgt_eq hge) (k H locs ls hS)
    · cases hs
  · cases hs
end AMS
end
section
/-! the instructions that read, write or make cells -/
section AMH
variable {p : Program} {l : Launch} {e : Env} {R : Room} {s : State} {m : MethodId} {args : Array Value} {below : List Frame} {meth : Method} {c : Code} {D : va_G} {cA : Nat → ClassId} {tS : Nat → Nat} {base z d n0 s0 : Nat} {Q : State → Prop}
theorem am_g_int : Cond.arrayClass .int ∈ am_good := am_in (pl := 120) (by decide +kernel) rfl
theorem am_g_boo : Cond.arrayClass .boolean ∈ am_good := am_in (pl := 631) (by decide +kernel) rfl
theorem am_g_oi : Cond.instanceMethod Lib.objectInit ∈ am_good := am_in (pl := 82) (by decide +kernel) rfl
theorem am_g_oc : Cond.code Lib.objectInit ⟨#[0xb1]⟩ 1 none ∈ am_good := am_in (pl := 83) (by decide +kernel) rfl
theorem am_g_ns : Cond.static arraycopyName ∈ am_good := am_in (pl := 328) (by decide +kernel) rfl
theorem am_g_nn : Cond.native arraycopyName ∈ am_good := am_in (pl := 329) (by decide +kernel) rfl
theorem am_g_ni : Cond.initialized "java/lang/System" ∈ am_good := am_in (pl := 70) (by decide +kernel) rfl
theorem am_lc {locs : List Loc} {a f : Nat} (h : ∀ x ∈ locs, base ≤ x.base) (ha : base ≤ a) : ∀ x ∈ locs ++ [(⟨a, f⟩ : Loc)], base ≤ x.base := by
  intro x hx
  rcases List.mem_append.mp hx with q | q
  · exact h x q
  · rw [List.mem_singleton.mp q]
    exact ha
theorem am_fit_ok {ty : FieldType} {v : Value} (h : am_fit ty v = true) : narrow ty (am_v base tS v) = am_v base tS v ∧ fits ty (am_v base tS v) = true := by
  cases ty <;> cases v <;> first | (cases h; done) | exact ⟨rfl, rfl⟩ | skip
  rename_i x
  have h' : (x == 0 || x == 1) = true := h
  simp only [Bool.or_eq_true, beq_iff_eq] at h'
  rcases h' with q | q <;> subst q <;> exact ⟨rfl, rfl⟩
theorem am_sum (st : List Value) : ((st.map (am_v base tS)).map fun v => v.category).sum = (st.map fun v => v.category).sum := by
  rw [List.map_map]
  congr 1
  exact List.map_congr_left (fun v _ => am_cat v)
theorem am_aty {t : Nat} (h1 : 2 ≤ t) (h2 : t < 6) : am_ty t = .object (am_an t) ∧ ∃ T N, am_cl[am_ac t]? = some (am_an t, T, N) := by
  rcases (show t = 2 ∨ t = 3 ∨ t = 4 ∨ t = 5 by omega) with q | q | q | q <;> subst q <;> exact ⟨rfl, _, _, rfl⟩
theorem am_j5 {j : Nat} (h : j < 5) : (UInt32.ofNat j).toNat = j := by
  rcases (show j = 0 ∨ j = 1 ∨ j = 2 ∨ j = 3 ∨ j = 4 by omega) with q | q | q | q | q <;> subst q <;> rfl
set_option maxHeartbeats 2000000 in
theorem am_k_getfield (C : am_Ctx p s m args meth c D cA tS base z) {n : Nat} {len aux pc : Nat} {L : List (Option Value)} {st : List Value} {h : am_H} {g : am_G} (hf : am_fetch z pc = some (.getfield n, len, aux)) (hs : am_step d (.getfield n) aux pc L st h = some g) (hd : R.frames = d ∧ 64 * d ≤ R.locals) (h0 : n0 ≤ h.1 ∧ s0 ≤ h.2.1) (hr : g.2.2.2.1 - n0 ≤ R.cells ∧ g.2.2.2.2.1 - s0 ≤ R.slots) (k : am_At p l e R s m args below meth c D cA tS base z Q n0 s0 g) : am_At p l e R s m args below meth c D cA tS base z Q n0 s0 (pc, L, st, h) := by
  obtain ⟨hx, hb, hml, hrt, hown, hts, hlk, hnm, hX, hz⟩ := C
  obtain ⟨hdc, hln, hres⟩ := am_chkz hz hf
  have hlen : len = 3 := by
    rcases hln with q | q
    · exact absurd (show (3 : Nat) = 0 from q) (by decide)
    · exact (show (3 : Nat) = len from q).symm
  subst hlen
  have hdc : decode (am_info z).2.1 pc = .ok (.getfield n, 3) := hdc
  have hres' : am_fld (am_info z).1.cls (am_info z).1.name false n aux = true := hres
  unfold am_fld at hres'
  unfold am_step at hs
  dsimp only at hs
  split at hs
  · rename_i a st'
    split at hs
    · rename_i hlt
      split at hs
      · rename_i ci fs heq
        split at hs
        · rename_i hci
          split at hs
          · rename_i v hv
            cases hs
            subst hci
            cases hc : am_cl[aux / 1000000]? with
            | none => rw [hc] at hres'; cases hres'
            | some q =>
              obtain ⟨Cn, T, N⟩ := q
              rw [hc] at hres'
              simp only [Bool.and_eq_true, Nat.blt_eq] at hres'
              obtain ⟨y, hy, hin, hfd, hnm', hins, hini⟩ := am_clsz hc
              intro H locs ls hS
              exact va_get hx hb hts hin hown hX.1 (hS.1.one hlt heq) 0 rfl hc _ hres'.1.1 (hts _ (am_in hres'.1.2 rfl)) (fun x hx' => by rw [(hfd _ hres'.1.1).2.1] at hx'; exact hx') (v := am_v base tS v) (by rw [List.getElem?_map, hv]; rfl) hdc (k H locs ls hS)
          · cases hs
        · cases hs
      · cases hs
    · cases hs
  · cases hs
set_option maxHeartbeats 2000000 in
theorem am_k_putfield (C : am_Ctx p s m args meth c D cA tS base z) {n : Nat} {len aux pc : Nat} {L : List (Option Value)} {st : List Value} {h : am_H} {g : am_G} (hf : am_fetch z pc = some (.putfield n, len, aux)) (hs : am_step d (.putfield n) aux pc L st h = some g) (hd : R.frames = d ∧ 64 * d ≤ R.locals) (h0 : n0 ≤ h.1 ∧ s0 ≤ h.2.1) (hr : g.2.2.2.1 - n0 ≤ R.cells ∧ g.2.2.2.2.1 - s0 ≤ R.slots) (k : am_At p l e R s m args below meth c D cA tS base z Q n0 s0 g) : am_At p l e R s m args below meth c D cA tS base z Q n0 s0 (pc, L, st, h) := by
  obtain ⟨hx, hb, hml, hrt, hown, hts, hlk, hnm, hX, hz⟩ := C
  obtain ⟨hdc, hln, hres⟩ := am_chkz hz hf
  have hlen : len = 3 := by
    rcases hln with q | q
    · exact absurd (show (3 : Nat) = 0 from q) (by decide)
    · exact (show (3 : Nat) = len from q).symm
  subst hlen
  have hdc : decode (am_info z).2.1 pc = .ok (.putfield n, 3) := hdc
  have hres' : am_fld (am_info z).1.cls (am_info z).1.name true n aux = true := hres
  unfold am_fld at hres'
  unfold am_step at hs
  dsimp only at hs
  split at hs
  · rename_i v a st'
    split at hs
    · rename_i hlt
      split at hs
      · rename_i ci fs heq
        split at hs
        · rename_i hci
          obtain ⟨hci, hl, hfit⟩ := hci
          cases hs
          subst hci
          cases hc : am_cl[aux / 1000000]? with
          | none => rw [hc] at hres'; cases hres'
          | some q =>
            obtain ⟨Cn, T, N⟩ := q
            rw [hc] at hres'
            simp only [Bool.and_eq_true, Nat.blt_eq] at hres'
            obtain ⟨y, hy, hin, hfd, hnm', hins, hini⟩ := am_clsz hc
            have hj := hres'.1.1
            generalize aux / 10000 % 100 = j at *
            rw [List.getD_eq_getElem?_getD, hy] at hfit
            obtain ⟨hn1, hf1⟩ := am_fit_ok (base := base) (tS := tS) (show am_fit (y j) v = true from hfit)
            intro H locs ls hS
            have hap := va_apart (own := Cn) hts hin y (fun k hk => (hfd k hk).1) hnm' hX.1 hc
            have hat := hS.1.2 a hlt
            have heq' : (pc, L, v :: Value.ref a :: st', h).2.2.2.2.2 a = Sum.inr (aux / 1000000, fs) := heq
            rw [heq'] at hat
            obtain ⟨r, h1, cell, q1, q2, q3, q4⟩ := hat
            have hr' : r = (Cn, T, N) := Option.some.inj (h1.symm.trans hc)
            subst hr'
            obtain ⟨hSl, hfc, kC, hkC, hkind⟩ := hX.1.1 _ _ hc
            obtain ⟨cf, kf, fi, f, hi, hsl⟩ := hSl j hj
            have hlink := hts _ (am_in hres'.1.2 rfl)
            have hTC := (hfd j hj).2.1
            have hi2 := hi
            dsimp only at hi2
            rw [hTC] at hi2
            have hlay := hts _ (hin _ (u_in_lay hj))
            have hst := (u_facts hfc hkC (u_lays hts hin hj) hi).1
            have fin : ∀ H' : Heap, H'[base + a]? = some (cell.setSlot f.slot (am_v base tS v)) → H'.size = H.size → (∀ q, q ≠ base + a → H'[q]? = H[q]?) → W p l e R s m args below meth c H' (locs ++ [⟨base + a, f.slot⟩]) (h.1 - n0) (h.2.1 - s0) Q (F0 m (pc + 3) ls (st'.map (am_v base tS))) := by
              intro H' e1 e2 e3
              rw [hsl] at e1
              refine k H' _ ls ⟨hS.1.set ⟨_, hc, t_OB.to (V := updV (vp_V (fs.map (am_v base tS))) j (am_v base tS v)) ⟨_, e1, q2, q3, t_set q4 hap hj _⟩ (fun i _ => ?_)⟩ e2 e3, fun q hq => (e3 q (Nat.ne_of_lt (Nat.lt_of_lt_of_le hq (Nat.le_add_right base a)))).trans (hS.2.1 q hq), am_lc hS.2.2.1 (Nat.le_add_right base a), hS.2.2.2⟩
              show updV (vp_V (fs.map (am_v base tS))) j (am_v base tS v) i = vp_V ((fs.set j v).map (am_v base tS)) i
              rw [vp_updV_set (by rw [List.length_map]; exact hl), List.map_set]
            by_cases hfin : (T j).2.2.2 = true
            · have hq := hres'.2
              rw [hfin] at hq
              simp only [Bool.not_true, Bool.false_or, Bool.or_eq_true, Bool.and_eq_true, beq_iff_eq] at hq
              have hq : (am_info z).1.name = "<init>" ∧ Cn = (am_info z).1.cls := by simpa using hq
              unfold u_lay at hlay
              rw [if_pos hfin] at hlay
              have hcf : m.cls = cf := by
                obtain ⟨_, _, c', _, _, _, -, -, hf', -, -, -, hown2, -⟩ := Cond.laysFinal_spec hlay
                have e1 : c' = cf := by have := hi.symm.trans hf'; simp at this; exact this.1.symm
                rw [hTC, hq.2] at hown2
                rw [← e1]; exact Option.some.inj (hown.symm.trans hown2)
              have h6 := u_fits hfc hkC hkind (Or.inr hlay) hi (hfd j hj).1 hn1 hf1
              exact W.putFinK hx hb hown hlink hi2 hst hcf (hnm.trans hq.1) (by rw [q2]; exact h6) q1 q3 (by rw [hsl]; exact k2_hasslot (q4 j hj)) rfl rfl hdc fin
            · unfold u_lay at hlay
              rw [if_neg hfin] at hlay
              have h6 := u_store hfc hkC hkind hlay hi (hfd j hj).1 hn1 hf1
              exact W.putK hx hb (f := f) ⟨hown, hlink, ⟨_, _, _, hi2⟩, hst⟩ (by rw [q2]; exact h6) q1 q3 (by rw [hsl]; exact k2_hasslot (q4 j hj)) rfl rfl hdc fin
        · cases hs
      · cases hs
    · cases hs
  · cases hs
set_option maxHeartbeats 2000000 in
theorem am_k_getstatic (C : am_Ctx p s m args meth c D cA tS base z) {n : Nat} {len aux pc : Nat} {L : List (Option Value)} {st : List Value} {h : am_H} {g : am_G} (hf : am_fetch z pc = some (.getstatic n, len, aux)) (hs : am_step d (.getstatic n) aux pc L st h = some g) (hd : R.frames = d ∧ 64 * d ≤ R.locals) (h0 : n0 ≤ h.1 ∧ s0 ≤ h.2.1) (hr : g.2.2.2.1 - n0 ≤ R.cells ∧ g.2.2.2.2.1 - s0 ≤ R.slots) (k : am_At p l e R s m args below meth c D cA tS base z Q n0 s0 g) : am_At p l e R s m args below meth c D cA tS base z Q n0 s0 (pc, L, st, h) := by
  obtain ⟨hx, hb, hml, hrt, hown, hts, hlk, hnm, hX, hz⟩ := C
  obtain ⟨hdc, hln, hres⟩ := am_chkz hz hf
  have hlen : len = 3 := by
    rcases hln with q | q
    · exact absurd (show (3 : Nat) = 0 from q) (by decide)
    · exact (show (3 : Nat) = len from q).symm
  subst hlen
  have hdc : decode (am_info z).2.1 pc = .ok (.getstatic n, 3) := hdc
  have hres' : (Nat.blt (aux / 10000) 5 && am_w (aux % 10000) (.fieldLink (am_info z).1.cls n (am_sC (aux / 10000)) (am_sN (aux / 10000)) "[I")) = true := hres
  rw [Bool.and_eq_true, Nat.blt_eq] at hres'
  cases hs
  intro H locs ls hS
  obtain ⟨cf, kf, fi, f, a, cell, h1, h2, h3, h4, h5, h6, h7, h8⟩ := (hX.2.1 _ hres'.1).1
  have k1 := k H locs ls hS
  have e1 : am_v base tS (.float (UInt32.ofNat (aux / 10000))) = .ref (tS (aux / 10000)) := by
    show Value.ref (tS (UInt32.ofNat (aux / 10000)).toNat) = _
    rw [am_j5 hres'.1]
  have k2 : W p l e R s m args below meth c H locs (h.1 - n0) (h.2.1 - s0) Q (F0 m (pc + 3) ls (am_v base tS (.float (UInt32.ofNat (aux / 10000))) :: st.map (am_v base tS))) := k1
  rw [e1] at k2
  exact W.gets hx hb hown (hts _ (am_in hres'.2 rfl)) h1 h2 h3 h4 (by rw [hS.2.1 a (Nat.not_le.mp h8)]; exact h5) (fun e => by rw [e] at h6; cases h6) h7 rfl hdc k2
set_option maxHeartbeats 2000000 in
theorem am_k_new (C : am_Ctx p s m args meth c D cA tS base z) {n : Nat} {len aux pc : Nat} {L : List (Option Value)} {st : List Value} {h : am_H} {g : am_G} (hf : am_fetch z pc = some (.new n, len, aux)) (hs : am_step d (.new n) aux pc L st h = some g) (hd : R.frames = d ∧ 64 * d ≤ R.locals) (h0 : n0 ≤ h.1 ∧ s0 ≤ h.2.1) (hr : g.2.2.2.1 - n0 ≤ R.cells ∧ g.2.2.2.2.1 - s0 ≤ R.slots) (k : am_At p l e R s m args below meth c D cA tS base z Q n0 s0 g) : am_At p l e R s m args below meth c D cA tS base z Q n0 s0 (pc, L, st, h) := by
  obtain ⟨hx, hb, hml, hrt, hown, hts, hlk, hnm, hX, hz⟩ := C
  obtain ⟨hdc, hln, hres⟩ := am_chkz hz hf
  have hlen : len = 3 := by
    rcases hln with q | q
    · exact absurd (show (3 : Nat) = 0 from q) (by decide)
    · exact (show (3 : Nat) = len from q).symm
  subst hlen
  have hdc : decode (am_info z).2.1 pc = .ok (.new n, 3) := hdc
  have hres' : (match am_cl[aux / 10000]? with
    | some (C, _, _) => am_w (aux % 10000) (.classLink (am_info z).1.cls n C)
    | none => false) = true := hres
  unfold am_step at hs
  dsimp only at hs
  split at hs
  · rename_i Cn T N hc
    rw [hc] at hres'
    obtain ⟨y, hy, hin, hfd, hnm', hins, hini⟩ := am_clsz hc
    cases hs
    dsimp only at hr
    intro H locs ls hS
    have hKn := hX.1.1 _ _ hc
    have hz' : H.size = base + h.1 := hS.1.1
    refine W.newcK hx hb hown (hts _ (am_in hres' rfl)) (hts _ hins) (hts _ hini) rfl hdc (by dsimp only; omega) (by dsimp only; omega) hKn.2.1 hz' fun H1 kC hkC e1 z1 o1 => ?_
    have k1 := k H1 locs ls ⟨am_R.push hS.1 (x := .inr (aux / 10000, am_df (aux / 10000))) ⟨_, hc, (u_born y hts hin hKn hkC e1 (fun k hk => (hfd k hk).1)).to (fun j hj => ?_)⟩ (by rw [z1, hz']) (fun q hq => o1 q (by rw [← hz']; exact hq)), fun q hq => (o1 q (by omega)).trans (hS.2.1 q hq), hS.2.2.1, hS.2.2.2⟩
    · have e2 : h.1 - n0 + 1 = h.1 + 1 - n0 := by omega
      have e3 : h.2.1 - s0 + N = h.2.1 + N - s0 := by omega
      show W p l e R s m args below meth c H1 locs (h.1 - n0 + 1) (h.2.1 - s0 + N) Q _
      rw [e2, e3]
      exact k1
    · show defaultValue (y j) = vp_V ((am_df (aux / 10000)).map (am_v base tS)) j
      have hj' : j < N := hj
      rw [(hfd j hj').2.2]
      unfold am_df vp_V
      rw [hc, hy]
      simp only [List.getD_eq_getElem?_getD, List.getElem?_map, List.getElem?_range hj', Option.map_some, Option.getD_some]
      cases y j <;> rfl
  · cases hs
set_option maxHeartbeats 2000000 in
theorem am_k_newarray (C : am_Ctx p s m args meth c D cA tS base z) {a : ClassFile.ArrayType} {len aux pc : Nat} {L : List (Option Value)} {st : List Value} {h : am_H} {g : am_G} (hf : am_fetch z pc = some (.newarray a, len, aux)) (hs : am_step d (.newarray a) aux pc L st h = some g) (hd : R.frames = d ∧ 64 * d ≤ R.locals) (h0 : n0 ≤ h.1 ∧ s0 ≤ h.2.1) (hr : g.2.2.2.1 - n0 ≤ R.cells ∧ g.2.2.2.2.1 - s0 ≤ R.slots) (k : am_At p l e R s m args below meth c D cA tS base z Q n0 s0 g) : am_At p l e R s m args below meth c D cA tS base z Q n0 s0 (pc, L, st, h) := by
  obtain ⟨hx, hb, hml, hrt, hown, hts, hlk, hnm, hX, hz⟩ := C
  obtain ⟨hdc, hln, hres⟩ := am_chkz hz hf
  have hlen : len = 2 := by
    rcases hln with q | q
    · exact absurd (show (2 : Nat) = 0 from q) (by decide)
    · exact (show (2 : Nat) = len from q).symm
  subst hlen
  have hdc : decode (am_info z).2.1 pc = .ok (.newarray a, 2) := hdc
  have hres' : ((decide (a = .int) && Nat.beq aux 0) || (decide (a = .boolean) && Nat.beq aux 10000)) = true := hres
  simp only [Bool.or_eq_true, Bool.and_eq_true, decide_eq_true_eq] at hres'
  unfold am_step at hs
  dsimp only at hs
  split at hs
  · rename_i n st'
    split at hs
    · rename_i hn
      cases hs
      dsimp only at hr
      intro H locs ls hS
      have hz' : H.size = base + h.1 := hS.1.1
      have e2 : h.1 - n0 + 1 = h.1 + 1 - n0 := by omega
      have e3 : h.2.1 - s0 + n.toNatClampNeg = h.2.1 + n.toNatClampNeg - s0 := by omega
      rcases hres' with ⟨q1, q2⟩ | ⟨q1, q2⟩
      · have q2 := Nat.eq_of_beq_eq_true q2
        subst q1; subst q2
        refine va_newaK (atype := .int) hx hb (hts _ am_g_int) rfl hdc rfl hn.1 rfl (by show n.toNatClampNeg * 4 ≤ 536870912; omega) (by dsimp only; omega) (by dsimp only; omega) hz' fun H1 cA' e1 z1 o1 hAr hNm => ?_
        have hra : s.vm.findClass ("[" ++ FieldType.int.toString) = some (cA 0) := (hX.1.2 0 _ (am_tys_at cA (by decide))).2
        have hcA : cA' = cA 0 := Option.some.inj (hNm.symm.trans hra)
        subst hcA
        have k1 := k H1 locs ls ⟨am_R.push hS.1 (x := .inl (0 / 10000, n.toNatClampNeg, .inl (fun _ => 0))) e1 (by rw [z1, hz']) (fun q hq => o1 q (by rw [← hz']; exact hq)), fun q hq => (o1 q (by omega)).trans (hS.2.1 q hq), hS.2.2.1, hS.2.2.2⟩
        show W p l e R s m args below meth c H1 locs (h.1 - n0 + 1) (h.2.1 - s0 + n.toNatClampNeg) Q _
        rw [e2, e3]
        exact k1
      · have q2 := Nat.eq_of_beq_eq_true q2
        subst q1; subst q2
        refine va_newaK (atype := .boolean) hx hb (hts _ am_g_boo) rfl hdc rfl hn.1 rfl (by show n.toNatClampNeg * 1 ≤ 536870912; omega) (by dsimp only; omega) (by dsimp only; omega) hz' fun H1 cA' e1 z1 o1 hAr hNm => ?_
        have hra : s.vm.findClass ("[" ++ FieldType.boolean.toString) = some (cA 1) := (hX.1.2 1 _ (am_tys_at cA (by decide))).2
        have hcA : cA' = cA 1 := Option.some.inj (hNm.symm.trans hra)
        subst hcA
        have k1 := k H1 locs ls ⟨am_R.push hS.1 (x := .inl (10000 / 10000, n.toNatClampNeg, .inl (fun _ => 0))) e1 (by rw [z1, hz']) (fun q hq => o1 q (by rw [← hz']; exact hq)), fun q hq => (o1 q (by omega)).trans (hS.2.1 q hq), hS.2.2.1, hS.2.2.2⟩
        show W p l e R s m args below meth c H1 locs (h.1 - n0 + 1) (h.2.1 - s0 + n.toNatClampNeg) Q _
        rw [e2, e3]
        exact k1
    · cases hs
  · cases hs
set_option maxHeartbeats 2000000 in
theorem am_k_anewarray (C : am_Ctx p s m args meth c D cA tS base z) {n : Nat} {len aux pc : Nat} {L : List (Option Value)} {st : List Value} {h : am_H} {g : am_G} (hf : am_fetch z pc = some (.anewarray n, len, aux)) (hs : am_step d (.anewarray n) aux pc L st h = some g) (hd : R.frames = d ∧ 64 * d ≤ R.locals) (h0 : n0 ≤ h.1 ∧ s0 ≤ h.2.1) (hr : g.2.2.2.1 - n0 ≤ R.cells ∧ g.2.2.2.2.1 - s0 ≤ R.slots) (k : am_At p l e R s m args below meth c D cA tS base z Q n0 s0 g) : am_At p l e R s m args below meth c D cA tS base z Q n0 s0 (pc, L, st, h) := by
  obtain ⟨hx, hb, hml, hrt, hown, hts, hlk, hnm, hX, hz⟩ := C
  obtain ⟨hdc, hln, hres⟩ := am_chkz hz hf
  have hlen : len = 3 := by
    rcases hln with q | q
    · exact absurd (show (3 : Nat) = 0 from q) (by decide)
    · exact (show (3 : Nat) = len from q).symm
  subst hlen
  have hdc : decode (am_info z).2.1 pc = .ok (.anewarray n, 3) := hdc
  have hres' : (Nat.ble 2 (aux / 10000) && Nat.blt (aux / 10000) 6 && am_w (aux % 10000) (.classLink (am_info z).1.cls n (am_an (aux / 10000)))) = true := hres
  simp only [Bool.and_eq_true, Nat.blt_eq] at hres'
  have h26 : 2 ≤ aux / 10000 := Nat.le_of_ble_eq_true hres'.1.1
  unfold am_step at hs
  dsimp only at hs
  split at hs
  · rename_i n' st'
    split at hs
    · rename_i hn
      cases hs
      dsimp only at hr
      intro H locs ls hS
      have hz' : H.size = base + h.1 := hS.1.1
      have e2 : h.1 - n0 + 1 = h.1 + 1 - n0 := by omega
      have e3 : h.2.1 - s0 + n'.toNatClampNeg = h.2.1 + n'.toNatClampNeg - s0 := by omega
      refine W.anew hx hb hown (hts _ (am_in hres'.2 rfl)) (va_AO.use (hX.2.2.2 _ h26 hres'.1.2)) rfl hdc rfl hn.1 (by omega) (by dsimp only; omega) (by dsimp only; omega) fun cA' kA comp f1 f2 f3 f4 => ?_
      have hra := (hX.1.2 (aux / 10000) _ (am_tys_at cA hres'.1.2)).2
      dsimp only at hra
      rw [(am_aty h26 hres'.1.2).1] at hra
      obtain ⟨kA2, comp2, g1, g2, g3, g4⟩ := hra
      have hcA : cA' = cA (aux / 10000) := Option.some.inj (f1.symm.trans g4)
      subst hcA
      have k1 := k (H.push ({ cls := cA (aux / 10000), slots := Array.replicate n'.toNatClampNeg .null, vm := .none } : Cell)) locs ls ⟨am_R.push hS.1 (x := .inl (aux / 10000, n'.toNatClampNeg, .inr (fun _ => none))) (show (H.push _)[base + h.1]? = some (arrV (cA (aux / 10000)) n'.toNatClampNeg (fun _ => .null)) by rw [← hz', Array.getElem?_push_size, ← arrV_new]) (by rw [Array.size_push]) (fun q hq => by rw [Array.getElem?_push, if_neg (Nat.ne_of_lt hq)]), fun q hq => by rw [Array.getElem?_push, if_neg (by omega)]; exact hS.2.1 q hq, hS.2.2.1, hS.2.2.2⟩
      show W p l e R s m args below meth c _ locs (h.1 - n0 + 1) (h.2.1 - s0 + n'.toNatClampNeg) Q _
      rw [e2, e3]
      rw [hz']
      exact k1
    · cases hs
  · cases hs
set_option maxHeartbeats 2000000 in
theorem am_k_arraylength (C : am_Ctx p s m args meth c D cA tS base z) {len aux pc : Nat} {L : List (Option Value)} {st : List Value} {h : am_H} {g : am_G} (hf : am_fetch z pc = some (.arraylength, len, aux)) (hs : am_step d (.arraylength) aux pc L st h = some g) (hd : R.frames = d ∧ 64 * d ≤ R.locals) (h0 : n0 ≤ h.1 ∧ s0 ≤ h.2.1) (hr : g.2.2.2.1 - n0 ≤ R.cells ∧ g.2.2.2.2.1 - s0 ≤ R.slots) (k : am_At p l e R s m args below meth c D cA tS base z Q n0 s0 g) : am_At p l e R s m args below meth c D cA tS base z Q n0 s0 (pc, L, st, h) := by
  obtain ⟨hx, hb, hml, hrt, hown, hts, hlk, hnm, hX, hz⟩ := C
  obtain ⟨hdc, hln, hres⟩ := am_chkz hz hf
  have hlen : len = 1 := by
    rcases hln with q | q
    · exact absurd (show (1 : Nat) = 0 from q) (by decide)
    · exact (show (1 : Nat) = len from q).symm
  subst hlen
  have hdc : decode (am_info z).2.1 pc = .ok (.arraylength, 1) := hdc
  unfold am_step at hs
  dsimp only at hs
  split at hs
  · rename_i a st'
    split at hs
    · rename_i hlt
      split at hs
      · rename_i t n x heq
        split at hs
        · rename_i ht
          cases hs
          intro H locs ls hS
          cases x with
          | inl f => exact va_alen hx hb hX.1 (hS.1.one hlt heq) 0 t rfl (am_tys_at cA ht) rfl hdc (k H locs ls hS)
          | inr f => exact va_alen hx hb hX.1 (hS.1.one hlt heq) 0 t rfl (am_tys_at cA ht) rfl hdc (k H locs ls hS)
        · cases hs
      · cases hs
    · cases hs
  · rename_i j st'
    split at hs
    · rename_i hj
      cases hs
      intro H locs ls hS
      obtain ⟨cell, t1, t2, t3, t4, t5, t6, t7⟩ := (hX.2.1 _ hj).2
      exact W.alen (n := Int32.ofNat (am_sV j.toNat).length) hx hb (by rw [hS.2.1 _ (Nat.not_le.mp t7)]; exact t1) t2 t5 rfl rfl hdc (k H locs ls hS)
    · cases hs
  · cases hs
set_option maxHeartbeats 2000000 in
theorem am_k_iaload (C : am_Ctx p s m args meth c D cA tS base z) {len aux pc : Nat} {L : List (Option Value)} {st : List Value} {h : am_H} {g : am_G} (hf : am_fetch z pc = some (.iaload, len, aux)) (hs : am_step d (.iaload) aux pc L st h = some g) (hd : R.frames = d ∧ 64 * d ≤ R.locals) (h0 : n0 ≤ h.1 ∧ s0 ≤ h.2.1) (hr : g.2.2.2.1 - n0 ≤ R.cells ∧ g.2.2.2.2.1 - s0 ≤ R.slots) (k : am_At p l e R s m args below meth c D cA tS base z Q n0 s0 g) : am_At p l e R s m args below meth c D cA tS base z Q n0 s0 (pc, L, st, h) := by
  obtain ⟨hx, hb, hml, hrt, hown, hts, hlk, hnm, hX, hz⟩ := C
  obtain ⟨hdc, hln, hres⟩ := am_chkz hz hf
  have hlen : len = 1 := by
    rcases hln with q | q
    · exact absurd (show (1 : Nat) = 0 from q) (by decide)
    · exact (show (1 : Nat) = len from q).symm
  subst hlen
  have hdc : decode (am_info z).2.1 pc = .ok (.iaload, 1) := hdc
  unfold am_step at hs
  dsimp only at hs
  split at hs
  · rename_i i a st'
    split at hs
    · rename_i hlt
      split at hs
      · rename_i n f heq
        split at hs
        · rename_i hi
          cases hs
          intro H locs ls hS
          exact va_iald hx hb hX.1 (hS.1.one hlt heq) 0 0 rfl (am_tys_at cA (by decide)) (fun q => q.elim hi.1 (Nat.not_le.mpr hi.2)) hdc (k H locs ls hS)
        · cases hs
      · cases hs
    · cases hs
  · rename_i i j st'
    split at hs
    · rename_i hj
      cases hs
      intro H locs ls hS
      obtain ⟨cell, t1, t2, t3, t4, t5, t6, t7⟩ := (hX.2.1 _ hj.1).2
      exact W.iald (v := .int ((am_sV j.toNat).getD i.toNatClampNeg 0)) hx hb (by rw [hS.2.1 _ (Nat.not_le.mp t7)]; exact t1) t2 t3 (fun q => q.elim hj.2.1 (Nat.not_le.mpr (Nat.lt_of_lt_of_le hj.2.2 t4))) (t6 _ hj.2.2) rfl rfl hdc (k H locs ls hS)
    · cases hs
  · cases hs
set_option maxHeartbeats 2000000 in
theorem am_k_baload (C : am_Ctx p s m args meth c D cA tS base z) {len aux pc : Nat} {L : List (Option Value)} {st : List Value} {h : am_H} {g : am_G} (hf : am_fetch z pc = some (.baload, len, aux)) (hs : am_step d (.baload) aux pc L st h = some g) (hd : R.frames = d ∧ 64 * d ≤ R.locals) (h0 : n0 ≤ h.1 ∧ s0 ≤ h.2.1) (hr : g.2.2.2.1 - n0 ≤ R.cells ∧ g.2.2.2.2.1 - s0 ≤ R.slots) (k : am_At p l e R s m args below meth c D cA tS base z Q n0 s0 g) : am_At p l e R s m args below meth c D cA tS base z Q n0 s0 (pc, L, st, h) := by
  obtain ⟨hx, hb, hml, hrt, hown, hts, hlk, hnm, hX, hz⟩ := C
  obtain ⟨hdc, hln, hres⟩ := am_chkz hz hf
  have hlen : len = 1 := by
    rcases hln with q | q
    · exact absurd (show (1 : Nat) = 0 from q) (by decide)
    · exact (show (1 : Nat) = len from q).symm
  subst hlen
  have hdc : decode (am_info z).2.1 pc = .ok (.baload, 1) := hdc
  unfold am_step at hs
  dsimp only at hs
  split at hs
  · rename_i i a st'
    split at hs
    · rename_i hlt
      split at hs
      · rename_i n f heq
        split at hs
        · rename_i hi
          cases hs
          intro H locs ls hS
          exact va_zald hx hb hX.1 (hS.1.one hlt heq) 0 1 rfl (am_tys_at cA (by decide)) (fun q => q.elim hi.1 (Nat.not_le.mpr hi.2)) hdc (k H locs ls hS)
        · cases hs
      · cases hs
    · cases hs
  · cases hs
set_option maxHeartbeats 2000000 in
theorem am_k_aaload (C : am_Ctx p s m args meth c D cA tS base z) {len aux pc : Nat} {L : List (Option Value)} {st : List Value} {h : am_H} {g : am_G} (hf : am_fetch z pc = some (.aaload, len, aux)) (hs : am_step d (.aaload) aux pc L st h = some g) (hd : R.frames = d ∧ 64 * d ≤ R.locals) (h0 : n0 ≤ h.1 ∧ s0 ≤ h.2.1) (hr : g.2.2.2.1 - n0 ≤ R.cells ∧ g.2.2.2.2.1 - s0 ≤ R.slots) (k : am_At p l e R s m args below meth c D cA tS base z Q n0 s0 g) : am_At p l e R s m args below meth c D cA tS base z Q n0 s0 (pc, L, st, h) := by
  obtain ⟨hx, hb, hml, hrt, hown, hts, hlk, hnm, hX, hz⟩ := C
  obtain ⟨hdc, hln, hres⟩ := am_chkz hz hf
  have hlen : len = 1 := by
    rcases hln with q | q
    · exact absurd (show (1 : Nat) = 0 from q) (by decide)
    · exact (show (1 : Nat) = len from q).symm
  subst hlen
  have hdc : decode (am_info z).2.1 pc = .ok (.aaload, 1) := hdc
  unfold am_step at hs
  dsimp only at hs
  split at hs
  · rename_i i a st'
    split at hs
    · rename_i hlt
      split at hs
      · rename_i t n f heq
        split at hs
        · rename_i hi
          cases hs
          intro H locs ls hS
          have hty := am_tys_at cA hi.1.2
          rw [(am_aty hi.1.1 hi.1.2).1] at hty
          refine va_aldq hx hb hX.1 (hS.1.one hlt heq) 0 t rfl hty (fun q => q.elim hi.2.1 (Nat.not_le.mpr hi.2.2)) hdc ?_
          have k1 := k H locs ls hS
          have e1 : va_rf ((f i.toNatClampNeg).map (fun k => base + k)) = am_v base tS (va_rf (f i.toNatClampNeg)) := by cases f i.toNatClampNeg <;> rfl
          rw [e1]
          exact k1
        · cases hs
      · cases hs
    · cases hs
  · cases hs
set_option maxHeartbeats 2000000 in
theorem am_k_iastore (C : am_Ctx p s m args meth c D cA tS base z) {len aux pc : Nat} {L : List (Option Value)} {st : List Value} {h : am_H} {g : am_G} (hf : am_fetch z pc = some (.iastore, len, aux)) (hs : am_step d (.iastore) aux pc L st h = some g) (hd : R.frames = d ∧ 64 * d ≤ R.locals) (h0 : n0 ≤ h.1 ∧ s0 ≤ h.2.1) (hr : g.2.2.2.1 - n0 ≤ R.cells ∧ g.2.2.2.2.1 - s0 ≤ R.slots) (k : am_At p l e R s m args below meth c D cA tS base z Q n0 s0 g) : am_At p l e R s m args below meth c D cA tS base z Q n0 s0 (pc, L, st, h) := by
  obtain ⟨hx, hb, hml, hrt, hown, hts, hlk, hnm, hX, hz⟩ := C
  obtain ⟨hdc, hln, hres⟩ := am_chkz hz hf
  have hlen : len = 1 := by
    rcases hln with q | q
    · exact absurd (show (1 : Nat) = 0 from q) (by decide)
    · exact (show (1 : Nat) = len from q).symm
  subst hlen
  have hdc : decode (am_info z).2.1 pc = .ok (.iastore, 1) := hdc
  unfold am_step at hs
  dsimp only at hs
  split at hs
  · rename_i x i a st'
    split at hs
    · rename_i hlt
      split at hs
      · rename_i n f heq
        split at hs
        · rename_i hi
          cases hs
          intro H locs ls hS
          have hat : H[base + a]? = some (vp_cell (cA 0) (n, .inl f)) := by
            have h9 := hS.1.2 a hlt
            have heq' : (pc, L, Value.int x :: Value.int i :: Value.ref a :: st', h).2.2.2.2.2 a = Sum.inl (0, n, Sum.inl f) := heq
            rw [heq'] at h9
            exact h9
          refine W.iast hx hb hat ((hX.1.2 0 _ (am_tys_at cA (by decide))).1 n (fun j => .int (f j))) (fun q => by cases q) (by show ¬ (i < 0 ∨ (arrV _ _ _).slots.size ≤ _); rw [arrV_size]; exact fun q => q.elim hi.1 (Nat.not_le.mpr hi.2)) rfl rfl hdc fun H1 e1 e2 e3 => ?_
          refine k H1 _ ls ⟨hS.1.set (x := .inl (0, n, .inl (va_up f i.toNatClampNeg x))) ?_ e2 e3, fun q hq => (e3 q (Nat.ne_of_lt (Nat.lt_of_lt_of_le hq (Nat.le_add_right base a)))).trans (hS.2.1 q hq), am_lc hS.2.2.1 (Nat.le_add_right base a), hS.2.2.2⟩
          show H1[base + a]? = some (vp_cell (cA 0) (n, .inl (va_up f i.toNatClampNeg x)))
          rw [e1, vp_cell_i, vp_cell_i, arrV_store]
          congr 2
          funext q
          by_cases hq : q = i.toNatClampNeg
          · subst hq
            simp [updV, va_up]
            try rfl
          · simp [updV, va_up, hq]
        · cases hs
      · cases hs
    · cases hs
  · cases hs
set_option maxHeartbeats 2000000 in
theorem am_k_bastore (C : am_Ctx p s m args meth c D cA tS base z) {len aux pc : Nat} {L : List (Option Value)} {st : List Value} {h : am_H} {g : am_G} (hf : am_fetch z pc = some (.bastore, len, aux)) (hs : am_step d (.bastore) aux pc L st h = some g) (hd : R.frames = d ∧ 64 * d ≤ R.locals) (h0 : n0 ≤ h.1 ∧ s0 ≤ h.2.1) (hr : g.2.2.2.1 - n0 ≤ R.cells ∧ g.2.2.2.2.1 - s0 ≤ R.slots) (k : am_At p l e R s m args below meth c D cA tS base z Q n0 s0 g) : am_At p l e R s m args below meth c D cA tS base z Q n0 s0 (pc, L, st, h) := by
  obtain ⟨hx, hb, hml, hrt, hown, hts, hlk, hnm, hX, hz⟩ := C
  obtain ⟨hdc, hln, hres⟩ := am_chkz hz hf
  have hlen : len = 1 := by
    rcases hln with q | q
    · exact absurd (show (1 : Nat) = 0 from q) (by decide)
    · exact (show (1 : Nat) = len from q).symm
  subst hlen
  have hdc : decode (am_info z).2.1 pc = .ok (.bastore, 1) := hdc
  unfold am_step at hs
  dsimp only at hs
  split at hs
  · rename_i x i a st'
    split at hs
    · rename_i hlt
      split at hs
      · rename_i n f heq
        split at hs
        · rename_i hi
          cases hs
          intro H locs ls hS
          have hat : H[base + a]? = some (vp_cell (cA 1) (n, .inl f)) := by
            have h9 := hS.1.2 a hlt
            have heq' : (pc, L, Value.int x :: Value.int i :: Value.ref a :: st', h).2.2.2.2.2 a = Sum.inl (1, n, Sum.inl f) := heq
            rw [heq'] at h9
            exact h9
          refine W.zast hx hb hat ((hX.1.2 1 _ (am_tys_at cA (by decide))).1 n (fun j => .int (f j))) (fun q => by cases q) (by show ¬ (i < 0 ∨ (arrV _ _ _).slots.size ≤ _); rw [arrV_size]; exact fun q => q.elim hi.1 (Nat.not_le.mpr hi.2)) rfl rfl hdc fun H1 e1 e2 e3 => ?_
          refine k H1 _ ls ⟨hS.1.set (x := .inl (1, n, .inl (va_up f i.toNatClampNeg (x &&& 1)))) ?_ e2 e3, fun q hq => (e3 q (Nat.ne_of_lt (Nat.lt_of_lt_of_le hq (Nat.le_add_right base a)))).trans (hS.2.1 q hq), am_lc hS.2.2.1 (Nat.le_add_right base a), hS.2.2.2⟩
          show H1[base + a]? = some (vp_cell (cA 1) (n, .inl (va_up f i.toNatClampNeg (x &&& 1))))
          rw [e1, vp_cell_i, vp_cell_i, arrV_store]
          congr 2
          funext q
          by_cases hq : q = i.toNatClampNeg
          · subst hq
            simp [updV, va_up]
            try rfl
          · simp [updV, va_up, hq]
        · cases hs
      · cases hs
    · cases hs
  · cases hs
set_option maxHeartbeats 2000000 in
theorem am_k_aastore (C : am_Ctx p s m args meth c D cA tS base z) {len aux pc : Nat} {L : List (Option Value)} {st : List Value} {h : am_H} {g : am_G} (hf : am_fetch z pc = some (.aastore, len, aux)) (hs : am_step d (.aastore) aux pc L st h = some g) (hd : R.frames = d ∧ 64 * d ≤ R.locals) (h0 : n0 ≤ h.1 ∧ s0 ≤ h.2.1) (hr : g.2.2.2.1 - n0 ≤ R.cells ∧ g.2.2.2.2.1 - s0 ≤ R.slots) (k : am_At p l e R s m args below meth c D cA tS base z Q n0 s0 g) : am_At p l e R s m args below meth c D cA tS base z Q n0 s0 (pc, L, st, h) := by
  obtain ⟨hx, hb, hml, hrt, hown, hts, hlk, hnm, hX, hz⟩ := C
  obtain ⟨hdc, hln, hres⟩ := am_chkz hz hf
  have hlen : len = 1 := by
    rcases hln with q | q
    · exact absurd (show (1 : Nat) = 0 from q) (by decide)
    · exact (show (1 : Nat) = len from q).symm
  subst hlen
  have hdc : decode (am_info z).2.1 pc = .ok (.aastore, 1) := hdc
  unfold am_step at hs
  dsimp only at hs
  split at hs
  · rename_i v i a st'
    split at hs
    · rename_i hlt
      split at hs
      · rename_i t n f ci vs heqa heqv
        split at hs
        · rename_i hi
          obtain ⟨ht, hci, hi0, hin⟩ := hi
          subst hci
          cases hs
          intro H locs ls hS
          have hat : H[base + a]? = some (vp_cell (cA t) (n, .inr (.inr (.inr (.inr (fun j => (f j).map (fun k => base + k))))))) := by
            have h9 := hS.1.2 a hlt.1
            have heq' : (pc, L, Value.ref v :: Value.int i :: Value.ref a :: st', h).2.2.2.2.2 a = Sum.inl (t, n, Sum.inr f) := heqa
            rw [heq'] at h9
            exact h9
          have hav := hS.1.2 v hlt.2
          have heq' : (pc, L, Value.ref v :: Value.int i :: Value.ref a :: st', h).2.2.2.2.2 v = Sum.inr (am_ac t, vs) := heqv
          rw [heq'] at hav
          obtain ⟨r', hr', cellV, g1, g2, g3, -⟩ := hav
          obtain ⟨hty, T, N, hcl⟩ := am_aty ht.1 ht.2
          have hcls := (hX.1.1 _ _ hcl).2
          have hra := (hX.1.2 t _ (am_tys_at cA ht.2)).2
          dsimp only at hra
          rw [hty] at hra
          obtain ⟨kA, comp, k1, k2, k3, -⟩ := hra
          have hcomp : comp = D.1 (am_ac t) := Option.some.inj (k3.symm.trans hcls.1)
          subst hcomp
          obtain ⟨kC, hkC, -⟩ := hcls.2
          refine W.aast hx hb hat (fun q h => by cases h) (fun h => by cases h) k1 k2 rfl hkC ⟨hi0, by show _ < (arrV _ _ _).slots.size; rw [arrV_size]; exact hin⟩ g1 (fun q h => by rw [g3] at h; cases h) (by rw [g2]; exact hkC) (by rw [g2]; exact va_assign hcls) rfl rfl hdc fun H1 e1 e2 e3 => ?_
          refine k H1 _ ls ⟨hS.1.set (x := .inl (t, n, .inr (va_up f i.toNatClampNeg (some v)))) ?_ e2 e3, fun q hq => (e3 q (Nat.ne_of_lt (Nat.lt_of_lt_of_le hq (Nat.le_add_right base a)))).trans (hS.2.1 q hq), am_lc hS.2.2.1 (Nat.le_add_right base a), hS.2.2.2⟩
          show H1[base + a]? = some (vp_cell (cA t) (n, .inr (.inr (.inr (.inr (fun j => (va_up f i.toNatClampNeg (some v) j).map (fun k => base + k)))))))
          rw [e1, vp_cell_q, vp_cell_q, arrV_store]
          congr 2
          funext q
          by_cases hq : q = i.toNatClampNeg
          · subst hq
            simp [updV, va_up, va_rf]
          · simp [updV, va_up, hq]
        · cases hs
      · cases hs
    · cases hs
  · cases hs
set_option maxHeartbeats 2000000 in
theorem am_k_objinit (C : am_Ctx p s m args meth c D cA tS base z) {n : Nat} {len aux pc : Nat} {L : List (Option Value)} {st : List Value} {h : am_H} {g : am_G} (hf : am_fetch z pc = some (.invokespecial n, len, aux)) (hs : am_step d (.invokespecial n) aux pc L st h = some g) (hd : R.frames = d ∧ 64 * d ≤ R.locals) (h0 : n0 ≤ h.1 ∧ s0 ≤ h.2.1) (hr : g.2.2.2.1 - n0 ≤ R.cells ∧ g.2.2.2.2.1 - s0 ≤ R.slots) (k : am_At p l e R s m args below meth c D cA tS base z Q n0 s0 g) : am_At p l e R s m args below meth c D cA tS base z Q n0 s0 (pc, L, st, h) := by
  obtain ⟨hx, hb, hml, hrt, hown, hts, hlk, hnm, hX, hz⟩ := C
  obtain ⟨hdc, hln, hres⟩ := am_chkz hz hf
  have hlen : len = 3 := by
    rcases hln with q | q
    · exact absurd (show (3 : Nat) = 0 from q) (by decide)
    · exact (show (3 : Nat) = len from q).symm
  subst hlen
  have hdc : decode (am_info z).2.1 pc = .ok (.invokespecial n, 3) := hdc
  unfold am_step at hs
  dsimp only at hs
  split at hs
  · rename_i hq
    split at hs
    · rename_i a st'
      split at hs
      · rename_i hsum
        cases hs
        have hres' : ((Nat.beq (aux / 10000) 1000 && am_w (aux % 10000) (.methodLink (am_info z).1.cls n Lib.objectInit)) || (Nat.blt (aux / 10000) am_count && am_mlk (am_info z).1.cls n aux)) = true := hres
        have hno : Nat.blt (aux / 10000) am_count = false := by rw [hq.1]; rfl
        rw [hno, Bool.false_and, Bool.or_false, Bool.and_eq_true] at hres'
        intro H locs ls hS
        refine W.objInit hx hb hown (hts _ (am_in hres'.2 rfl)) (hts _ am_g_oi) (hts _ am_g_oc) rfl (by rw [hml]; exact hS.2.2.2.2.1) rfl hdc (by rw [hd.1]; exact hq.2) ?_ (k H locs ls hS)
        have hro : 2 * (F0 m pc ls []).monitorRoom + ((st'.map (am_v base tS)).map fun v => v.category).sum ≤ 8 := lv_room (by rw [am_sum]; exact hsum)
        have hro2 : 2 * (F0 m pc ls ((Value.ref a :: st').map (am_v base tS))).monitorRoom + ((st'.map (am_v base tS)).map fun v => v.category).sum ≤ 8 := hro
        have := hd.2
        have := hq.2
        show 2 * (F0 m pc ls ((Value.ref a :: st').map (am_v base tS))).monitorRoom + ((st'.map (am_v base tS)).map fun v => v.category).sum + 12 ≤ R.locals
        omega
      · cases hs
    · cases hs
  · cases hs
set_option maxHeartbeats 2000000 in
theorem am_k_arraycopy (C : am_Ctx p s m args meth c D cA tS base z) {n : Nat} {len aux pc : Nat} {L : List (Option Value)} {st : List Value} {h : am_H} {g : am_G} (hf : am_fetch z pc = some (.invokestatic n, len, aux)) (hs : am_step d (.invokestatic n) aux pc L st h = some g) (hd : R.frames = d ∧ 64 * d ≤ R.locals) (h0 : n0 ≤ h.1 ∧ s0 ≤ h.2.1) (hr : g.2.2.2.1 - n0 ≤ R.cells ∧ g.2.2.2.2.1 - s0 ≤ R.slots) (k : am_At p l e R s m args below meth c D cA tS base z Q n0 s0 g) : am_At p l e R s m args below meth c D cA tS base z Q n0 s0 (pc, L, st, h) := by
  obtain ⟨hx, hb, hml, hrt, hown, hts, hlk, hnm, hX, hz⟩ := C
  obtain ⟨hdc, hln, hres⟩ := am_chkz hz hf
  have hlen : len = 3 := by
    rcases hln with q | q
    · exact absurd (show (3 : Nat) = 0 from q) (by decide)
    · exact (show (3 : Nat) = len from q).symm
  subst hlen
  have hdc : decode (am_info z).2.1 pc = .ok (.invokestatic n, 3) := hdc
  unfold am_step at hs
  dsimp only at hs
  split at hs
  · rename_i hq
    split at hs
    · rename_i n dp a sp a0 st'
      split at hs
      · rename_i hlt
        split at hs
        · rename_i m0 f m1 g' heq0 heq1
          split at hs
          · rename_i hcd
            obtain ⟨h1, h2, h3, h4, h5⟩ := hcd
            cases hs
            have hres' : ((Nat.beq (aux / 10000) 1001 && am_w (aux % 10000) (.methodLink (am_info z).1.cls _ arraycopyName)) || (Nat.blt (aux / 10000) am_count && am_mlk (am_info z).1.cls _ aux)) = true := hres
            have hno : Nat.blt (aux / 10000) am_count = false := by rw [hq.1]; rfl
            rw [hno, Bool.false_and, Bool.or_false, Bool.and_eq_true] at hres'
            intro H locs ls hS
            have hc0 : H[base + a0]? = some (vp_cell (cA 0) (m0, .inl f)) := by
              have h9 := hS.1.2 a0 hlt.2.1
              have heq' : (pc, L, Value.int n :: Value.int dp :: Value.ref a :: Value.int sp :: Value.ref a0 :: st', h).2.2.2.2.2 a0 = Sum.inl (0, m0, Sum.inl f) := heq0
              rw [heq'] at h9
              exact h9
            have hc1 : H[base + a]? = some (vp_cell (cA 0) (m1, .inl g')) := by
              have h9 := hS.1.2 a hlt.1
              have heq' : (pc, L, Value.int n :: Value.int dp :: Value.ref a :: Value.int sp :: Value.ref a0 :: st', h).2.2.2.2.2 a = Sum.inl (0, m1, Sum.inl g') := heq1
              rw [heq'] at h9
              exact h9
            have nn : ∀ z : Int32, ¬ z < 0 → z.toInt = (z.toNatClampNeg : Int) := by
              intro z hz
              have hz0 : (0 : Int) ≤ z.toInt := by
                have := Int32.not_lt.mp hz
                simpa using Int32.le_iff_toInt_le.mp this
              show z.toInt = ((z.toInt.toNat : Nat) : Int)
              omega
            intro T hT X
            obtain ⟨-, k0, hk0, cm0, hkk0⟩ := (hX.1.2 0 _ (am_tys_at cA (by decide))).1 m0 (fun j => .int (f j))
            obtain ⟨-, k1, hk1, cm1, hkk1⟩ := (hX.1.2 0 _ (am_tys_at cA (by decide))).1 m1 (fun j => .int (g' j))
            have hro : ((st'.map (am_v base tS)).map fun v => v.category).sum ≤ 8 := by rw [am_sum]; exact hlt.2.2
            have hnw : nativeFrameWords "java/lang/System" "arraycopy" 5 + 11 ≤ 50 := by decide +kernel
            have hd2 := hd.2
            have hq2 := hq.2
            obtain ⟨vm', X', step⟩ := X.arraycopy hx hown (hts _ (am_in hres'.2 rfl)) (hts _ am_g_nn) (hts _ am_g_ns) (hts _ am_g_ni) (src := base + a0) (dst := base + a) (cs := vp_cell (cA 0) (m0, .inl f)) (cd := vp_cell (cA 0) (m1, .inl g')) (srcPos := sp) (destPos := dp) (n := n) (by rw [hT]; exact hc0) (by rw [hT]; exact hc1)
              (fun _ h => by cases h) (fun _ h => by cases h) (fun h => by cases h) (fun h => by cases h) hk0 hk1 hkk0 hkk1 (by simp [refKind, am_ty]) h1 h2 h3
              (by rw [nn sp h1, nn n h3]; show ¬ _ > ((arrV (cA 0) m0 (fun j => .int (f j))).slots.size : Int); rw [arrV_size]; omega)
              (by rw [nn dp h2, nn n h3]; show ¬ _ > ((arrV (cA 0) m1 (fun j => .int (g' j))).slots.size : Int); rw [arrV_size]; omega)
              (fun vm₁ _ i hi => by
                have e : (vp_cell (cA 0) (m0, .inl f)).slots.getD (sp.toNatClampNeg + i) .null = .int (f (sp.toNatClampNeg + i)) := by
                  show (arrV (cA 0) m0 (fun j => .int (f j))).slots.getD _ _ = _
                  rw [Array.getD_eq_getD_getElem?, arrV_read _ _ (by omega)]
                  rfl
                refine ⟨?_, ?_⟩
                · rw [e]
                  rfl
                · rw [e]
                  exact trivial)
              (g := F0 m pc ls (.int n :: .int dp :: .ref (base + a) :: .int sp :: .ref (base + a0) :: st'.map (am_v base tS))) rfl (by rw [hml]; exact hS.2.2.2.2.1) (rest := st'.map (am_v base tS)) rfl (by rw [hb]; exact hdc) (by rw [hd.1]; exact hq.2) (by show 2 * 0 + _ + _ ≤ _; omega)
            have e1 : copied (vp_cell (cA 0) (m0, .inl f)) (vp_cell (cA 0) (m1, .inl g')) sp dp n = vp_cell (cA 0) (m1, .inl (va_cpy f g' sp.toNatClampNeg dp.toNatClampNeg n.toNatClampNeg)) := va_copied (fun z => .int z) (cA 0) (cA 0) f g' h4
            rw [e1] at X' step
            have hl : base + a < H.size := (Array.getElem?_eq_some_iff.mp hc1).1
            have hheap : ((T.setVm vm').setCell (base + a) (vp_cell (cA 0) (m1, .inl (va_cpy f g' sp.toNatClampNeg dp.toNatClampNeg n.toNatClampNeg)))).heap = H.setIfInBounds (base + a) (vp_cell (cA 0) (m1, .inl (va_cpy f g' sp.toNatClampNeg dp.toNatClampNeg n.toNatClampNeg))) := by rw [← hT]; rfl
            have oq : ∀ q : Nat, q ≠ base + a → (H.setIfInBounds (base + a) (vp_cell (cA 0) (m1, .inl (va_cpy f g' sp.toNatClampNeg dp.toNatClampNeg n.toNatClampNeg))))[q]? = H[q]? := fun q hq => by simp [Array.getElem?_setIfInBounds, Ne.symm hq]
            obtain ⟨t, a1, b1⟩ := k (H.setIfInBounds (base + a) (vp_cell (cA 0) (m1, .inl (va_cpy f g' sp.toNatClampNeg dp.toNatClampNeg n.toNatClampNeg)))) _ ls ⟨hS.1.set (x := .inl (0, m1, .inl (va_cpy f g' sp.toNatClampNeg dp.toNatClampNeg n.toNatClampNeg))) (show (H.setIfInBounds (base + a) _)[base + a]? = some _ by simp [Array.getElem?_setIfInBounds, hl]) (by simp) oq, fun q hq => (oq q (Nat.ne_of_lt (Nat.lt_of_lt_of_le hq (Nat.le_add_right base a)))).trans (hS.2.1 q hq), (fun x hx => by
              rcases List.mem_append.mp hx with h | h
              · exact hS.2.2.1 x h
              · obtain ⟨y, -, hy⟩ := List.mem_map.mp h
                rw [← hy]
                exact Nat.le_add_right base a), hS.2.2.2⟩ _ hheap X'
            exact ⟨t, step t a1, b1⟩
          · cases hs
        · cases hs
      · cases hs
    · cases hs
  · cases hs
end AMH
end
section
/-! the small machine's runs are the machine's -/
theorem am_step_mono {d : Nat} {i : ClassFile.Instr} {aux pc : Nat} {L : List (Option Value)} {st : List Value} {h : am_H} {g : am_G} (hs : am_step d i aux pc L st h = some g) : h.1 ≤ g.2.2.2.1 ∧ h.2.1 ≤ g.2.2.2.2.1 := by
  unfold am_step at hs
  split at hs <;> (try unfold am_ld at hs) <;> (try unfold am_ldl at hs) <;> (try unfold am_lda at hs) <;> (try unfold am_sti at hs) <;> (try unfold am_stl at hs) <;> (try unfold am_sta at hs) <;> (repeat' split at hs) <;>
    first
    | (cases hs; done)
    | (cases hs; exact ⟨Nat.le_refl _, Nat.le_refl _⟩)
    | (cases hs; exact ⟨Nat.le_succ _, Nat.le_add_right _ _⟩)
    | (revert hs; unfold cond; split <;> intro hs <;> first | (cases hs; done) | (cases hs; exact ⟨Nat.le_refl _, Nat.le_refl _⟩))
section AMD
variable {p : Program} {l : Launch} {e : Env} {R : Room} {s : State} {m : MethodId} {args : Array Value} {below : List Frame} {meth : Method} {c : Code} {D : va_G} {cA : Nat → ClassId} {tS : Nat → Nat} {base z d n0 s0 : Nat} {Q : State → Prop}
theorem am_step_ok (C : am_Ctx p s m args meth c D cA tS base z) {i : ClassFile.Instr} {len aux pc : Nat} {L : List (Option Value)} {st : List Value} {h : am_H} {g : am_G} (hf : am_fetch z pc = some (i, len, aux)) (hs : am_step d i aux pc L st h = some g) (hd : R.frames = d ∧ 64 * d ≤ R.locals) (h0 : n0 ≤ h.1 ∧ s0 ≤ h.2.1) (hr : g.2.2.2.1 - n0 ≤ R.cells ∧ g.2.2.2.2.1 - s0 ≤ R.slots) (k : am_At p l e R s m args below meth c D cA tS base z Q n0 s0 g) : am_At p l e R s m args below meth c D cA tS base z Q n0 s0 (pc, L, st, h) := by
  cases i
  case aconst_null => exact am_k_aconst_null C hf hs hd h0 hr k
  case iconst => exact am_k_iconst C hf hs hd h0 hr k
  case bipush => exact am_k_bipush C hf hs hd h0 hr k
  case sipush => exact am_k_sipush C hf hs hd h0 hr k
  case lconst => exact am_k_lconst C hf hs hd h0 hr k
  case ldc2_w => exact am_k_ldc2_w C hf hs hd h0 hr k
  case iload => exact am_k_iload C hf hs hd h0 hr k
  case iload_n => exact am_k_iload_n C hf hs hd h0 hr k
  case lload => exact am_k_lload C hf hs hd h0 hr k
  case lload_n => exact am_k_lload_n C hf hs hd h0 hr k
  case aload => exact am_k_aload C hf hs hd h0 hr k
  case aload_n => exact am_k_aload_n C hf hs hd h0 hr k
  case istore => exact am_k_istore C hf hs hd h0 hr k
  case istore_n => exact am_k_istore_n C hf hs hd h0 hr k
  case lstore => exact am_k_lstore C hf hs hd h0 hr k
  case lstore_n => exact am_k_lstore_n C hf hs hd h0 hr k
  case astore => exact am_k_astore C hf hs hd h0 hr k
  case astore_n => exact am_k_astore_n C hf hs hd h0 hr k
  case iinc => exact am_k_iinc C hf hs hd h0 hr k
  case dup => exact am_k_dup C hf hs hd h0 hr k
  case dup2 => exact am_k_dup2 C hf hs hd h0 hr k
  case pop => exact am_k_pop C hf hs hd h0 hr k
  case iadd => exact am_k_iadd C hf hs hd h0 hr k
  case isub => exact am_k_isub C hf hs hd h0 hr k
  case imul => exact am_k_imul C hf hs hd h0 hr k
  case iand => exact am_k_iand C hf hs hd h0 hr k
  case ior => exact am_k_ior C hf hs hd h0 hr k
  case ixor => exact am_k_ixor C hf hs hd h0 hr k
  case ishl => exact am_k_ishl C hf hs hd h0 hr k
  case ishr => exact am_k_ishr C hf hs hd h0 hr k
  case idiv => exact am_k_idiv C hf hs hd h0 hr k
  case irem => exact am_k_irem C hf hs hd h0 hr k
  case ineg => exact am_k_ineg C hf hs hd h0 hr k
  case ladd => exact am_k_ladd C hf hs hd h0 hr k
  case lmul => exact am_k_lmul C hf hs hd h0 hr k
  case i2l => exact am_k_i2l C hf hs hd h0 hr k
  case lcmp => exact am_k_lcmp C hf hs hd h0 hr k
  case ifCond => exact am_k_ifCond C hf hs hd h0 hr k
  case if_icmp => exact am_k_if_icmp C hf hs hd h0 hr k
  case goto => exact am_k_goto C hf hs hd h0 hr k
  case ifnull => exact am_k_ifnull C hf hs hd h0 hr k
  case ifnonnull => exact am_k_ifnonnull C hf hs hd h0 hr k
  case tableswitch => exact am_k_tableswitch C hf hs hd h0 hr k
  case lookupswitch => exact am_k_lookupswitch C hf hs hd h0 hr k
  case getfield => exact am_k_getfield C hf hs hd h0 hr k
  case putfield => exact am_k_putfield C hf hs hd h0 hr k
  case getstatic => exact am_k_getstatic C hf hs hd h0 hr k
  case new => exact am_k_new C hf hs hd h0 hr k
  case newarray => exact am_k_newarray C hf hs hd h0 hr k
  case anewarray => exact am_k_anewarray C hf hs hd h0 hr k
  case arraylength => exact am_k_arraylength C hf hs hd h0 hr k
  case iaload => exact am_k_iaload C hf hs hd h0 hr k
  case baload => exact am_k_baload C hf hs hd h0 hr k
  case aaload => exact am_k_aaload C hf hs hd h0 hr k
  case iastore => exact am_k_iastore C hf hs hd h0 hr k
  case bastore => exact am_k_bastore C hf hs hd h0 hr k
  case aastore => exact am_k_aastore C hf hs hd h0 hr k
  case invokespecial => exact am_k_objinit C hf hs hd h0 hr k
  case invokestatic => exact am_k_arraycopy C hf hs hd h0 hr k
  all_goals (have hs2 : (none : Option am_G) = some g := hs; cases hs2)
end AMD
def am_Q (D : va_G) (cA : Nat → ClassId) (tS : Nat → Nat) (base : Nat) (h' : am_H) (r : Option Value) : Array Value → State → Outcome → State → Prop := fun _ st o t => o = .returned (r.map (am_v base tS)) ∧ am_R D cA tS base h' t.heap ∧ ∀ q : Nat, q < base → t.heap[q]? = st.heap[q]?
def am_Pc (D : va_G) (cA : Nat → ClassId) (tS : Nat → Nat) (base : Nat) (vs : List Value) (h : am_H) : Array Value → State → Prop := fun v U => v = (vs.map (am_v base tS)).toArray ∧ am_X D cA tS base U ∧ am_R D cA tS base h U.heap
def am_ws (z : Nat) : List Cond := .code (am_info z).1 (am_info z).2.1 (am_meth z).2.2.1 (am_info z).2.2.1 :: am_good
def am_rm (d mc ms : Nat) : Room := { frames := d, cells := mc, slots := ms, locals := 64 * d }
theorem am_blind {D : va_G} {cA : Nat → ClassId} {tS : Nat → Nat} {base : Nat} {vs : List Value} {h : am_H} : FrameBlind (am_Pc D cA tS base vs h) := fun _ _ _ _ q => ⟨q.1, q.2.1.same rfl rfl, q.2.2⟩
theorem am_codeg {z : Nat} (h : z < am_count) : Cond.code (am_info z).1 (am_info z).2.1 (am_meth z).2.2.1 (am_info z).2.2.1 ∈ am_good := List.mem_filter.mpr ⟨List.mem_of_getElem? (am_cwz z h), rfl⟩
theorem am_goodIn {z : Nat} (h : z < am_count) : GoodIn am_good (am_ws z) := by
  intro w hw
  have hw' : w ∈ am_good := by
    rcases List.mem_cons.mp hw with q | q
    · rw [q]; exact am_codeg h
    · exact q
  exact ⟨hw', good_of_word (List.mem_filter.mp hw').2⟩
/-- what the check says of a method -/
theorem am_mfacts {z : Nat} (h : z < am_count) : Cond.initialized (am_info z).1.cls ∈ am_good ∧ (parseMethodDescriptor (am_info z).1.desc).map (fun d => d.parameters.length) = some ((am_meth z).2.2.2.1 - (if (am_meth z).2.2.2.2.2 = 0 then 0 else 1)) ∧ plainFor (am_info z).1 = true ∧ ((am_info z).1.cls ≠ "java/lang/invoke/MethodHandle" ∧ (am_info z).1.cls ≠ "java/lang/invoke/VarHandle") ∧ am_rk (am_meth z).2.2.2.2.1 (am_info z).2.2.1 = true ∧ (am_meth z).2.2.1 + 19 ≤ 64 ∧ (am_meth z).2.2.2.1 ≤ (am_meth z).2.2.1 ∧
    ((am_meth z).2.2.2.2.2 = 0 → Cond.static (am_info z).1 ∈ am_good) ∧ (0 < (am_meth z).2.2.2.2.2 → 0 < (am_meth z).2.2.2.1 ∧ Cond.instanceMethod (am_info z).1 ∈ am_good) ∧ (100 < (am_meth z).2.2.2.2.2 → (am_info z).1.name = "<init>" ∧ (am_info z).2.2.1 = none) ∧
    (0 < (am_meth z).2.2.2.2.2 → (am_meth z).2.2.2.2.2 ≤ 100 → (∃ T N, am_cl[(am_meth z).2.2.2.2.2 - 1]? = some ((am_info z).1.cls, T, N)) ∧ Cond.selects (am_info z).1.cls (am_info z).1 (am_info z).1 ∈ am_good) := by
  have h1 := am_mokz h
  unfold am_mok at h1
  simp only [Bool.and_eq_true, decide_eq_true_eq] at h1
  obtain ⟨⟨⟨⟨⟨⟨⟨⟨a1, a2⟩, a3⟩, a4⟩, a5⟩, a6⟩, a7⟩, a8⟩, a9⟩ := h1
  refine ⟨am_in a1 rfl, a2, a3, ⟨a4, a5⟩, a6, Nat.le_of_ble_eq_true a7, Nat.le_of_ble_eq_true a8, fun h0 => ?_, fun h0 => ?_, fun h0 => ?_, fun h0 h2 => ?_⟩
  · rw [h0] at a9
    exact am_in (show am_w _ _ = true from a9) rfl
  · have hb : Nat.beq (am_meth z).2.2.2.2.2 0 = false := by
      cases hq : Nat.beq (am_meth z).2.2.2.2.2 0 with
      | false => rfl
      | true => have := Nat.eq_of_beq_eq_true hq; omega
    rw [hb] at a9
    simp only [cond_false, Bool.and_eq_true, Nat.blt_eq] at a9
    exact ⟨a9.1.1, am_in a9.1.2 rfl⟩
  · have hb : Nat.beq (am_meth z).2.2.2.2.2 0 = false := by
      cases hq : Nat.beq (am_meth z).2.2.2.2.2 0 with
      | false => rfl
      | true => have := Nat.eq_of_beq_eq_true hq; omega
    have hb2 : Nat.blt 100 (am_meth z).2.2.2.2.2 = true := by rw [Nat.blt_eq]; exact h0
    rw [hb] at a9
    simp only [cond_false, hb2, cond_true, Bool.and_eq_true, beq_iff_eq] at a9
    refine ⟨a9.2.1, ?_⟩
    have hk := a9.2.2
    cases hr : (am_info z).2.2.1 with
    | none => rfl
    | some t => rw [hr] at hk; cases hk
  · have hb : Nat.beq (am_meth z).2.2.2.2.2 0 = false := by
      cases hq : Nat.beq (am_meth z).2.2.2.2.2 0 with
      | false => rfl
      | true => have := Nat.eq_of_beq_eq_true hq; omega
    have hb2 : Nat.blt 100 (am_meth z).2.2.2.2.2 = false := by
      cases hq : Nat.blt 100 (am_meth z).2.2.2.2.2 with
      | false => rfl
      | true => rw [Nat.blt_eq] at hq; omega
    rw [hb] at a9
    simp only [cond_false, hb2, Bool.and_eq_true] at a9
    refine ⟨?_, am_in a9.2.2 rfl⟩
    have hk := a9.2.1
    unfold am_rcc at hk
    cases hc : am_cl[(am_meth z).2.2.2.2.2 - 1]? with
    | none => rw [hc] at hk; cases hk
    | some q =>
      obtain ⟨C, T, N⟩ := q
      rw [hc] at hk
      simp only [Bool.and_eq_true, beq_iff_eq] at hk
      exact ⟨T, N, by rw [hk.1]⟩
theorem am_ofW {l : Launch} {y : MethodName} {ws ws' : List Cond} {rm : Room} {Pc : Array Value → State → Prop} {Qc : Array Value → State → Outcome → State → Prop} {mc ms : Nat} {free : Addr → Prop} {cc : ByteArray} {maxL : Nat} {ret : Option FieldType}
    (hy : plainFor y = true) (hw : ws = Cond.code y cc maxL ret :: ws')
    (body : ∀ p e s m args below meth c s₁, BodyLoose p l y (headSpec ws rm) cc maxL ret e s m args below meth c s₁ → c.maxLocals = maxL → Pc args s →
      W p l e (headSpec ws rm).room s m args below meth c s.heap [] 0 0 (MQ below Qc args s mc ms free) (entryFrame m args maxL)) : Met l y ws rm Pc Qc mc ms free := by
  refine MetFree.of_bodySF (code := cc) (maxLocals := maxL) (ret := ret) hy ?_ ?_
  · intro args s m h hn
    obtain ⟨meth, c, h1, h2, h3, h4, h5, h6, -, -⟩ := Cond.code_spec hn (atoms_spec (ws := ws) h _ (by rw [hw]; exact List.mem_cons_self))
    exact ⟨meth, c, h1, h2, h3, h4, h5, h6⟩
  · intro p e s m args below meth c s₁ B hml hP _
    have hh0 : s₁.heap = s.heap := by rw [B.state]; rfl
    obtain ⟨t, a1, o, b1, b2, b3⟩ := body p e s m args below meth c s₁ B hml hP s₁ hh0 (Stand.of_body B)
    exact ⟨t, o, a1, b1, b2, ⟨b3.1, b3.2⟩⟩
theorem am_args_spec : ∀ (n : Nat) (acc st as rest : List Value), am_args n acc st = some (as, rest) → ∃ ts, as = ts.reverse ++ acc ∧ st = ts ++ rest ∧ ts.length = n
  | 0, acc, st, as, rest, h => by
    cases h
    exact ⟨[], rfl, rfl, rfl⟩
  | n + 1, acc, [], as, rest, h => by cases h
  | n + 1, acc, v :: st, as, rest, h => by
    obtain ⟨ts, h1, h2, h3⟩ := am_args_spec n (v :: acc) st as rest h
    exact ⟨v :: ts, by rw [h1]; simp, by rw [h2]; rfl, by rw [List.length_cons, h3]⟩
theorem am_lvargs {base : Nat} {tS : Nat → Nat} : ∀ (as : List Value) (j : Nat), as.all am_c1 = true → ∀ (i : Nat) (v : Value), as[i]? = some v → (j + i, am_v base tS v) ∈ lv_args j (as.map (am_v base tS))
  | [], j, h, i, v, hv => by simp at hv
  | u :: as, j, h, i, v, hv => by
    simp only [List.all_cons, Bool.and_eq_true] at h
    have hcat : ¬ (am_v base tS u).category = 2 := by
      rw [am_cat]
      have h1 := h.1
      cases u <;> first | (simp [Value.category]; done) | (cases h1)
    show (j + i, am_v base tS v) ∈ (j, am_v base tS u) :: lv_args (if (am_v base tS u).category = 2 then j + 2 else j + 1) (as.map (am_v base tS))
    rw [if_neg hcat]
    cases i with
    | zero =>
      have : u = v := by simpa using hv
      subst this
      exact List.mem_cons_self
    | succ i =>
      have := am_lvargs (base := base) (tS := tS) as (j + 1) h.2 i v (by simpa using hv)
      rw [show j + 1 + i = j + (i + 1) by omega] at this
      exact List.mem_cons_of_mem _ this
theorem am_lgsl {base : Nat} {tS : Nat → Nat} : ∀ (as : List Value), as.all am_c1 = true → (lg_sl (as.map (am_v base tS))).length = as.length
  | [], _ => rfl
  | u :: as, h => by
    simp only [List.all_cons, Bool.and_eq_true] at h
    have hcat : ¬ (am_v base tS u).category = 2 := by
      rw [am_cat]
      have h1 := h.1
      cases u <;> first | (simp [Value.category]; done) | (cases h1)
    have ih := am_lgsl (base := base) (tS := tS) as h.2
    unfold lg_sl at ih ⊢
    simp only [List.map_cons, List.flatMap_cons, if_neg hcat, List.length_append, List.length_cons, List.length_nil, ih]
    omega
theorem am_L.entry {base : Nat} {tS : Nat → Nat} {z : Nat} {as : List Value} (h : as.all am_c1 = true) (hl : as.length ≤ (am_meth z).2.2.1) : am_L base tS (am_entry z as) ((lg_sl (as.map (am_v base tS)) ++ List.replicate ((am_meth z).2.2.1 - (lg_sl (as.map (am_v base tS))).length) Slot.unset).toArray) (am_meth z).2.2.1 := by
  have hlen := am_lgsl (base := base) (tS := tS) as h
  have he := lv_entry (as.map (am_v base tS)) (n := (am_meth z).2.2.1) (by rw [hlen]; exact hl)
  refine ⟨by unfold am_entry; rw [List.length_append, List.length_map, List.length_replicate]; omega, he.1, he.2.1, fun i v hv => ?_⟩
  unfold am_entry at hv
  by_cases hi : i < as.length
  · rw [List.getElem?_append_left (by rw [List.length_map]; exact hi), List.getElem?_map] at hv
    have hv' : as[i]? = some v := by
      cases hq : as[i]? with
      | none => rw [hq] at hv; cases hv
      | some u => rw [hq] at hv; cases hv; rfl
    have := am_lvargs (base := base) (tS := tS) as 0 h i v hv'
    rw [Nat.zero_add] at this
    exact he.2.2 _ this
  · rw [List.getElem?_append_right (by rw [List.length_map]; omega)] at hv
    have := List.mem_of_getElem? hv
    rw [List.mem_replicate] at this
    cases this.2
def am_Good (f : Nat) : Prop := ∀ (d z : Nat) (g : am_G) (r : Option Value) (h' : am_H), z < am_count → am_run f d z g = some (r, h') → (g.2.2.2.1 ≤ h'.1 ∧ g.2.2.2.2.1 ≤ h'.2.1) ∧ ∀ (p : Program) (l : Launch) (e : Env) (R : Room) (s : State) (m : MethodId) (args : Array Value) (below : List Frame) (meth : Method) (c : Code) (D : va_G) (cA : Nat → ClassId) (tS : Nat → Nat) (base n0 s0 : Nat),
  am_Ctx p s m args meth c D cA tS base z → R.frames = d ∧ 64 * d ≤ R.locals → n0 ≤ g.2.2.2.1 ∧ s0 ≤ g.2.2.2.2.1 → R.cells = h'.1 - n0 ∧ R.slots = h'.2.1 - s0 → am_At p l e R s m args below meth c D cA tS base z (MQ below (am_Q D cA tS base h' r) args s (h'.1 - n0) (h'.2.1 - s0) (fun q => base ≤ q)) n0 s0 g
/-- a run from the start, as a contract -/
theorem am_met {f d z : Nat} (ih : am_Good f) (hz : z < am_count) {as : List Value} {h h1 : am_H} {r : Option Value} (hc : as.all am_c1 = true) (hn : as.length = (am_meth z).2.2.2.1) (hrun : am_run f d z (0, am_entry z as, [], h) = some (r, h1)) (l : Launch) (D : va_G) (cA : Nat → ClassId) (tS : Nat → Nat) (base : Nat) : (h.1 ≤ h1.1 ∧ h.2.1 ≤ h1.2.1) ∧ Met l (am_info z).1 (am_ws z) (am_rm d (h1.1 - h.1) (h1.2.1 - h.2.1)) (am_Pc D cA tS base as h) (am_Q D cA tS base h1 r) (h1.1 - h.1) (h1.2.1 - h.2.1) (fun q => base ≤ q) := by
  obtain ⟨hm, hW⟩ := ih d z _ r h1 hz hrun
  have mf := am_mfacts hz
  refine ⟨hm, am_ofW (cc := (am_info z).2.1) (maxL := (am_meth z).2.2.1) (ret := (am_info z).2.2.1) mf.2.2.1 rfl ?_⟩
  intro p e s m args below meth c s₁ B hml hv
  obtain ⟨hv1, hX, hR⟩ := hv
  subst hv1
  have hts := atoms_spec (ws := am_ws z) B.pre
  have C : am_Ctx p s m (as.map (am_v base tS)).toArray meth c D cA tS base z := ⟨B.exec, B.bytes, hml, B.returns, findClass_of_methodNamed B.named, fun w hw => hts w (List.mem_cons_of_mem _ hw), B.notSynchronized, (name_of_methodNamed B.named B.method).1, hX, hz⟩
  have k := hW p l e (headSpec (am_ws z) (am_rm d (h1.1 - h.1) (h1.2.1 - h.2.1))).room s m _ below meth c D cA tS base h.1 h.2.1 C ⟨rfl, Nat.le_refl _⟩ ⟨Nat.le_refl _, Nat.le_refl _⟩ ⟨rfl, rfl⟩
  rw [lg_entry_eq]
  have k1 := k s.heap [] _ ⟨hR, fun _ _ => rfl, (fun _ h => by cases h), am_L.entry hc (by rw [hn]; exact mf.2.2.2.2.2.2.1)⟩
  dsimp only at k1
  rw [Nat.sub_self, Nat.sub_self] at k1
  exact k1
theorem am_rcv_1 {z : Nat} {h : am_H} {as : List Value} (q : am_rcv 1 z as h = true) : ∃ (b : Nat) (as' : List Value), as = .ref b :: as' ∧ 100 < (am_meth z).2.2.2.2.2 := by
  unfold am_rcv at q
  rw [Bool.and_eq_true] at q
  cases as with
  | nil => exact Bool.noConfusion (show false = true from q.2)
  | cons v t =>
    cases v with
    | ref b =>
      have h2 : Nat.blt 100 (am_meth z).2.2.2.2.2 = true := q.2
      rw [Nat.blt_eq] at h2
      exact ⟨b, t, rfl, h2⟩
    | _ => exact Bool.noConfusion (show false = true from q.2)
theorem am_rcv_2 {z : Nat} {h : am_H} {as : List Value} (q : am_rcv 2 z as h = true) : ∃ (b : Nat) (as' : List Value) (ci : Nat) (fs : List Value), as = .ref b :: as' ∧ b < h.1 ∧ h.2.2 b = .inr (ci, fs) ∧ ci + 1 = (am_meth z).2.2.2.2.2 := by
  unfold am_rcv at q
  rw [Bool.and_eq_true] at q
  cases as with
  | nil => exact Bool.noConfusion (show false = true from q.2)
  | cons v t =>
    cases v with
    | ref b =>
      have h2 : (Nat.blt b h.1 && (match h.2.2 b with
          | .inr (ci, _) => Nat.beq (ci + 1) (am_meth z).2.2.2.2.2
          | _ => false)) = true := q.2
      rw [Bool.and_eq_true, Nat.blt_eq] at h2
      cases hc : h.2.2 b with
      | inl x => rw [hc] at h2; exact Bool.noConfusion h2.2
      | inr x =>
        obtain ⟨ci, fs⟩ := x
        rw [hc] at h2
        exact ⟨b, t, ci, fs, rfl, h2.1, hc, Nat.eq_of_beq_eq_true h2.2⟩
    | _ => exact Bool.noConfusion (show false = true from q.2)
section AME
variable {p : Program} {l : Launch} {e : Env} {R : Room} {s : State} {m : MethodId} {args : Array Value} {below : List Frame} {meth : Method} {c : Code} {D : va_G} {cA : Nat → ClassId} {tS : Nat → Nat} {base z d n0 s0 : Nat} {Q : State → Prop} {H : Heap} {locs : List Loc} {cells slots mc ms pc : Nat} {ls : Array Slot} {st0 rest : List Value} {h1 : am_H} {r : Option Value} {a : Array Value}
theorem am_cont (hr : va_Run p l e R s m args below meth c H locs cells slots mc ms (F0 m pc ls st0) rest (am_Q D cA tS base h1 r a) (fun q => base ≤ q)) (hL : ∀ x ∈ locs, base ≤ x.base)
    (kk : ∀ (H1 : Heap) (locs1 : List Loc), am_R D cA tS base h1 H1 → (∀ q : Nat, q < base → H1[q]? = H[q]?) → (∀ x ∈ locs1, base ≤ x.base) → W p l e R s m args below meth c H1 locs1 (cells + mc) (slots + ms) Q (F0 m (pc + 3) ls ((r.map (am_v base tS)).toList ++ rest))) : W p l e R s m args below meth c H locs cells slots Q (F0 m pc ls st0) := by
  intro T hT X
  obtain ⟨v, st₀, t, T', L, h0, X', hLq, e1, e2, ⟨hv, hR, hF⟩, st⟩ := hr T hT X
  cases hv
  obtain ⟨t2, a1, b1⟩ := kk T'.heap (locs ++ L) (by rw [e1]; exact hR) (fun q hq => by rw [e1, hF q hq, h0]) (fun x hx => by
    rcases List.mem_append.mp hx with q | q
    · exact hL x q
    · exact hLq x q) T' rfl X'
  exact ⟨t2, st t2 a1, b1⟩
/-- a call, by the callee's contract -/
theorem am_call (C : am_Ctx p s m args meth c D cA tS base z) {i : ClassFile.Instr} {len aux k f : Nat} {L : List (Option Value)} {st as rs : List Value} {h : am_H} (hf : am_fetch z pc = some (i, len, aux)) (hk : am_kind i aux = k) (hk3 : k < 3) (hd0 : d ≠ 0) (ha : am_args (am_meth (aux / 10000)).2.2.2.1 [] st = some (as, rs)) (hrc : am_rcv k (aux / 10000) as h = true) (hsum : (rs.map fun v => v.category).sum ≤ 8)
    (ih : am_Good f) (hrun : am_run f (d - 1) (aux / 10000) (0, am_entry (aux / 10000) as, [], h) = some (r, h1)) (hd : R.frames = d ∧ 64 * d ≤ R.locals) (h0 : n0 ≤ h.1 ∧ s0 ≤ h.2.1) (hr : h1.1 - n0 ≤ R.cells ∧ h1.2.1 - s0 ≤ R.slots)
    (kk : am_At p l e R s m args below meth c D cA tS base z Q n0 s0 (pc + 3, L, r.toList ++ rs, h1)) : am_At p l e R s m args below meth c D cA tS base z Q n0 s0 (pc, L, st, h) := by
  obtain ⟨hx, hb, hml, hrt, hown, hts, hlk, hnm, hX, hz⟩ := C
  obtain ⟨hdc, hln, hres⟩ := am_chkz hz hf
  obtain ⟨ts, ht1, ht2, ht3⟩ := am_args_spec _ _ _ _ _ ha
  rw [List.append_nil] at ht1
  have hlen : as.length = (am_meth (aux / 10000)).2.2.2.1 := by rw [ht1, List.length_reverse, ht3]
  have hzz : aux / 10000 < am_count := by
    unfold am_kind at hk
    split at hk <;> first | omega | (split at hk <;> first | assumption | omega)
  have hrc1 : as.all am_c1 = true := by
    have h9 := hrc
    unfold am_rcv at h9
    rw [Bool.and_eq_true] at h9
    exact h9.1
  have mf := am_mfacts hzz
  obtain ⟨hmono, hM⟩ := am_met ih hzz hrc1 hlen hrun l D cA tS base
  intro H locs ls hS
  dsimp only at hS ⊢
  have hstk : st.map (am_v base tS) = (as.map (am_v base tS)).reverse ++ rs.map (am_v base tS) := by
    rw [ht2, List.map_append, ht1, List.map_reverse, List.reverse_reverse]
  have hwd : 2 * (F0 m pc ls (st.map (am_v base tS))).monitorRoom + ((rs.map (am_v base tS)).map fun v => v.category).sum ≤ 8 := lv_room (by rw [am_sum]; exact hsum)
  have hpre : ∀ U : State, U.heap = H → s.WarmedH U.vm → am_Pc D cA tS base as h (as.map (am_v base tS)).toArray U := fun U hU hW => ⟨rfl, hX.moved hW (fun q hq => by rw [hU]; exact hS.2.1 q hq), by rw [hU]; exact hS.1⟩
  have hroom : (am_rm (d - 1) (h1.1 - h.1) (h1.2.1 - h.2.1)).frames + 1 ≤ R.frames ∧ 8 + ((am_meth (aux / 10000)).2.2.1 + 11) + (am_rm (d - 1) (h1.1 - h.1) (h1.2.1 - h.2.1)).locals ≤ R.locals := by
    have m64 := mf.2.2.2.2.2.1
    constructor
    · show d - 1 + 1 ≤ R.frames
      rw [hd.1]; omega
    · show 8 + ((am_meth (aux / 10000)).2.2.1 + 11) + 64 * (d - 1) ≤ R.locals
      have := hd.2
      omega
  have S : CallFix p m c (am_info z).2.1 (am_meth z).2.2.1 s args am_good (am_info z).1.cls := ⟨hx, hb, hml, hown, hts⟩
  have hcs : h.1 - n0 + (h1.1 - h.1) = h1.1 - n0 ∧ h.2.1 - s0 + (h1.2.1 - h.2.1) = h1.2.1 - s0 := by omega
  have fin : ∀ {a : Array Value}, va_Run p l e R s m args below meth c H locs (h.1 - n0) (h.2.1 - s0) (h1.1 - h.1) (h1.2.1 - h.2.1) (F0 m pc ls (st.map (am_v base tS))) (rs.map (am_v base tS)) (am_Q D cA tS base h1 r a) (fun q => base ≤ q) → W p l e R s m args below meth c H locs (h.1 - n0) (h.2.1 - s0) Q (F0 m pc ls (st.map (am_v base tS))) := by
    intro a hrn
    refine am_cont hrn hS.2.2.1 (fun H1 locs1 hR1 hF1 hL1 => ?_)
    have k1 := kk H1 locs1 ls ⟨hR1, fun q hq => (hF1 q hq).trans (hS.2.1 q hq), hL1, hS.2.2.2⟩
    dsimp only at k1
    rw [hcs.1, hcs.2]
    have e1 : (r.map (am_v base tS)).toList ++ rs.map (am_v base tS) = (r.toList ++ rs).map (am_v base tS) := by cases r <;> rfl
    rw [e1]
    exact k1
  have hf2 : h.1 - n0 + (h1.1 - h.1) ≤ R.cells ∧ h.2.1 - s0 + (h1.2.1 - h.2.1) ≤ R.slots := by rw [hcs.1, hcs.2]; exact hr
  unfold am_kind at hk
  split at hk
  · rename_i n
    split at hk
    · subst hk
      have hrc0 : (am_meth (aux / 10000)).2.2.2.2.2 = 0 := Nat.eq_of_beq_eq_true (by have h9 := hrc; unfold am_rcv at h9; rw [Bool.and_eq_true] at h9; exact h9.2)
      have hl3 : len = 3 := by
        rcases hln with q | q
        · exact absurd (show (3 : Nat) = 0 from q) (by decide)
        · exact (show (3 : Nat) = len from q).symm
      subst hl3
      have hpl := mf.2.1
      rw [if_pos hrc0, Nat.sub_zero] at hpl
      have hres' : ((Nat.beq (aux / 10000) 1001 && am_w (aux % 10000) (.methodLink (am_info z).1.cls n arraycopyName)) || (Nat.blt (aux / 10000) am_count && am_mlk (am_info z).1.cls n aux)) = true := hres
      have hno : Nat.beq (aux / 10000) 1001 = false := by
        cases hq : Nat.beq (aux / 10000) 1001 with
        | false => rfl
        | true => have h9 := Nat.eq_of_beq_eq_true hq; have h8 : aux / 10000 < 173 := hzz; omega
      rw [hno, Bool.false_and, Bool.false_or, Bool.and_eq_true] at hres'
      have hml2 := hres'.2
      unfold am_mlk at hml2
      rw [Bool.or_eq_true] at hml2
      rcases hml2 with q | q
      · exact fin (va_runS S hM ⟨callB_of _ hts (am_goodIn hzz) rfl rfl rfl (hts _ mf.1) (hts _ (am_in q rfl)) ⟨mf.2.2.2.1.1, mf.2.2.2.1.2, hpl⟩ hroom, hts _ (mf.2.2.2.2.2.2.2.1 hrc0)⟩ ⟨am_blind, hpre⟩ rfl (by rw [List.length_map]; exact hlen) hS.2.2.2.2.1 hstk hwd hdc hf2)
      · exact fin (va_runSN S hM ⟨va_cnB _ hts (am_goodIn hzz) rfl rfl rfl (hX.2.2.1 _ (am_inN q)) (hts _ mf.1) ⟨mf.2.2.2.1.1, mf.2.2.2.1.2, hpl⟩ hroom, hts _ (mf.2.2.2.2.2.2.2.1 hrc0), trivial⟩ ⟨am_blind, hpre⟩ rfl (by rw [List.length_map]; exact hlen) hS.2.2.2.2.1 hstk hwd hdc hf2)
    · omega
  · rename_i n
    split at hk
    · subst hk
      obtain ⟨b, as', has, hrc2⟩ := am_rcv_1 hrc
      subst has
      · skip
        have hl3 : len = 3 := by
          rcases hln with q | q
          · exact absurd (show (3 : Nat) = 0 from q) (by decide)
          · exact (show (3 : Nat) = len from q).symm
        subst hl3
        have hpl := mf.2.1
        rw [if_neg (by omega)] at hpl
        have hini := mf.2.2.2.2.2.2.2.2.2.1 hrc2
        have hrt2 := hini.2
        have hG := am_goodIn hzz
        have hM2 := hM
        unfold am_ws at hG hM2
        rw [hrt2] at hG hM2
        have hres' : ((Nat.beq (aux / 10000) 1000 && am_w (aux % 10000) (.methodLink (am_info z).1.cls n Lib.objectInit)) || (Nat.blt (aux / 10000) am_count && am_mlk (am_info z).1.cls n aux)) = true := hres
        have hno : Nat.beq (aux / 10000) 1000 = false := by
          cases hq : Nat.beq (aux / 10000) 1000 with
          | false => rfl
          | true => have h9 := Nat.eq_of_beq_eq_true hq; have h8 : aux / 10000 < 173 := hzz; omega
        rw [hno, Bool.false_and, Bool.false_or, Bool.and_eq_true] at hres'
        have hml2 := hres'.2
        unfold am_mlk at hml2
        rw [Bool.or_eq_true] at hml2
        have hn2 : (as'.map (am_v base tS)).length = (am_meth (aux / 10000)).2.2.2.1 - 1 := by
          rw [List.length_map]
          rw [List.length_cons] at hlen
          omega
        have hstk2 : (F0 m pc ls (st.map (am_v base tS))).stack = (as'.map (am_v base tS)).reverse ++ Value.ref (base + b) :: rs.map (am_v base tS) := by
          show st.map (am_v base tS) = _
          rw [hstk]
          show ((Value.ref (base + b)) :: as'.map (am_v base tS)).reverse ++ rs.map (am_v base tS) = _
          rw [List.reverse_cons, List.append_assoc]
          rfl
        rcases hml2 with q | q
        · exact fin (va_runI S hM2 ⟨callB_of _ hts hG rfl rfl rfl (hts _ mf.1) (hts _ (am_in q rfl)) ⟨mf.2.2.2.1.1, mf.2.2.2.1.2, hpl⟩ hroom, hini.1, hts _ (mf.2.2.2.2.2.2.2.2.1 (by omega)).2⟩ ⟨am_blind, hpre⟩ rfl hn2 hS.2.2.2.2.1 hstk2 hwd hdc hf2)
        · exact fin (va_runIN S hM2 ⟨va_cnB _ hts hG rfl rfl rfl (hX.2.2.1 _ (am_inN q)) (hts _ mf.1) ⟨mf.2.2.2.1.1, mf.2.2.2.1.2, hpl⟩ hroom, hini.1, hts _ (mf.2.2.2.2.2.2.2.2.1 (by omega)).2⟩ ⟨am_blind, hpre⟩ rfl hn2 hS.2.2.2.2.1 hstk2 hwd hdc hf2)
    · omega
  · rename_i n
    split at hk
    · subst hk
      obtain ⟨b, as', ci, fs, has, hbl, heq, hcr⟩ := am_rcv_2 hrc
      subst has
      · skip
        · skip
          have hl3 : len = 3 := by
            rcases hln with q | q
            · exact absurd (show (3 : Nat) = 0 from q) (by decide)
            · exact (show (3 : Nat) = len from q).symm
          subst hl3
          have hpl := mf.2.1
          rw [if_neg (by omega)] at hpl
          by_cases hle : (am_meth (aux / 10000)).2.2.2.2.2 ≤ 100
          · obtain ⟨⟨T, N, hcl⟩, hsel⟩ := mf.2.2.2.2.2.2.2.2.2.2 (by omega) hle
            rw [← hcr, Nat.add_sub_cancel] at hcl
            have hres' : (Nat.blt (aux / 10000) am_count && am_w (aux % 10000) (.methodLink (am_info z).1.cls n (am_info (aux / 10000)).1)) = true := hres
            rw [Bool.and_eq_true] at hres'
            have hn2 : (as'.map (am_v base tS)).length = (am_meth (aux / 10000)).2.2.2.1 - 1 := by
              rw [List.length_map]
              rw [List.length_cons] at hlen
              omega
            have hstk2 : (F0 m pc ls (st.map (am_v base tS))).stack = (as'.map (am_v base tS)).reverse ++ Value.ref (base + b) :: rs.map (am_v base tS) := by
              show st.map (am_v base tS) = _
              rw [hstk]
              show ((Value.ref (base + b)) :: as'.map (am_v base tS)).reverse ++ rs.map (am_v base tS) = _
              rw [List.reverse_cons, List.append_assoc]
              rfl
            exact fin (va_runV S hM ⟨callB_of _ hts (am_goodIn hzz) rfl rfl rfl (hts _ mf.1) (hts _ (am_in hres'.2 rfl)) ⟨mf.2.2.2.1.1, mf.2.2.2.1.2, hpl⟩ hroom, hts _ (mf.2.2.2.2.2.2.2.2.1 (by omega)).2, hts _ hsel⟩ ⟨am_blind, va_recv hX.1 (hS.1.one hbl heq) hcl (q0 := 0) rfl, hpre⟩ rfl hn2 hS.2.2.2.2.1 hstk2 hwd hdc hf2)
          · exfalso
            have : ci < 13 := by
              have h9 := hS.1.2 b hbl
              have heq' : (pc, L, st, h).2.2.2.2.2 b = Sum.inr (ci, fs) := heq
              rw [heq'] at h9
              obtain ⟨r9, hr9, -⟩ := h9
              exact (List.getElem?_eq_some_iff.mp hr9).1
            omega
    · omega
  all_goals omega
/-- a return -/
theorem am_retn (C : am_Ctx p s m args meth c D cA tS base z) {i : ClassFile.Instr} {len aux : Nat} {L : List (Option Value)} {st : List Value} {h h' : am_H} (hf : am_fetch z pc = some (i, len, aux)) (hs : am_ret z i st h = some (r, h')) (hr : R.cells = h'.1 - n0 ∧ R.slots = h'.2.1 - s0) : h = h' ∧ am_At p l e R s m args below meth c D cA tS base z (MQ below (am_Q D cA tS base h' r) args s (h'.1 - n0) (h'.2.1 - s0) (fun q => base ≤ q)) n0 s0 (pc, L, st, h) := by
  obtain ⟨hx, hb, hml, hrt, hown, hts, hlk, hnm, hX, hz⟩ := C
  obtain ⟨hdc, hln, hres⟩ := am_chkz hz hf
  have mf := am_mfacts hz
  have hrk := mf.2.2.2.2.1
  rw [← hrt] at hrk
  have hl1 : am_len i = 1 → len = 1 := by
    intro q
    rcases hln with w | w
    · have w' : am_len i = 0 := w
      omega
    · have w' : am_len i = len := w
      omega
  unfold am_ret at hs
  split at hs
  · rename_i v
    split at hs
    · rename_i hq
      cases hs
      have := hl1 rfl
      subst this
      refine ⟨rfl, fun H locs ls hS => ?_⟩
      have hty : ∃ ty, meth.sig.returnType = some ty ∧ narrow ty (.int v) = .int v := by
        rcases hq with q | ⟨q1, q2⟩
        · rw [q] at hrk
          cases hr9 : meth.sig.returnType with
          | none => rw [hr9] at hrk; cases hrk
          | some t => rw [hr9] at hrk; cases t <;> first | exact ⟨_, rfl, rfl⟩ | (cases hrk)
        · rw [q1] at hrk
          cases hr9 : meth.sig.returnType with
          | none => rw [hr9] at hrk; cases hrk
          | some t =>
            rw [hr9] at hrk
            cases t <;> first | (refine ⟨_, rfl, ?_⟩; rcases q2 with q | q <;> subst q <;> rfl) | (cases hrk)
      obtain ⟨ty, ht1, ht2⟩ := hty
      exact W.zret hx hb ht1 ht2 (fun t ht hW => ⟨rfl, by rw [ht]; exact hS.1, fun q hq => by rw [ht]; exact hS.2.1 q hq⟩) hS.2.2.1 hdc hlk
    · cases hs
  · rename_i v
    split at hs
    · rename_i hq
      cases hs
      have := hl1 rfl
      subst this
      refine ⟨rfl, fun H locs ls hS => ?_⟩
      rw [hq] at hrk
      have ht1 : meth.sig.returnType = some .long := by
        cases hr9 : meth.sig.returnType with
        | none => rw [hr9] at hrk; cases hrk
        | some t => rw [hr9] at hrk; cases t <;> first | rfl | (cases hrk)
      exact W.lret hx hb ht1 (fun t ht hW => ⟨rfl, by rw [ht]; exact hS.1, fun q hq => by rw [ht]; exact hS.2.1 q hq⟩) hS.2.2.1 hdc hlk
    · cases hs
  · rename_i v
    split at hs
    · rename_i hq
      cases hs
      have := hl1 rfl
      subst this
      refine ⟨rfl, fun H locs ls hS => ?_⟩
      rw [hq] at hrk
      have ht1 : ∃ n, meth.sig.returnType = some (.object n) := by
        cases hr9 : meth.sig.returnType with
        | none => rw [hr9] at hrk; cases hrk
        | some t => rw [hr9] at hrk; cases t <;> first | exact ⟨_, rfl⟩ | (cases hrk)
      obtain ⟨n, ht1⟩ := ht1
      exact W.aret hx hb ht1 (Or.inl ⟨n, rfl⟩) (Or.inr ⟨base + v, rfl⟩) (fun t ht hW => ⟨rfl, by rw [ht]; exact hS.1, fun q hq => by rw [ht]; exact hS.2.1 q hq⟩) hS.2.2.1 hdc hlk
    · cases hs
  · split at hs
    · rename_i hq
      cases hs
      have := hl1 rfl
      subst this
      refine ⟨rfl, fun H locs ls hS => ?_⟩
      rw [hq] at hrk
      have ht1 : ∃ n, meth.sig.returnType = some (.object n) := by
        cases hr9 : meth.sig.returnType with
        | none => rw [hr9] at hrk; cases hrk
        | some t => rw [hr9] at hrk; cases t <;> first | exact ⟨_, rfl⟩ | (cases hrk)
      obtain ⟨n, ht1⟩ := ht1
      exact W.aret hx hb ht1 (Or.inl ⟨n, rfl⟩) (Or.inl rfl) (fun t ht hW => ⟨rfl, by rw [ht]; exact hS.1, fun q hq => by rw [ht]; exact hS.2.1 q hq⟩) hS.2.2.1 hdc hlk
    · cases hs
  · split at hs
    · rename_i hq
      cases hs
      have := hl1 rfl
      subst this
      refine ⟨rfl, fun H locs ls hS => ?_⟩
      rw [hq] at hrk
      have ht1 : meth.sig.returnType = none := by
        cases hr9 : meth.sig.returnType with
        | none => rfl
        | some t => rw [hr9] at hrk; cases hrk
      exact W.vret hx hb ht1 (fun t ht hW => ⟨rfl, by rw [ht]; exact hS.1, fun q hq => by rw [ht]; exact hS.2.1 q hq⟩) hS.2.2.1 hdc hlk
    · cases hs
  · cases hs
end AME
theorem am_ret_h {z : Nat} {i : ClassFile.Instr} {st : List Value} {h h' : am_H} {r : Option Value} (hs : am_ret z i st h = some (r, h')) : h = h' := by
  unfold am_ret at hs
  split at hs <;> first | (cases hs; done) | (split at hs <;> first | (cases hs; done) | (cases hs; rfl))
set_option maxHeartbeats 2000000 in
theorem am_sound : ∀ f : Nat, am_Good f
  | 0 => fun d z g r h' hz h => by cases h
  | f + 1 => by
    intro d z g r h' hz h
    have ih := am_sound f
    obtain ⟨pc, L, st, hh⟩ := g
    unfold am_run at h
    dsimp only at h
    cases hf : am_fetch z pc with
    | none => rw [hf] at h; cases h
    | some e0 =>
      obtain ⟨i, len, aux⟩ := e0
      rw [hf] at h
      dsimp only at h
      split at h
      · cases hst : am_step d i aux pc L st hh with
        | none => rw [hst] at h; cases h
        | some g' =>
          rw [hst] at h
          dsimp only at h
          obtain ⟨hm, hW⟩ := ih d z g' r h' hz h
          have hm2 := am_step_mono hst
          refine ⟨⟨Nat.le_trans hm2.1 hm.1, Nat.le_trans hm2.2 hm.2⟩, ?_⟩
          intro p l e R s m args below meth c D cA tS base n0 s0 C hd h0 hr
          dsimp only at h0
          exact am_step_ok C hf hst hd h0 (by rw [hr.1, hr.2]; omega) (hW p l e R s m args below meth c D cA tS base n0 s0 C hd (by omega) hr)
      · have he := am_ret_h h
        subst he
        refine ⟨⟨Nat.le_refl _, Nat.le_refl _⟩, ?_⟩
        intro p l e R s m args below meth c D cA tS base n0 s0 C hd h0 hr
        exact (am_retn C hf h hr).2
      · rename_i k hk9 hk3
        split at h
        · cases h
        · rename_i hd0
          split at h
          · rename_i as rs ha
            split at h
            · rename_i hcd
              split at h
              · rename_i r1 h1 hrun
                obtain ⟨hm, hW⟩ := ih d z _ r h' hz h
                dsimp only at hm
                have hkk : am_kind i aux < 3 := by
                  unfold am_kind at hk9 hk3 ⊢
                  split <;> first | omega | skip
                  all_goals (first | (split <;> first | omega | skip) | skip)
                  all_goals simp_all
                have hzz : aux / 10000 < am_count := by
                  unfold am_kind at hk9 hk3
                  split at hk9 <;> first | (exact absurd rfl hk3) | (exact absurd rfl hk9) | (split at hk9 <;> first | assumption | (exact absurd rfl hk9))
                obtain ⟨ts, ht1, ht2, ht3⟩ := am_args_spec _ _ _ _ _ ha
                rw [List.append_nil] at ht1
                have hlen : as.length = (am_meth (aux / 10000)).2.2.2.1 := by rw [ht1, List.length_reverse, ht3]
                have hc1 : as.all am_c1 = true := by
                  have h9 := hcd.1
                  unfold am_rcv at h9
                  rw [Bool.and_eq_true] at h9
                  exact h9.1
                have hm1 := (ih (d - 1) _ _ r1 h1 hzz hrun).1
                dsimp only at hm1
                refine ⟨⟨Nat.le_trans hm1.1 hm.1, Nat.le_trans hm1.2 hm.2⟩, ?_⟩
                intro p l e R s m args below meth c D cA tS base n0 s0 C hd h0 hr
                dsimp only at h0
                exact am_call C hf rfl hkk hd0 ha hcd.1 hcd.2 ih hrun hd h0 (by rw [hr.1, hr.2]; omega) (hW p l e R s m args below meth c D cA tS base n0 s0 C hd (by dsimp only; omega) hr)
              · cases h
            · cases h
          · cases h
end
section
/-! the small machine's runs, as a judgement, and its rows -/
def am_ev (d z : Nat) (g : am_G) (r : Option Value) (h' : am_H) : Prop := ∃ f, am_run f d z g = some (r, h')
def am_m (d z : Nat) (as : List Value) (h : am_H) (r : Option Value) (h' : am_H) : Prop := am_ev d z (0, am_entry z as, [], h) r h'
def am_is (h : am_H) (a : Nat) (x : am_C) : Prop := a < h.1 ∧ h.2.2 a = x
def am_up (h : am_H) (a : Nat) (x : am_C) : am_H := (h.1, h.2.1, va_up h.2.2 a x)
def am_new (h : am_H) (n : Nat) (x : am_C) : am_H := (h.1 + 1, h.2.1 + n, va_up h.2.2 h.1 x)
theorem am_is.self {h : am_H} {a : Nat} {x y : am_C} (hh : am_is h a y) : am_is (am_up h a x) a x := ⟨hh.1, va_up_self _ _ _⟩
theorem am_is.ne {h : am_H} {a b : Nat} {x y : am_C} (hh : am_is h b y) (hn : b ≠ a) : am_is (am_up h a x) b y := ⟨hh.1, (va_up_ne _ _ hn).trans hh.2⟩
theorem am_is.new {h : am_H} {b n : Nat} {x y : am_C} (hh : am_is h b y) : am_is (am_new h n x) b y := ⟨Nat.lt_succ_of_lt hh.1, (va_up_ne _ _ (Nat.ne_of_lt hh.1)).trans hh.2⟩
theorem am_is.made {h : am_H} {n : Nat} {x : am_C} : am_is (am_new h n x) h.1 x := ⟨Nat.lt_succ_self _, va_up_self _ _ _⟩
theorem am_up_up (h : am_H) (a : Nat) (x y : am_C) : am_up (am_up h a x) a y = am_up h a y := by
  unfold am_up
  dsimp only
  rw [bx_uu]
theorem am_up_id {h : am_H} {a : Nat} {x : am_C} (hh : h.2.2 a = x) : am_up h a x = h := by
  obtain ⟨n, s, f⟩ := h
  unfold am_up
  dsimp only at hh ⊢
  congr 2
  funext j
  by_cases q : j = a
  · subst q; rw [va_up_self, hh]
  · rw [va_up_ne _ _ q]
theorem am_up_comm (h : am_H) {a b : Nat} (x y : am_C) (hab : a ≠ b) : am_up (am_up h a x) b y = am_up (am_up h b y) a x := by
  unfold am_up
  dsimp only
  congr 2
  funext j
  by_cases q : j = a
  · subst q; rw [va_up_self, va_up_ne _ _ hab, va_up_self]
  · rw [va_up_ne _ _ q]
    by_cases q2 : j = b
    · subst q2; rw [va_up_self, va_up_self]
    · rw [va_up_ne _ _ q2, va_up_ne _ _ q2, va_up_ne _ _ q]
theorem am_run_step {f d z : Nat} {g : am_G} {i : ClassFile.Instr} {len aux : Nat} (hf : am_fetch z g.1 = some (i, len, aux)) (hk : am_kind i aux = 9) : am_run (f + 1) d z g = match am_step d i aux g.1 g.2.1 g.2.2.1 g.2.2.2 with
    | some g' => am_run f d z g'
    | none => none := by
  conv => lhs; unfold am_run
  rw [hf]
  dsimp only
  rw [hk]
  rfl
theorem am_run_ret {f d z : Nat} {g : am_G} {i : ClassFile.Instr} {len aux : Nat} (hf : am_fetch z g.1 = some (i, len, aux)) (hk : am_kind i aux = 3) : am_run (f + 1) d z g = am_ret z i g.2.2.1 g.2.2.2 := by
  unfold am_run
  rw [hf]
  dsimp only
  rw [hk]
  rfl
def am_runc (f d z k : Nat) (aux : Nat) (g : am_G) : Option (Option Value × am_H) := if d = 0 then none else match am_args (am_meth (aux / 10000)).2.2.2.1 [] g.2.2.1 with
  | some (as, rest) => if am_rcv k (aux / 10000) as g.2.2.2 = true ∧ (rest.map fun v => v.category).sum ≤ 8 then match am_run f (d - 1) (aux / 10000) (0, am_entry (aux / 10000) as, [], g.2.2.2) with
    | some (r, h1) => am_run f d z (g.1 + 3, g.2.1, r.toList ++ rest, h1)
    | none => none
    else none
  | none => none
theorem am_kind4 (i : ClassFile.Instr) (aux : Nat) : am_kind i aux = 9 ∨ am_kind i aux = 3 ∨ am_kind i aux = 0 ∨ am_kind i aux = 1 ∨ am_kind i aux = 2 := by
  unfold am_kind
  split <;> (try split) <;> simp
theorem am_run_call {f d z : Nat} {g : am_G} {i : ClassFile.Instr} {len aux k : Nat} (hf : am_fetch z g.1 = some (i, len, aux)) (hk : am_kind i aux = k) (hk3 : k = 0 ∨ k = 1 ∨ k = 2) : am_run (f + 1) d z g = am_runc f d z k aux g := by
  unfold am_run
  rw [hf]
  dsimp only
  rw [hk]
  rcases hk3 with q | q | q <;> subst q <;> rfl
theorem am_run_mono : ∀ (f d z : Nat) (g : am_G) (x : Option Value × am_H), am_run f d z g = some x → am_run (f + 1) d z g = some x
  | 0, d, z, g, x, h => by cases h
  | f + 1, d, z, g, x, h => by
    cases hf : am_fetch z g.1 with
    | none =>
      unfold am_run at h
      rw [hf] at h
      cases h
    | some e0 =>
      obtain ⟨i, len, aux⟩ := e0
      have hc : ∀ k, am_kind i aux = k → (k = 0 ∨ k = 1 ∨ k = 2) → am_run (f + 1 + 1) d z g = some x := by
        intro k hk hk3
        rw [am_run_call hf hk hk3] at h ⊢
        unfold am_runc at h ⊢
        by_cases hd0 : d = 0
        · rw [if_pos hd0] at h; cases h
        · rw [if_neg hd0] at h ⊢
          cases ha : am_args (am_meth (aux / 10000)).2.2.2.1 [] g.2.2.1 with
          | none => rw [ha] at h; cases h
          | some ar =>
            obtain ⟨as, rs⟩ := ar
            rw [ha] at h
            dsimp only at h ⊢
            by_cases hcd : am_rcv k (aux / 10000) as g.2.2.2 = true ∧ (rs.map fun v => v.category).sum ≤ 8
            · rw [if_pos hcd] at h ⊢
              cases hrun : am_run f (d - 1) (aux / 10000) (0, am_entry (aux / 10000) as, [], g.2.2.2) with
              | none => rw [hrun] at h; cases h
              | some x1 =>
                obtain ⟨r1, h1⟩ := x1
                rw [hrun] at h
                rw [am_run_mono f _ _ _ _ hrun]
                exact am_run_mono f _ _ _ _ h
            · rw [if_neg hcd] at h; cases h
      rcases am_kind4 i aux with hk | hk | hk | hk | hk
      · rw [am_run_step hf hk] at h ⊢
        cases hst : am_step d i aux g.1 g.2.1 g.2.2.1 g.2.2.2 with
        | none => rw [hst] at h; cases h
        | some g' =>
          rw [hst] at h
          exact am_run_mono f d z g' x h
      · rw [am_run_ret hf hk] at h ⊢
        exact h
      · exact hc 0 hk (Or.inl rfl)
      · exact hc 1 hk (Or.inr (Or.inl rfl))
      · exact hc 2 hk (Or.inr (Or.inr rfl))
theorem am_run_le {f f' d z : Nat} {g : am_G} {x : Option Value × am_H} (h : am_run f d z g = some x) (hle : f ≤ f') : am_run f' d z g = some x := by
  induction hle with
  | refl => exact h
  | step _ ih => exact am_run_mono _ _ _ _ _ ih
def am_next (d z : Nat) : am_G → Option am_G
  | (pc, L, st, h) => match am_fetch z pc with
    | none => none
    | some (i, _, aux) => match am_kind i aux with
      | 9 => am_step d i aux pc L st h
      | _ => none
def am_steps (d z : Nat) : Nat → am_G → Option am_G
  | 0, g => some g
  | n + 1, g => match am_next d z g with
    | some g' => am_steps d z n g'
    | none => none
section EV
variable {d z pc q : Nat} {L L' : List (Option Value)} {st st' : List Value} {h h1 h' : am_H} {r : Option Value}
theorem ev_at {i : ClassFile.Instr} {len aux : Nat} {g : am_G} (hf : am_fetch z pc = some (i, len, aux)) (hk : am_kind i aux = 9) (hs : am_step d i aux pc L st h = some g) (k : am_ev d z g r h') : am_ev d z (pc, L, st, h) r h' := by
  obtain ⟨f, hr⟩ := k
  refine ⟨f + 1, ?_⟩
  rw [am_run_step (g := (pc, L, st, h)) hf hk]
  dsimp only
  rw [hs]
  exact hr
theorem ev_next {g g' : am_G} (hs : am_next d z g = some g') (k : am_ev d z g' r h') : am_ev d z g r h' := by
  obtain ⟨pc, L, st, h⟩ := g
  unfold am_next at hs
  dsimp only at hs
  cases hft : am_fetch z pc with
  | none => rw [hft] at hs; cases hs
  | some e0 =>
    obtain ⟨i, len, aux⟩ := e0
    rw [hft] at hs
    dsimp only at hs
    split at hs
    · rename_i hk
      exact ev_at hft hk hs k
    · cases hs
theorem ev_steps : ∀ (n : Nat) {g g' : am_G}, am_steps d z n g = some g' → am_ev d z g' r h' → am_ev d z g r h'
  | 0, g, g', hs, k => by cases hs; exact k
  | n + 1, g, g', hs, k => by
    unfold am_steps at hs
    cases hn : am_next d z g with
    | none => rw [hn] at hs; cases hs
    | some g1 =>
      rw [hn] at hs
      exact ev_next hn (ev_steps n hs k)
/-- n instructions that need nothing of the heap -/
theorem ev_go (n : Nat) (hs : am_steps d z n (pc, L, st, h) = some (q, L', st', h)) (k : am_ev d z (q, L', st', h) r h') : am_ev d z (pc, L, st, h) r h' := ev_steps n hs k
theorem ev_ret {i : ClassFile.Instr} {len aux : Nat} (hf : am_fetch z pc = some (i, len, aux)) (hk : am_kind i aux = 3) (hs : am_ret z i st h = some (r, h')) : am_ev d z (pc, L, st, h) r h' := ⟨1, (am_run_ret (g := (pc, L, st, h)) hf hk).trans hs⟩
theorem ev_call {i : ClassFile.Instr} {len aux k : Nat} {as rs : List Value} {r1 : Option Value} (hf : am_fetch z pc = some (i, len, aux)) (hk : am_kind i aux = k) (hk3 : k = 0 ∨ k = 1 ∨ k = 2) (hd : 0 < d) (ha : am_args (am_meth (aux / 10000)).2.2.2.1 [] st = some (as, rs)) (hrc : am_rcv k (aux / 10000) as h = true) (hsum : (rs.map fun v => v.category).sum ≤ 8)
    (hc : am_m (d - 1) (aux / 10000) as h r1 h1) (kk : am_ev d z (pc + 3, L, r1.toList ++ rs, h1) r h') : am_ev d z (pc, L, st, h) r h' := by
  obtain ⟨f1, hf1⟩ := hc
  obtain ⟨f2, hf2⟩ := kk
  refine ⟨Nat.max f1 f2 + 1, ?_⟩
  rw [am_run_call (g := (pc, L, st, h)) hf hk hk3]
  unfold am_runc
  dsimp only
  rw [if_neg (by omega), ha]
  dsimp only
  rw [if_pos ⟨hrc, hsum⟩, am_run_le hf1 (Nat.le_max_left _ _)]
  exact am_run_le hf2 (Nat.le_max_right _ _)
theorem ev_static {n len aux z' : Nat} {as rs : List Value} {r1 : Option Value} (hf : am_fetch z pc = some (.invokestatic n, len, aux)) (hz : aux / 10000 = z') (hk : z' < am_count) (ha : am_args (am_meth z').2.2.2.1 [] st = some (as, rs)) (hrc : am_rcv 0 z' as h = true) (hsum : (rs.map fun v => v.category).sum ≤ 8) (hq : pc + 3 = q) (hd : 0 < d)
    (hc : am_m (d - 1) z' as h r1 h1) (kk : am_ev d z (q, L, r1.toList ++ rs, h1) r h') : am_ev d z (pc, L, st, h) r h' := by
  subst hz; subst hq
  exact ev_call hf (show (if aux / 10000 < am_count then 0 else 9) = 0 from if_pos hk) (by simp) hd ha hrc hsum hc kk
theorem ev_init {n len aux z' a : Nat} {as rs : List Value} {r1 : Option Value} (hf : am_fetch z pc = some (.invokespecial n, len, aux)) (hz : aux / 10000 = z') (hk : z' < am_count) (ha : am_args (am_meth z').2.2.2.1 [] st = some (.ref a :: as, rs)) (hrc : am_rcv 1 z' (.ref a :: as) h = true) (hsum : (rs.map fun v => v.category).sum ≤ 8) (hq : pc + 3 = q) (hd : 0 < d)
    (hc : am_m (d - 1) z' (.ref a :: as) h r1 h1) (kk : am_ev d z (q, L, r1.toList ++ rs, h1) r h') : am_ev d z (pc, L, st, h) r h' := by
  subst hz; subst hq
  exact ev_call hf (show (if aux / 10000 < am_count then 1 else 9) = 1 from if_pos hk) (by simp) hd ha hrc hsum hc kk
theorem ev_virt {n len aux z' a ci : Nat} {as rs fs : List Value} {r1 : Option Value} (hf : am_fetch z pc = some (.invokevirtual n, len, aux)) (hz : aux / 10000 = z') (hk : z' < am_count) (ha : am_args (am_meth z').2.2.2.1 [] st = some (.ref a :: as, rs)) (hsum : (rs.map fun v => v.category).sum ≤ 8) (hq : pc + 3 = q) (hd : 0 < d) (hci : ci + 1 = (am_meth z').2.2.2.2.2) (hc1 : as.all am_c1 = true) (hi : am_is h a (.inr (ci, fs)))
    (hc : am_m (d - 1) z' (.ref a :: as) h r1 h1) (kk : am_ev d z (q, L, r1.toList ++ rs, h1) r h') : am_ev d z (pc, L, st, h) r h' := by
  subst hz; subst hq
  refine ev_call hf (show (if aux / 10000 < am_count then 2 else 9) = 2 from if_pos hk) (by simp) hd ha ?_ hsum hc kk
  show ((true && as.all am_c1) && (Nat.blt a h.1 && (match h.2.2 a with
      | .inr (ci, _) => Nat.beq (ci + 1) (am_meth (aux / 10000)).2.2.2.2.2
      | _ => false))) = true
  rw [hi.2, hc1]
  dsimp only
  rw [hci]
  simp [hi.1]
theorem ev_get {n len aux a ci : Nat} {fs : List Value} {v : Value} (hf : am_fetch z pc = some (.getfield n, len, aux)) (hi : am_is h a (.inr (ci, fs))) (hci : ci = aux / 1000000) (hv : fs[aux / 10000 % 100]? = some v) (hq : pc + 3 = q) (k : am_ev d z (q, L, v :: st, h) r h') : am_ev d z (pc, L, .ref a :: st, h) r h' := by
  subst hq
  refine ev_at (g := (pc + 3, L, v :: st, h)) hf rfl ?_ k
  show (if a < h.1 then match h.2.2 a with
      | .inr (ci, fs) => if ci = aux / 1000000 then match fs[aux / 10000 % 100]? with
        | some v => some (pc + 3, L, v :: st, h)
        | none => none
        else none
      | _ => none
      else none) = _
  rw [if_pos hi.1, hi.2]
  dsimp only
  rw [if_pos hci, hv]
theorem ev_put {n len aux a ci : Nat} {fs fs' : List Value} {v : Value} (hf : am_fetch z pc = some (.putfield n, len, aux)) (hi : am_is h a (.inr (ci, fs))) (hci : ci = aux / 1000000) (hl : aux / 10000 % 100 < fs.length) (ht : am_fit ((am_cy.getD ci (fun _ => .int)) (aux / 10000 % 100)) v = true) (hs : fs.set (aux / 10000 % 100) v = fs') (hq : pc + 3 = q) (k : am_ev d z (q, L, st, am_up h a (.inr (ci, fs'))) r h') : am_ev d z (pc, L, v :: .ref a :: st, h) r h' := by
  subst hq; subst hs
  refine ev_at (g := (pc + 3, L, st, am_up h a (.inr (ci, fs.set (aux / 10000 % 100) v)))) hf rfl ?_ k
  show (if a < h.1 then match h.2.2 a with
      | .inr (ci, fs) => if ci = aux / 1000000 ∧ aux / 10000 % 100 < fs.length ∧ am_fit ((am_cy.getD ci (fun _ => .int)) (aux / 10000 % 100)) v = true then some (pc + 3, L, st, (h.1, h.2.1, va_up h.2.2 a (.inr (ci, fs.set (aux / 10000 % 100) v)))) else none
      | _ => none
      else none) = _
  rw [if_pos hi.1, hi.2]
  exact if_pos ⟨hci, hl, ht⟩
theorem ev_iald {len aux a n : Nat} {f : Nat → Int32} {i : Int32} (hf : am_fetch z pc = some (.iaload, len, aux)) (hi : am_is h a (.inl (0, n, .inl f))) (hx : ¬ i < 0 ∧ i.toNatClampNeg < n) (hq : pc + 1 = q) (k : am_ev d z (q, L, .int (f i.toNatClampNeg) :: st, h) r h') : am_ev d z (pc, L, .int i :: .ref a :: st, h) r h' := by
  subst hq
  refine ev_at (g := (pc + 1, L, .int (f i.toNatClampNeg) :: st, h)) hf rfl ?_ k
  show (if a < h.1 then match h.2.2 a with
      | .inl (0, n, .inl f) => if ¬ i < 0 ∧ i.toNatClampNeg < n then some (pc + 1, L, .int (f i.toNatClampNeg) :: st, h) else none
      | _ => none
      else none) = _
  rw [if_pos hi.1, hi.2]
  exact if_pos hx
theorem ev_zald {len aux a n : Nat} {f : Nat → Int32} {i : Int32} (hf : am_fetch z pc = some (.baload, len, aux)) (hi : am_is h a (.inl (1, n, .inl f))) (hx : ¬ i < 0 ∧ i.toNatClampNeg < n) (hq : pc + 1 = q) (k : am_ev d z (q, L, .int (f i.toNatClampNeg) :: st, h) r h') : am_ev d z (pc, L, .int i :: .ref a :: st, h) r h' := by
  subst hq
  refine ev_at (g := (pc + 1, L, .int (f i.toNatClampNeg) :: st, h)) hf rfl ?_ k
  show (if a < h.1 then match h.2.2 a with
      | .inl (1, n, .inl f) => if ¬ i < 0 ∧ i.toNatClampNeg < n then some (pc + 1, L, .int (f i.toNatClampNeg) :: st, h) else none
      | _ => none
      else none) = _
  rw [if_pos hi.1, hi.2]
  exact if_pos hx
theorem ev_aald {len aux a n t : Nat} {f : Nat → Option Nat} {i : Int32} (hf : am_fetch z pc = some (.aaload, len, aux)) (hi : am_is h a (.inl (t, n, .inr f))) (ht : 2 ≤ t ∧ t < 6) (hx : ¬ i < 0 ∧ i.toNatClampNeg < n) (hq : pc + 1 = q) (k : am_ev d z (q, L, va_rf (f i.toNatClampNeg) :: st, h) r h') : am_ev d z (pc, L, .int i :: .ref a :: st, h) r h' := by
  subst hq
  refine ev_at (g := (pc + 1, L, va_rf (f i.toNatClampNeg) :: st, h)) hf rfl ?_ k
  show (if a < h.1 then match h.2.2 a with
      | .inl (t, n, .inr f) => if (2 ≤ t ∧ t < 6) ∧ ¬ i < 0 ∧ i.toNatClampNeg < n then some (pc + 1, L, va_rf (f i.toNatClampNeg) :: st, h) else none
      | _ => none
      else none) = _
  rw [if_pos hi.1, hi.2]
  exact if_pos ⟨ht, hx⟩
theorem ev_iast {len aux a n : Nat} {f : Nat → Int32} {i x : Int32} (hf : am_fetch z pc = some (.iastore, len, aux)) (hi : am_is h a (.inl (0, n, .inl f))) (hx : ¬ i < 0 ∧ i.toNatClampNeg < n) (hq : pc + 1 = q) (k : am_ev d z (q, L, st, am_up h a (.inl (0, n, .inl (va_up f i.toNatClampNeg x)))) r h') : am_ev d z (pc, L, .int x :: .int i :: .ref a :: st, h) r h' := by
  subst hq
  refine ev_at (g := (pc + 1, L, st, am_up h a (.inl (0, n, .inl (va_up f i.toNatClampNeg x))))) hf rfl ?_ k
  show (if a < h.1 then match h.2.2 a with
      | .inl (0, n, .inl f) => if ¬ i < 0 ∧ i.toNatClampNeg < n then some (pc + 1, L, st, (h.1, h.2.1, va_up h.2.2 a (.inl (0, n, .inl (va_up f i.toNatClampNeg x))))) else none
      | _ => none
      else none) = _
  rw [if_pos hi.1, hi.2]
  exact if_pos hx
theorem ev_zast {len aux a n : Nat} {f : Nat → Int32} {i x : Int32} (hf : am_fetch z pc = some (.bastore, len, aux)) (hi : am_is h a (.inl (1, n, .inl f))) (hx : ¬ i < 0 ∧ i.toNatClampNeg < n) (hq : pc + 1 = q) (k : am_ev d z (q, L, st, am_up h a (.inl (1, n, .inl (va_up f i.toNatClampNeg (x &&& 1))))) r h') : am_ev d z (pc, L, .int x :: .int i :: .ref a :: st, h) r h' := by
  subst hq
  refine ev_at (g := (pc + 1, L, st, am_up h a (.inl (1, n, .inl (va_up f i.toNatClampNeg (x &&& 1)))))) hf rfl ?_ k
  show (if a < h.1 then match h.2.2 a with
      | .inl (1, n, .inl f) => if ¬ i < 0 ∧ i.toNatClampNeg < n then some (pc + 1, L, st, (h.1, h.2.1, va_up h.2.2 a (.inl (1, n, .inl (va_up f i.toNatClampNeg (x &&& 1)))))) else none
      | _ => none
      else none) = _
  rw [if_pos hi.1, hi.2]
  exact if_pos hx
theorem ev_aast {len aux a n t v ci : Nat} {vs : List Value} {f : Nat → Option Nat} {i : Int32} (hf : am_fetch z pc = some (.aastore, len, aux)) (hi : am_is h a (.inl (t, n, .inr f))) (hv : am_is h v (.inr (ci, vs))) (ht : (2 ≤ t ∧ t < 6) ∧ ci = am_ac t) (hx : ¬ i < 0 ∧ i.toNatClampNeg < n) (hq : pc + 1 = q) (k : am_ev d z (q, L, st, am_up h a (.inl (t, n, .inr (va_up f i.toNatClampNeg (some v))))) r h') : am_ev d z (pc, L, .ref v :: .int i :: .ref a :: st, h) r h' := by
  subst hq
  refine ev_at (g := (pc + 1, L, st, am_up h a (.inl (t, n, .inr (va_up f i.toNatClampNeg (some v)))))) hf rfl ?_ k
  show (if a < h.1 ∧ v < h.1 then match h.2.2 a, h.2.2 v with
      | .inl (t, n, .inr f), .inr (ci, _) => if (2 ≤ t ∧ t < 6) ∧ ci = am_ac t ∧ ¬ i < 0 ∧ i.toNatClampNeg < n then some (pc + 1, L, st, (h.1, h.2.1, va_up h.2.2 a (.inl (t, n, .inr (va_up f i.toNatClampNeg (some v)))))) else none
      | _, _ => none
      else none) = _
  rw [if_pos ⟨hi.1, hv.1⟩, hi.2, hv.2]
  exact if_pos ⟨ht.1, ht.2, hx⟩
theorem ev_alen {len aux a n t : Nat} {x : (Nat → Int32) ⊕ (Nat → Option Nat)} {v : Int32} (hf : am_fetch z pc = some (.arraylength, len, aux)) (hi : am_is h a (.inl (t, n, x))) (ht : t < 6) (hv : Int32.ofNat n = v) (hq : pc + 1 = q) (k : am_ev d z (q, L, .int v :: st, h) r h') : am_ev d z (pc, L, .ref a :: st, h) r h' := by
  subst hq; subst hv
  refine ev_at (g := (pc + 1, L, .int (Int32.ofNat n) :: st, h)) hf rfl ?_ k
  show (if a < h.1 then match h.2.2 a with
      | .inl (t, n, _) => if t < 6 then some (pc + 1, L, .int (Int32.ofNat n) :: st, h) else none
      | _ => none
      else none) = _
  rw [if_pos hi.1, hi.2]
  exact if_pos ht
theorem ev_new {n len aux ci N : Nat} {fs : List Value} (hf : am_fetch z pc = some (.new n, len, aux)) (hci : aux / 10000 = ci) (hN : (am_cl[ci]?).map (fun q => q.2.2) = some N) (hfs : am_df ci = fs) (hq : pc + 3 = q) (k : am_ev d z (q, L, .ref h.1 :: st, am_new h N (.inr (ci, fs))) r h') : am_ev d z (pc, L, st, h) r h' := by
  subst hq; subst hci; subst hfs
  refine ev_at (g := (pc + 3, L, .ref h.1 :: st, am_new h N (.inr (aux / 10000, am_df (aux / 10000))))) hf rfl ?_ k
  show (match am_cl[aux / 10000]? with
    | some (_, _, N) => (some (pc + 3, L, Value.ref h.1 :: st, (h.1 + 1, h.2.1 + N, va_up h.2.2 h.1 (Sum.inr (aux / 10000, am_df (aux / 10000))))) : Option am_G)
    | none => none) = _
  cases hc : am_cl[aux / 10000]? with
  | none => rw [hc] at hN; cases hN
  | some x =>
    rw [hc] at hN
    cases hN
    rfl
theorem ev_newa {len aux t N : Nat} {a : ClassFile.ArrayType} {n : Int32} (hf : am_fetch z pc = some (.newarray a, len, aux)) (ht : aux / 10000 = t) (hn : (¬ n < 0 ∧ n.toNatClampNeg ≤ 100000) ∧ n.toNatClampNeg = N) (hq : pc + 2 = q) (k : am_ev d z (q, L, .ref h.1 :: st, am_new h N (.inl (t, N, .inl (fun _ => 0)))) r h') : am_ev d z (pc, L, .int n :: st, h) r h' := by
  subst hq; subst ht
  obtain ⟨hn, hN⟩ := hn
  subst hN
  refine ev_at hf rfl ?_ k
  show (if ¬ n < 0 ∧ n.toNatClampNeg ≤ 100000 then some (pc + 2, L, .ref h.1 :: st, (h.1 + 1, h.2.1 + n.toNatClampNeg, va_up h.2.2 h.1 (.inl (aux / 10000, n.toNatClampNeg, .inl (fun _ => 0))))) else none) = _
  rw [if_pos hn]
  rfl
theorem ev_anew {len aux t N k0 : Nat} {n : Int32} (hf : am_fetch z pc = some (.anewarray k0, len, aux)) (ht : aux / 10000 = t) (hn : (¬ n < 0 ∧ n.toNatClampNeg ≤ 100000) ∧ n.toNatClampNeg = N) (hq : pc + 3 = q) (k : am_ev d z (q, L, .ref h.1 :: st, am_new h N (.inl (t, N, .inr (fun _ => none)))) r h') : am_ev d z (pc, L, .int n :: st, h) r h' := by
  subst hq; subst ht
  obtain ⟨hn, hN⟩ := hn
  subst hN
  refine ev_at hf rfl ?_ k
  show (if ¬ n < 0 ∧ n.toNatClampNeg ≤ 100000 then some (pc + 3, L, .ref h.1 :: st, (h.1 + 1, h.2.1 + n.toNatClampNeg, va_up h.2.2 h.1 (.inl (aux / 10000, n.toNatClampNeg, .inr (fun _ => none))))) else none) = _
  rw [if_pos hn]
  rfl
theorem ev_oinit {len aux k0 a : Nat} (hf : am_fetch z pc = some (.invokespecial k0, len, aux)) (h1000 : aux / 10000 = 1000) (hd : 0 < d) (hsum : (st.map fun v => v.category).sum ≤ 8) (hq : pc + 3 = q) (k : am_ev d z (q, L, st, h) r h') : am_ev d z (pc, L, .ref a :: st, h) r h' := by
  subst hq
  refine ev_at (g := (pc + 3, L, st, h)) hf (show (if aux / 10000 < am_count then 1 else 9) = 9 by rw [h1000]; rfl) ?_ k
  show (if aux / 10000 = 1000 ∧ 0 < d then (if (st.map fun v => v.category).sum ≤ 8 then some (pc + 3, L, st, h) else none) else none) = _
  rw [if_pos ⟨h1000, hd⟩, if_pos hsum]
theorem ev_copy {len aux k0 a a0 n0 n1 : Nat} {f g : Nat → Int32} {sp dp n : Int32} (hf : am_fetch z pc = some (.invokestatic k0, len, aux)) (h1001 : aux / 10000 = 1001) (hd : 0 < d) (hsum : (st.map fun v => v.category).sum ≤ 8) (hi0 : am_is h a0 (.inl (0, n0, .inl f))) (hi : am_is h a (.inl (0, n1, .inl g))) (hx : ¬ sp < 0 ∧ ¬ dp < 0 ∧ ¬ n < 0 ∧ sp.toNatClampNeg + n.toNatClampNeg ≤ n0 ∧ dp.toNatClampNeg + n.toNatClampNeg ≤ n1) (hq : pc + 3 = q)
    (k : am_ev d z (q, L, st, am_up h a (.inl (0, n1, .inl (va_cpy f g sp.toNatClampNeg dp.toNatClampNeg n.toNatClampNeg)))) r h') : am_ev d z (pc, L, .int n :: .int dp :: .ref a :: .int sp :: .ref a0 :: st, h) r h' := by
  subst hq
  refine ev_at hf (show (if aux / 10000 < am_count then 0 else 9) = 9 by rw [h1001]; rfl) ?_ k
  show (if aux / 10000 = 1001 ∧ 0 < d then (if a < h.1 ∧ a0 < h.1 ∧ (st.map fun v => v.category).sum ≤ 8 then match h.2.2 a0, h.2.2 a with
      | .inl (0, n0, .inl f), .inl (0, n1, .inl g) => if ¬ sp < 0 ∧ ¬ dp < 0 ∧ ¬ n < 0 ∧ sp.toNatClampNeg + n.toNatClampNeg ≤ n0 ∧ dp.toNatClampNeg + n.toNatClampNeg ≤ n1 then some (pc + 3, L, st, (h.1, h.2.1, va_up h.2.2 a (.inl (0, n1, .inl (va_cpy f g sp.toNatClampNeg dp.toNatClampNeg n.toNatClampNeg))))) else none
      | _, _ => none
      else none) else none) = _
  rw [if_pos ⟨h1001, hd⟩, if_pos ⟨hi.1, hi0.1, hsum⟩, hi0.2, hi.2]
  exact if_pos hx
theorem ev_div {len aux : Nat} {x y : Int32} (hf : am_fetch z pc = some (.idiv, len, aux)) (hy : ¬ y = 0) (hq : pc + 1 = q) (k : am_ev d z (q, L, .int (x / y) :: st, h) r h') : am_ev d z (pc, L, .int y :: .int x :: st, h) r h' := by
  subst hq
  exact ev_at (g := (pc + 1, L, .int (x / y) :: st, h)) hf rfl (show (if y = 0 then none else _) = _ from if_neg hy) k
theorem ev_rem {len aux : Nat} {x y : Int32} (hf : am_fetch z pc = some (.irem, len, aux)) (hy : ¬ y = 0) (hq : pc + 1 = q) (k : am_ev d z (q, L, .int (x - x / y * y) :: st, h) r h') : am_ev d z (pc, L, .int y :: .int x :: st, h) r h' := by
  subst hq
  exact ev_at (g := (pc + 1, L, .int (x - x / y * y) :: st, h)) hf rfl (show (if y = 0 then none else _) = _ from if_neg hy) k
theorem ev_icmp_eq {len aux t : Nat} {off : Int} {x y : Int32} (hf : am_fetch z pc = some (.if_icmp .eq off, len, aux)) (ht : am_tgt pc off = t) (hq : pc + 3 = q) (kt : x = y → am_ev d z (t, L, st, h) r h') (kf : ¬ x = y → am_ev d z (q, L, st, h) r h') : am_ev d z (pc, L, .int y :: .int x :: st, h) r h' := by
  subst ht; subst hq
  by_cases hc : x = y
  · exact ev_at (g := (am_tgt pc off, L, st, h)) hf rfl (congrArg (fun w => some (w, L, st, h)) (show am_if .eq pc (am_tgt pc off) x y = am_tgt pc off from if_pos hc)) (kt hc)
  · exact ev_at (g := (pc + 3, L, st, h)) hf rfl (congrArg (fun w => some (w, L, st, h)) (show am_if .eq pc (am_tgt pc off) x y = pc + 3 from if_neg hc)) (kf hc)
theorem ev_icmp_ne {len aux t : Nat} {off : Int} {x y : Int32} (hf : am_fetch z pc = some (.if_icmp .ne off, len, aux)) (ht : am_tgt pc off = t) (hq : pc + 3 = q) (kt : ¬ x = y → am_ev d z (t, L, st, h) r h') (kf : x = y → am_ev d z (q, L, st, h) r h') : am_ev d z (pc, L, .int y :: .int x :: st, h) r h' := by
  subst ht; subst hq
  by_cases hc : x = y
  · exact ev_at (g := (pc + 3, L, st, h)) hf rfl (congrArg (fun w => some (w, L, st, h)) (show am_if .ne pc (am_tgt pc off) x y = pc + 3 from if_pos hc)) (kf hc)
  · exact ev_at (g := (am_tgt pc off, L, st, h)) hf rfl (congrArg (fun w => some (w, L, st, h)) (show am_if .ne pc (am_tgt pc off) x y = am_tgt pc off from if_neg hc)) (kt hc)
theorem ev_icmp_lt {len aux t : Nat} {off : Int} {x y : Int32} (hf : am_fetch z pc = some (.if_icmp .lt off, len, aux)) (ht : am_tgt pc off = t) (hq : pc + 3 = q) (kt : x < y → am_ev d z (t, L, st, h) r h') (kf : ¬ x < y → am_ev d z (q, L, st, h) r h') : am_ev d z (pc, L, .int y :: .int x :: st, h) r h' := by
  subst ht; subst hq
  by_cases hc : x < y
  · exact ev_at (g := (am_tgt pc off, L, st, h)) hf rfl (congrArg (fun w => some (w, L, st, h)) (show am_if .lt pc (am_tgt pc off) x y = am_tgt pc off from if_pos hc)) (kt hc)
  · exact ev_at (g := (pc + 3, L, st, h)) hf rfl (congrArg (fun w => some (w, L, st, h)) (show am_if .lt pc (am_tgt pc off) x y = pc + 3 from if_neg hc)) (kf hc)
theorem ev_icmp_ge {len aux t : Nat} {off : Int} {x y : Int32} (hf : am_fetch z pc = some (.if_icmp .ge off, len, aux)) (ht : am_tgt pc off = t) (hq : pc + 3 = q) (kt : y ≤ x → am_ev d z (t, L, st, h) r h') (kf : ¬ y ≤ x → am_ev d z (q, L, st, h) r h') : am_ev d z (pc, L, .int y :: .int x :: st, h) r h' := by
  subst ht; subst hq
  by_cases hc : y ≤ x
  · exact ev_at (g := (am_tgt pc off, L, st, h)) hf rfl (congrArg (fun w => some (w, L, st, h)) (show am_if .ge pc (am_tgt pc off) x y = am_tgt pc off from if_pos hc)) (kt hc)
  · exact ev_at (g := (pc + 3, L, st, h)) hf rfl (congrArg (fun w => some (w, L, st, h)) (show am_if .ge pc (am_tgt pc off) x y = pc + 3 from if_neg hc)) (kf hc)
theorem ev_icmp_gt {len aux t : Nat} {off : Int} {x y : Int32} (hf : am_fetch z pc = some (.if_icmp .gt off, len, aux)) (ht : am_tgt pc off = t) (hq : pc + 3 = q) (kt : y < x → am_ev d z (t, L, st, h) r h') (kf : ¬ y < x → am_ev d z (q, L, st, h) r h') : am_ev d z (pc, L, .int y :: .int x :: st, h) r h' := by
  subst ht; subst hq
  by_cases hc : y < x
  · exact ev_at (g := (am_tgt pc off, L, st, h)) hf rfl (congrArg (fun w => some (w, L, st, h)) (show am_if .gt pc (am_tgt pc off) x y = am_tgt pc off from if_pos hc)) (kt hc)
  · exact ev_at (g := (pc + 3, L, st, h)) hf rfl (congrArg (fun w => some (w, L, st, h)) (show am_if .gt pc (am_tgt pc off) x y = pc + 3 from if_neg hc)) (kf hc)
theorem ev_icmp_le {len aux t : Nat} {off : Int} {x y : Int32} (hf : am_fetch z pc = some (.if_icmp .le off, len, aux)) (ht : am_tgt pc off = t) (hq : pc + 3 = q) (kt : x ≤ y → am_ev d z (t, L, st, h) r h') (kf : ¬ x ≤ y → am_ev d z (q, L, st, h) r h') : am_ev d z (pc, L, .int y :: .int x :: st, h) r h' := by
  subst ht; subst hq
  by_cases hc : x ≤ y
  · exact ev_at (g := (am_tgt pc off, L, st, h)) hf rfl (congrArg (fun w => some (w, L, st, h)) (show am_if .le pc (am_tgt pc off) x y = am_tgt pc off from if_pos hc)) (kt hc)
  · exact ev_at (g := (pc + 3, L, st, h)) hf rfl (congrArg (fun w => some (w, L, st, h)) (show am_if .le pc (am_tgt pc off) x y = pc + 3 from if_neg hc)) (kf hc)
theorem ev_if_eq {len aux t : Nat} {off : Int} {x : Int32} (hf : am_fetch z pc = some (.ifCond .eq off, len, aux)) (ht : am_tgt pc off = t) (hq : pc + 3 = q) (kt : x = 0 → am_ev d z (t, L, st, h) r h') (kf : ¬ x = 0 → am_ev d z (q, L, st, h) r h') : am_ev d z (pc, L, .int x :: st, h) r h' := by
  subst ht; subst hq
  by_cases hc : x = 0
  · exact ev_at (g := (am_tgt pc off, L, st, h)) hf rfl (congrArg (fun w => some (w, L, st, h)) (show am_if .eq pc (am_tgt pc off) x 0 = am_tgt pc off from if_pos hc)) (kt hc)
  · exact ev_at (g := (pc + 3, L, st, h)) hf rfl (congrArg (fun w => some (w, L, st, h)) (show am_if .eq pc (am_tgt pc off) x 0 = pc + 3 from if_neg hc)) (kf hc)
theorem ev_if_ne {len aux t : Nat} {off : Int} {x : Int32} (hf : am_fetch z pc = some (.ifCond .ne off, len, aux)) (ht : am_tgt pc off = t) (hq : pc + 3 = q) (kt : ¬ x = 0 → am_ev d z (t, L, st, h) r h') (kf : x = 0 → am_ev d z (q, L, st, h) r h') : am_ev d z (pc, L, .int x :: st, h) r h' := by
  subst ht; subst hq
  by_cases hc : x = 0
  · exact ev_at (g := (pc + 3, L, st, h)) hf rfl (congrArg (fun w => some (w, L, st, h)) (show am_if .ne pc (am_tgt pc off) x 0 = pc + 3 from if_pos hc)) (kf hc)
  · exact ev_at (g := (am_tgt pc off, L, st, h)) hf rfl (congrArg (fun w => some (w, L, st, h)) (show am_if .ne pc (am_tgt pc off) x 0 = am_tgt pc off from if_neg hc)) (kt hc)
theorem ev_if_lt {len aux t : Nat} {off : Int} {x : Int32} (hf : am_fetch z pc = some (.ifCond .lt off, len, aux)) (ht : am_tgt pc off = t) (hq : pc + 3 = q) (kt : x < 0 → am_ev d z (t, L, st, h) r h') (kf : ¬ x < 0 → am_ev d z (q, L, st, h) r h') : am_ev d z (pc, L, .int x :: st, h) r h' := by
  subst ht; subst hq
  by_cases hc : x < 0
  · exact ev_at (g := (am_tgt pc off, L, st, h)) hf rfl (congrArg (fun w => some (w, L, st, h)) (show am_if .lt pc (am_tgt pc off) x 0 = am_tgt pc off from if_pos hc)) (kt hc)
  · exact ev_at (g := (pc + 3, L, st, h)) hf rfl (congrArg (fun w => some (w, L, st, h)) (show am_if .lt pc (am_tgt pc off) x 0 = pc + 3 from if_neg hc)) (kf hc)
theorem ev_if_ge {len aux t : Nat} {off : Int} {x : Int32} (hf : am_fetch z pc = some (.ifCond .ge off, len, aux)) (ht : am_tgt pc off = t) (hq : pc + 3 = q) (kt : 0 ≤ x → am_ev d z (t, L, st, h) r h') (kf : ¬ 0 ≤ x → am_ev d z (q, L, st, h) r h') : am_ev d z (pc, L, .int x :: st, h) r h' := by
  subst ht; subst hq
  by_cases hc : 0 ≤ x
  · exact ev_at (g := (am_tgt pc off, L, st, h)) hf rfl (congrArg (fun w => some (w, L, st, h)) (show am_if .ge pc (am_tgt pc off) x 0 = am_tgt pc off from if_pos hc)) (kt hc)
  · exact ev_at (g := (pc + 3, L, st, h)) hf rfl (congrArg (fun w => some (w, L, st, h)) (show am_if .ge pc (am_tgt pc off) x 0 = pc + 3 from if_neg hc)) (kf hc)
theorem ev_if_gt {len aux t : Nat} {off : Int} {x : Int32} (hf : am_fetch z pc = some (.ifCond .gt off, len, aux)) (ht : am_tgt pc off = t) (hq : pc + 3 = q) (kt : 0 < x → am_ev d z (t, L, st, h) r h') (kf : ¬ 0 < x → am_ev d z (q, L, st, h) r h') : am_ev d z (pc, L, .int x :: st, h) r h' := by
  subst ht; subst hq
  by_cases hc : 0 < x
  · exact ev_at (g := (am_tgt pc off, L, st, h)) hf rfl (congrArg (fun w => some (w, L, st, h)) (show am_if .gt pc (am_tgt pc off) x 0 = am_tgt pc off from if_pos hc)) (kt hc)
  · exact ev_at (g := (pc + 3, L, st, h)) hf rfl (congrArg (fun w => some (w, L, st, h)) (show am_if .gt pc (am_tgt pc off) x 0 = pc + 3 from if_neg hc)) (kf hc)
theorem ev_if_le {len aux t : Nat} {off : Int} {x : Int32} (hf : am_fetch z pc = some (.ifCond .le off, len, aux)) (ht : am_tgt pc off = t) (hq : pc + 3 = q) (kt : x ≤ 0 → am_ev d z (t, L, st, h) r h') (kf : ¬ x ≤ 0 → am_ev d z (q, L, st, h) r h') : am_ev d z (pc, L, .int x :: st, h) r h' := by
  subst ht; subst hq
  by_cases hc : x ≤ 0
  · exact ev_at (g := (am_tgt pc off, L, st, h)) hf rfl (congrArg (fun w => some (w, L, st, h)) (show am_if .le pc (am_tgt pc off) x 0 = am_tgt pc off from if_pos hc)) (kt hc)
  · exact ev_at (g := (pc + 3, L, st, h)) hf rfl (congrArg (fun w => some (w, L, st, h)) (show am_if .le pc (am_tgt pc off) x 0 = pc + 3 from if_neg hc)) (kf hc)
theorem ev_iret {len aux : Nat} {x v : Int32} (hf : am_fetch z pc = some (.ireturn, len, aux)) (hk : (am_meth z).2.2.2.2.1 = 1) (hv : x = v) (hh : h = h') : am_ev d z (pc, L, [.int x], h) (some (.int v)) h' := by
  subst hv; subst hh
  exact ev_ret hf rfl (show (if (am_meth z).2.2.2.2.1 = 1 ∨ ((am_meth z).2.2.2.2.1 = 2 ∧ (x = 0 ∨ x = 1)) then _ else none) = _ from if_pos (Or.inl hk))
theorem ev_zret {len aux : Nat} {x v : Int32} (hf : am_fetch z pc = some (.ireturn, len, aux)) (hk : (am_meth z).2.2.2.2.1 = 2) (hb : x = 0 ∨ x = 1) (hv : x = v) (hh : h = h') : am_ev d z (pc, L, [.int x], h) (some (.int v)) h' := by
  subst hv; subst hh
  exact ev_ret hf rfl (show (if (am_meth z).2.2.2.2.1 = 1 ∨ ((am_meth z).2.2.2.2.1 = 2 ∧ (x = 0 ∨ x = 1)) then _ else none) = _ from if_pos (Or.inr ⟨hk, hb⟩))
theorem ev_lret {len aux : Nat} {x v : Int64} (hf : am_fetch z pc = some (.lreturn, len, aux)) (hk : (am_meth z).2.2.2.2.1 = 3) (hv : x = v) (hh : h = h') : am_ev d z (pc, L, [.long x], h) (some (.long v)) h' := by
  subst hv; subst hh
  exact ev_ret hf rfl (show (if (am_meth z).2.2.2.2.1 = 3 then _ else none) = _ from if_pos hk)
theorem ev_aret {len aux : Nat} {x v : Option Nat} (hf : am_fetch z pc = some (.areturn, len, aux)) (hk : (am_meth z).2.2.2.2.1 = 4) (hv : x = v) (hh : h = h') : am_ev d z (pc, L, [va_rf x], h) (some (va_rf v)) h' := by
  subst hv; subst hh
  cases x with
  | none => exact ev_ret hf rfl (show (if (am_meth z).2.2.2.2.1 = 4 then _ else none) = _ from if_pos hk)
  | some a => exact ev_ret hf rfl (show (if (am_meth z).2.2.2.2.1 = 4 then _ else none) = _ from if_pos hk)
theorem ev_vret {len aux : Nat} (hf : am_fetch z pc = some (.return_, len, aux)) (hk : (am_meth z).2.2.2.2.1 = 0) (hh : h = h') : am_ev d z (pc, L, [], h) none h' := by
  subst hh
  exact ev_ret hf rfl (show (if (am_meth z).2.2.2.2.1 = 0 then _ else none) = _ from if_pos hk)
theorem ev_ialdn {len aux a n k : Nat} {f : Nat → Int32} {i : Int32} (hf : am_fetch z pc = some (.iaload, len, aux)) (hi : am_is h a (.inl (0, n, .inl f))) (he : i = nI k) (hk : k < n) (hn : n ≤ 100000) (hq : pc + 1 = q) (kk : am_ev d z (q, L, .int (f k) :: st, h) r h') : am_ev d z (pc, L, .int i :: .ref a :: st, h) r h' := by
  subst he
  refine ev_iald hf hi ⟨nI_pos (by omega), by rw [nI_clamp (by omega)]; exact hk⟩ hq ?_
  rw [nI_clamp (by omega)]
  exact kk
theorem ev_zaldn {len aux a n k : Nat} {f : Nat → Int32} {i : Int32} (hf : am_fetch z pc = some (.baload, len, aux)) (hi : am_is h a (.inl (1, n, .inl f))) (he : i = nI k) (hk : k < n) (hn : n ≤ 100000) (hq : pc + 1 = q) (kk : am_ev d z (q, L, .int (f k) :: st, h) r h') : am_ev d z (pc, L, .int i :: .ref a :: st, h) r h' := by
  subst he
  refine ev_zald hf hi ⟨nI_pos (by omega), by rw [nI_clamp (by omega)]; exact hk⟩ hq ?_
  rw [nI_clamp (by omega)]
  exact kk
theorem ev_iastn {len aux a n k : Nat} {f : Nat → Int32} {i x : Int32} (hf : am_fetch z pc = some (.iastore, len, aux)) (hi : am_is h a (.inl (0, n, .inl f))) (he : i = nI k) (hk : k < n) (hn : n ≤ 100000) (hq : pc + 1 = q) (kk : am_ev d z (q, L, st, am_up h a (.inl (0, n, .inl (va_up f k x)))) r h') : am_ev d z (pc, L, .int x :: .int i :: .ref a :: st, h) r h' := by
  subst he
  refine ev_iast hf hi ⟨nI_pos (by omega), by rw [nI_clamp (by omega)]; exact hk⟩ hq ?_
  rw [nI_clamp (by omega)]
  exact kk
theorem ev_zastn {len aux a n k : Nat} {f : Nat → Int32} {i x : Int32} (hf : am_fetch z pc = some (.bastore, len, aux)) (hi : am_is h a (.inl (1, n, .inl f))) (he : i = nI k) (hk : k < n) (hn : n ≤ 100000) (hq : pc + 1 = q) (kk : am_ev d z (q, L, st, am_up h a (.inl (1, n, .inl (va_up f k (x &&& 1))))) r h') : am_ev d z (pc, L, .int x :: .int i :: .ref a :: st, h) r h' := by
  subst he
  refine ev_zast hf hi ⟨nI_pos (by omega), by rw [nI_clamp (by omega)]; exact hk⟩ hq ?_
  rw [nI_clamp (by omega)]
  exact kk
theorem ev_aaldn {len aux a n t k : Nat} {f : Nat → Option Nat} {i : Int32} (hf : am_fetch z pc = some (.aaload, len, aux)) (hi : am_is h a (.inl (t, n, .inr f))) (ht : 2 ≤ t ∧ t < 6) (he : i = nI k) (hk : k < n) (hn : n ≤ 100000) (hq : pc + 1 = q) (kk : am_ev d z (q, L, va_rf (f k) :: st, h) r h') : am_ev d z (pc, L, .int i :: .ref a :: st, h) r h' := by
  subst he
  refine ev_aald hf hi ht ⟨nI_pos (by omega), by rw [nI_clamp (by omega)]; exact hk⟩ hq ?_
  rw [nI_clamp (by omega)]
  exact kk
theorem ev_aastn {len aux a n t v ci k : Nat} {vs : List Value} {f : Nat → Option Nat} {i : Int32} (hf : am_fetch z pc = some (.aastore, len, aux)) (hi : am_is h a (.inl (t, n, .inr f))) (hv : am_is h v (.inr (ci, vs))) (ht : (2 ≤ t ∧ t < 6) ∧ ci = am_ac t) (he : i = nI k) (hk : k < n) (hn : n ≤ 100000) (hq : pc + 1 = q) (kk : am_ev d z (q, L, st, am_up h a (.inl (t, n, .inr (va_up f k (some v))))) r h') : am_ev d z (pc, L, .ref v :: .int i :: .ref a :: st, h) r h' := by
  subst he
  refine ev_aast hf hi hv ht ⟨nI_pos (by omega), by rw [nI_clamp (by omega)]; exact hk⟩ hq ?_
  rw [nI_clamp (by omega)]
  exact kk

theorem ev_divn {len aux a b : Nat} {x y : Int32} (hf : am_fetch z pc = some (.idiv, len, aux)) (hx : x = nI a) (hy : y = nI b) (h0 : 0 < b) (ha : a < 2 ^ 31) (hb : b < 2 ^ 31) (hq : pc + 1 = q) (k : am_ev d z (q, L, .int (nI (a / b)) :: st, h) r h') : am_ev d z (pc, L, .int y :: .int x :: st, h) r h' := by
  subst hx; subst hy
  refine ev_div hf (nI_ne0 h0 hb) hq ?_
  rw [pk_div ha h0 hb]
  exact k
theorem ev_remn {len aux a b : Nat} {x y : Int32} (hf : am_fetch z pc = some (.irem, len, aux)) (hx : x = nI a) (hy : y = nI b) (h0 : 0 < b) (ha : a < 2 ^ 31) (hb : b < 2 ^ 31) (hq : pc + 1 = q) (k : am_ev d z (q, L, .int (nI (a % b)) :: st, h) r h') : am_ev d z (pc, L, .int y :: .int x :: st, h) r h' := by
  subst hx; subst hy
  refine ev_rem hf (nI_ne0 h0 hb) hq ?_
  rw [pk_rem ha h0 hb]
  exact k
end EV
end
section
/-! small methods -/
def am_b (p : Prop) [Decidable p] : Int32 := if p then 1 else 0
theorem am_b0 {p : Prop} [Decidable p] : am_b p = 0 ↔ ¬ p := by
  unfold am_b
  by_cases h : p <;> simp [h]
theorem am_bn {p : Prop} [Decidable p] : ¬ am_b p = 0 ↔ p := by
  unfold am_b
  by_cases h : p <;> simp [h]
theorem am_b1 {p : Prop} [Decidable p] (h : p) : am_b p = 1 := if_pos h
theorem am_bz {p : Prop} [Decidable p] (h : ¬ p) : am_b p = 0 := if_neg h
theorem am_b01 {p : Prop} [Decidable p] : am_b p = 0 ∨ am_b p = 1 := by
  unfold am_b
  by_cases h : p <;> simp [h]

theorem k_within {d : Nat} {h : am_H} (v a b : Int32) : am_m d z_Desk_within [.int v, .int a, .int b] h (some (.int (am_b (a ≤ v ∧ v ≤ b)))) h := by
  refine ev_go 2 (q := 2) rfl ?_
  refine ev_icmp_lt (t := 14) (q := 5) rfl rfl rfl (fun zc1 => ?_) (fun zc1 => ?_)
  · refine ev_go 1 (q := 15) (st' := .int 0 :: _) rfl ?_
    exact ev_zret rfl rfl (by first | exact Or.inl rfl | exact Or.inr rfl | assumption) (by first | exact (am_bz (by simp only [Int32.lt_iff_toInt_lt, Int32.le_iff_toInt_le] at *; omega)).symm | exact (am_b1 (by simp only [Int32.lt_iff_toInt_lt, Int32.le_iff_toInt_le] at *; omega)).symm) (rfl)
  · refine ev_go 2 (q := 7) rfl ?_
    refine ev_icmp_gt (t := 14) (q := 10) rfl rfl rfl (fun zc2 => ?_) (fun zc2 => ?_)
    · refine ev_go 1 (q := 15) (st' := .int 0 :: _) rfl ?_
      exact ev_zret rfl rfl (by first | exact Or.inl rfl | exact Or.inr rfl | assumption) (by first | exact (am_bz (by simp only [Int32.lt_iff_toInt_lt, Int32.le_iff_toInt_le] at *; omega)).symm | exact (am_b1 (by simp only [Int32.lt_iff_toInt_lt, Int32.le_iff_toInt_le] at *; omega)).symm) (rfl)
    · refine ev_go 2 (q := 15) (st' := .int 1 :: _) rfl ?_
      exact ev_zret rfl rfl (by first | exact Or.inl rfl | exact Or.inr rfl | assumption) (by first | exact (am_bz (by simp only [Int32.lt_iff_toInt_lt, Int32.le_iff_toInt_le] at *; omega)).symm | exact (am_b1 (by simp only [Int32.lt_iff_toInt_lt, Int32.le_iff_toInt_le] at *; omega)).symm) (rfl)
theorem k_isWool {d : Nat} {h : am_H} (v : Int32) : am_m d z_Desk_isWool [.int v] h (some (.int (am_b (0 ≤ v ∧ v ≤ 9)))) h := by
  refine ev_go 1 (q := 1) rfl ?_
  refine ev_if_lt (t := 14) (q := 4) rfl rfl rfl (fun zc1 => ?_) (fun zc1 => ?_)
  · refine ev_go 1 (q := 15) (st' := .int 0 :: _) rfl ?_
    exact ev_zret rfl rfl (by first | exact Or.inl rfl | exact Or.inr rfl | assumption) (by first | exact (am_bz (by simp only [Int32.lt_iff_toInt_lt, Int32.le_iff_toInt_le] at *; omega)).symm | exact (am_b1 (by simp only [Int32.lt_iff_toInt_lt, Int32.le_iff_toInt_le] at *; omega)).symm) (rfl)
  · refine ev_go 2 (q := 7) (st' := .int 9 :: _ :: _) rfl ?_
    refine ev_icmp_gt (t := 14) (q := 10) rfl rfl rfl (fun zc2 => ?_) (fun zc2 => ?_)
    · refine ev_go 1 (q := 15) (st' := .int 0 :: _) rfl ?_
      exact ev_zret rfl rfl (by first | exact Or.inl rfl | exact Or.inr rfl | assumption) (by first | exact (am_bz (by simp only [Int32.lt_iff_toInt_lt, Int32.le_iff_toInt_le] at *; omega)).symm | exact (am_b1 (by simp only [Int32.lt_iff_toInt_lt, Int32.le_iff_toInt_le] at *; omega)).symm) (rfl)
    · refine ev_go 2 (q := 15) (st' := .int 1 :: _) rfl ?_
      exact ev_zret rfl rfl (by first | exact Or.inl rfl | exact Or.inr rfl | assumption) (by first | exact (am_bz (by simp only [Int32.lt_iff_toInt_lt, Int32.le_iff_toInt_le] at *; omega)).symm | exact (am_b1 (by simp only [Int32.lt_iff_toInt_lt, Int32.le_iff_toInt_le] at *; omega)).symm) (rfl)
theorem k_in {d : Nat} {h : am_H} (v a b : Int32) : am_m d z_Model_in [.int v, .int a, .int b] h (some (.int (am_b (a ≤ v ∧ v ≤ b)))) h := by
  refine ev_go 2 (q := 2) rfl ?_
  refine ev_icmp_lt (t := 14) (q := 5) rfl rfl rfl (fun zc1 => ?_) (fun zc1 => ?_)
  · refine ev_go 1 (q := 15) (st' := .int 0 :: _) rfl ?_
    exact ev_zret rfl rfl (by first | exact Or.inl rfl | exact Or.inr rfl | assumption) (by first | exact (am_bz (by simp only [Int32.lt_iff_toInt_lt, Int32.le_iff_toInt_le] at *; omega)).symm | exact (am_b1 (by simp only [Int32.lt_iff_toInt_lt, Int32.le_iff_toInt_le] at *; omega)).symm) (rfl)
  · refine ev_go 2 (q := 7) rfl ?_
    refine ev_icmp_gt (t := 14) (q := 10) rfl rfl rfl (fun zc2 => ?_) (fun zc2 => ?_)
    · refine ev_go 1 (q := 15) (st' := .int 0 :: _) rfl ?_
      exact ev_zret rfl rfl (by first | exact Or.inl rfl | exact Or.inr rfl | assumption) (by first | exact (am_bz (by simp only [Int32.lt_iff_toInt_lt, Int32.le_iff_toInt_le] at *; omega)).symm | exact (am_b1 (by simp only [Int32.lt_iff_toInt_lt, Int32.le_iff_toInt_le] at *; omega)).symm) (rfl)
    · refine ev_go 2 (q := 15) (st' := .int 1 :: _) rfl ?_
      exact ev_zret rfl rfl (by first | exact Or.inl rfl | exact Or.inr rfl | assumption) (by first | exact (am_bz (by simp only [Int32.lt_iff_toInt_lt, Int32.le_iff_toInt_le] at *; omega)).symm | exact (am_b1 (by simp only [Int32.lt_iff_toInt_lt, Int32.le_iff_toInt_le] at *; omega)).symm) (rfl)
abbrev am_cloth (rows cols use sh : Int32) (k : Nat) : am_C := .inr (0, [.int rows, .int cols, .int use, .int sh, .ref k])
abbrev am_ia (n : Nat) (f : Nat → Int32) : am_C := .inl (0, n, .inl f)
abbrev am_za (n : Nat) (f : Nat → Int32) : am_C := .inl (1, n, .inl f)
def sp_kn (rows cols r c : Int32) : Prop := (0 ≤ r ∧ r < rows) ∧ 0 ≤ c ∧ c < cols
theorem k_isKnot {d : Nat} {h : am_H} {a k : Nat} {rows cols use sh : Int32} (r c : Int32) (hc : am_is h a (am_cloth rows cols use sh k)) : am_m d z_Cloth_isKnot [.ref a, .int r, .int c] h (some (.int (am_b ((0 ≤ r ∧ r < rows) ∧ 0 ≤ c ∧ c < cols)))) h := by
  refine ev_go 1 (q := 1) rfl ?_
  refine ev_if_lt (t := 28) (q := 4) rfl rfl rfl (fun zc1 => ?_) (fun zc1 => ?_)
  · refine ev_go 1 (q := 29) (st' := .int 0 :: _) rfl ?_
    exact ev_zret rfl rfl (by first | exact Or.inl rfl | exact Or.inr rfl | assumption) (by first | exact (am_bz (by simp only [Int32.lt_iff_toInt_lt, Int32.le_iff_toInt_le] at *; omega)).symm | exact (am_b1 (by simp only [Int32.lt_iff_toInt_lt, Int32.le_iff_toInt_le] at *; omega)).symm) (rfl)
  · refine ev_go 2 (q := 6) rfl ?_
    refine ev_get (q := 9) rfl (by assumption) rfl rfl rfl ?_
    refine ev_icmp_ge (t := 28) (q := 12) rfl rfl rfl (fun zc2 => ?_) (fun zc2 => ?_)
    · refine ev_go 1 (q := 29) (st' := .int 0 :: _) rfl ?_
      exact ev_zret rfl rfl (by first | exact Or.inl rfl | exact Or.inr rfl | assumption) (by first | exact (am_bz (by simp only [Int32.lt_iff_toInt_lt, Int32.le_iff_toInt_le] at *; omega)).symm | exact (am_b1 (by simp only [Int32.lt_iff_toInt_lt, Int32.le_iff_toInt_le] at *; omega)).symm) (rfl)
    · refine ev_go 1 (q := 13) rfl ?_
      refine ev_if_lt (t := 28) (q := 16) rfl rfl rfl (fun zc3 => ?_) (fun zc3 => ?_)
      · refine ev_go 1 (q := 29) (st' := .int 0 :: _) rfl ?_
        exact ev_zret rfl rfl (by first | exact Or.inl rfl | exact Or.inr rfl | assumption) (by first | exact (am_bz (by simp only [Int32.lt_iff_toInt_lt, Int32.le_iff_toInt_le] at *; omega)).symm | exact (am_b1 (by simp only [Int32.lt_iff_toInt_lt, Int32.le_iff_toInt_le] at *; omega)).symm) (rfl)
      · refine ev_go 2 (q := 18) rfl ?_
        refine ev_get (q := 21) rfl (by assumption) rfl rfl rfl ?_
        refine ev_icmp_ge (t := 28) (q := 24) rfl rfl rfl (fun zc4 => ?_) (fun zc4 => ?_)
        · refine ev_go 1 (q := 29) (st' := .int 0 :: _) rfl ?_
          exact ev_zret rfl rfl (by first | exact Or.inl rfl | exact Or.inr rfl | assumption) (by first | exact (am_bz (by simp only [Int32.lt_iff_toInt_lt, Int32.le_iff_toInt_le] at *; omega)).symm | exact (am_b1 (by simp only [Int32.lt_iff_toInt_lt, Int32.le_iff_toInt_le] at *; omega)).symm) (rfl)
        · refine ev_go 2 (q := 29) (st' := .int 1 :: _) rfl ?_
          exact ev_zret rfl rfl (by first | exact Or.inl rfl | exact Or.inr rfl | assumption) (by first | exact (am_bz (by simp only [Int32.lt_iff_toInt_lt, Int32.le_iff_toInt_le] at *; omega)).symm | exact (am_b1 (by simp only [Int32.lt_iff_toInt_lt, Int32.le_iff_toInt_le] at *; omega)).symm) (rfl)
end
section
/-! the cloth of the class: what is read of it -/
theorem nI_s (k : Nat) : nI k + Int32.ofInt 1 = nI (k + 1) := nI_1 k
theorem nI_p {k : Nat} (h : 0 < k) : nI k + Int32.ofInt (-1) = nI (k - 1) := sb_m1 h
def cx (r c l : Nat) : Nat := (r * 10 + c) * 4 + l
theorem cx_lt {r c l : Nat} (hr : r < 10) (hc : c < 10) (hl : l < 4) : cx r c l < 400 := by unfold cx; omega
theorem cx_ix (r c l : Nat) : (nI r * 10 + nI c) * 4 + nI l = nI (cx r c l) := by
  rw [show (10 : Int32) = nI 10 from rfl, show (4 : Int32) = nI 4 from rfl, pk_mul, nI_add, pk_mul, nI_add]
  rfl
abbrev cl_kn (R C : Nat) (r c : Int32) : Prop := (0 ≤ r ∧ r < nI R) ∧ 0 ≤ c ∧ c < nI C
theorem kn_in {R C r c : Nat} (hR : R ≤ 10) (hC : C ≤ 10) (hr : r < R) (hc : c < C) : cl_kn R C (nI r) (nI c) := ⟨⟨nI_pos' (by omega), nI_lt hr (by omega)⟩, nI_pos' (by omega), nI_lt hc (by omega)⟩
theorem kn_of {R C : Nat} {r c : Int32} (hR : R ≤ 10) (hC : C ≤ 10) (h : cl_kn R C r c) : ∃ r' c' : Nat, r' < R ∧ c' < C ∧ r = nI r' ∧ c = nI c' := by
  obtain ⟨j, hj, rfl⟩ := nI_of (x := r) (by rw [Int32.not_lt]; exact h.1.1)
  obtain ⟨k, hk, rfl⟩ := nI_of (x := c) (by rw [Int32.not_lt]; exact h.2.1)
  exact ⟨j, k, (nI_ltI hj (by omega)).mp h.1.2, (nI_ltI hk (by omega)).mp h.2.2, rfl, rfl⟩
section CL
variable {d : Nat} {h : am_H} {a k R C : Nat} {use sh : Int32} {f : Nat → Int32}
theorem k_knT {r c : Nat} (hR : R ≤ 10) (hC : C ≤ 10) (hr : r < R) (hc : c < C) (hi : am_is h a (am_cloth (nI R) (nI C) use sh k)) : am_m d z_Cloth_isKnot [.ref a, .int (nI r), .int (nI c)] h (some (.int 1)) h := by
  rw [← am_b1 (kn_in hR hC hr hc)]
  exact k_isKnot _ _ hi
theorem k_knF {r c : Int32} (hn : ¬ cl_kn R C r c) (hi : am_is h a (am_cloth (nI R) (nI C) use sh k)) : am_m d z_Cloth_isKnot [.ref a, .int r, .int c] h (some (.int 0)) h := by
  rw [← am_bz hn]
  exact k_isKnot _ _ hi

theorem k_woolAt {r c l : Nat} (hR : R ≤ 10) (hC : C ≤ 10) (hr : r < R) (hc : c < C) (hl : l < 3) (hd : 0 < d) (hi : am_is h a (am_cloth (nI R) (nI C) use sh k)) (hk : am_is h k (am_ia 400 f)) : am_m d z_Cloth_woolAt [.ref a, .int (nI r), .int (nI c), .int (nI l)] h (some (.int (f (cx r c l)))) h := by
  refine ev_go 3 (q := 3) rfl ?_
  refine ev_virt (z' := z_Cloth_isKnot) (q := 6) rfl rfl (by decide) rfl (by simp [Value.category]) rfl (by omega) rfl rfl (by assumption) (k_knT hR hC hr hc (by assumption)) ?_
  refine ev_if_eq (t := 18) (q := 9) rfl rfl rfl (fun c => absurd c (by decide)) (fun zc1 => ?_)
  refine ev_go 1 (q := 10) rfl ?_
  refine ev_if_lt (t := 18) (q := 13) rfl rfl rfl (fun c => absurd c (nI_pos (by omega))) (fun zc2 => ?_)
  refine ev_go 2 (q := 15) (st' := .int 3 :: _ :: _) rfl ?_
  refine ev_icmp_lt (t := 20) (q := 18) rfl rfl rfl (fun zc3 => ?_) (fun c => absurd (nI_lt (b := 3) hl (by decide)) c)
  refine ev_go 1 (q := 21) rfl ?_
  refine ev_get (q := 24) rfl (by assumption) rfl rfl rfl ?_
  refine ev_go 9 (q := 34) (st' := .int ((((_ * 10) + _) * 4) + _) :: _ :: _) rfl ?_
  refine ev_ialdn (q := 35) rfl (by assumption) (cx_ix _ _ _) (cx_lt (by omega) (by omega) (by omega)) (by decide) rfl ?_
  exact ev_iret rfl rfl (rfl) (rfl)
theorem k_woolAt0 {r c l : Int32} (hn : ¬ cl_kn R C r c) (hd : 0 < d) (hi : am_is h a (am_cloth (nI R) (nI C) use sh k)) : am_m d z_Cloth_woolAt [.ref a, .int r, .int c, .int l] h (some (.int 0)) h := by
  refine ev_go 3 (q := 3) rfl ?_
  refine ev_virt (z' := z_Cloth_isKnot) (q := 6) rfl rfl (by decide) rfl (by simp [Value.category]) rfl (by omega) rfl rfl (by assumption) (k_knF hn (by assumption)) ?_
  refine ev_if_eq (t := 18) (q := 9) rfl rfl rfl (fun zc1 => ?_) (fun c => absurd rfl c)
  refine ev_go 1 (q := 19) (st' := .int 0 :: _) rfl ?_
  exact ev_iret rfl rfl (rfl) (rfl)
/-- a layer is shown -/
abbrev sp_on (sh l : Int32) : Prop := (sh >>> (l &&& 31)) &&& 1 = 1
/-- what is seen of the wools w of a knot -/
def sp_seen (sh : Int32) (w : Nat → Int32) : Int32 := if ¬ w 2 = 0 ∧ sp_on sh 2 then w 2 else if ¬ w 1 = 0 ∧ sp_on sh 1 then w 1 else if ¬ w 0 = 0 ∧ sp_on sh 0 then w 0 else 0

theorem k_seenAt {r c : Nat} (hR : R ≤ 10) (hC : C ≤ 10) (hr : r < R) (hc : c < C) (hd : 0 < d) (hi : am_is h a (am_cloth (nI R) (nI C) use sh k)) (hk : am_is h k (am_ia 400 f)) : am_m d z_Cloth_seenAt [.ref a, .int (nI r), .int (nI c)] h (some (.int (sp_seen sh (fun l => f (cx r c l))))) h := by
  refine ev_go 3 (q := 3) rfl ?_
  refine ev_virt (z' := z_Cloth_isKnot) (q := 6) rfl rfl (by decide) rfl (by simp [Value.category]) rfl (by omega) rfl rfl (by assumption) (k_knT hR hC hr hc (by assumption)) ?_
  refine ev_if_ne (t := 11) (q := 9) rfl rfl rfl (fun zc1 => ?_) (fun c => absurd c (by decide))
  refine ev_go 2 (q := 13) rfl ?_
  refine ev_go 1 (q := 14) (st' := .int (nI 2) :: _) rfl ?_
  refine ev_if_lt (t := 60) (q := 17) rfl rfl rfl (fun c => absurd c (by decide)) (fun _ => ?_)
  refine ev_go 1 (q := 18) rfl ?_
  refine ev_get (q := 21) rfl (by assumption) rfl rfl rfl ?_
  refine ev_go 9 (q := 31) (st' := .int ((nI r * 10 + nI c) * 4 + nI 2) :: _) rfl ?_
  refine ev_ialdn (q := 32) rfl (by assumption) (cx_ix _ _ _) (cx_lt (by omega) (by omega) (by omega)) (by decide) rfl ?_
  refine ev_go 2 (q := 36) rfl ?_
  refine ev_if_eq (t := 54) (q := 39) rfl rfl rfl (fun e2 => ?_) (fun e2 => ?_)
  · refine ev_go 2 (q := 13) rfl ?_
    refine ev_go 1 (q := 14) (st' := .int (nI 1) :: _) rfl ?_
    refine ev_if_lt (t := 60) (q := 17) rfl rfl rfl (fun c => absurd c (by decide)) (fun _ => ?_)
    refine ev_go 1 (q := 18) rfl ?_
    refine ev_get (q := 21) rfl (by assumption) rfl rfl rfl ?_
    refine ev_go 9 (q := 31) (st' := .int ((nI r * 10 + nI c) * 4 + nI 1) :: _) rfl ?_
    refine ev_ialdn (q := 32) rfl (by assumption) (cx_ix _ _ _) (cx_lt (by omega) (by omega) (by omega)) (by decide) rfl ?_
    refine ev_go 2 (q := 36) rfl ?_
    refine ev_if_eq (t := 54) (q := 39) rfl rfl rfl (fun e1 => ?_) (fun e1 => ?_)
    · refine ev_go 2 (q := 13) rfl ?_
      refine ev_go 1 (q := 14) (st' := .int (nI 0) :: _) rfl ?_
      refine ev_if_lt (t := 60) (q := 17) rfl rfl rfl (fun c => absurd c (by decide)) (fun _ => ?_)
      refine ev_go 1 (q := 18) rfl ?_
      refine ev_get (q := 21) rfl (by assumption) rfl rfl rfl ?_
      refine ev_go 9 (q := 31) (st' := .int ((nI r * 10 + nI c) * 4 + nI 0) :: _) rfl ?_
      refine ev_ialdn (q := 32) rfl (by assumption) (cx_ix _ _ _) (cx_lt (by omega) (by omega) (by omega)) (by decide) rfl ?_
      refine ev_go 2 (q := 36) rfl ?_
      refine ev_if_eq (t := 54) (q := 39) rfl rfl rfl (fun e0 => ?_) (fun e0 => ?_)
      · refine ev_go 3 (q := 14) (st' := .int (-1) :: _) rfl ?_
        refine ev_if_lt (t := 60) (q := 17) rfl rfl rfl (fun _ => ?_) (fun c => absurd (by decide) c)
        refine ev_go 1 (q := 61) (st' := .int 0 :: _) rfl ?_
        exact ev_iret rfl rfl (by unfold sp_seen; dsimp only; repeat (first | rfl | rw [if_pos ⟨by assumption, by assumption⟩] | rw [if_neg (fun q => absurd (by assumption) q.1)] | rw [if_neg (fun q => absurd q.2 (by assumption))])) rfl
      · refine ev_go 1 (q := 40) rfl ?_
        refine ev_get (q := 43) rfl (by assumption) rfl rfl rfl ?_
        refine ev_go 5 (q := 48) (st' := .int 1 :: .int ((sh >>> (0 &&& 31)) &&& 1) :: _) rfl ?_
        refine ev_icmp_ne (t := 54) (q := 51) rfl rfl rfl (fun o0 => ?_) (fun o0 => ?_)
        · refine ev_go 3 (q := 14) (st' := .int (-1) :: _) rfl ?_
          refine ev_if_lt (t := 60) (q := 17) rfl rfl rfl (fun _ => ?_) (fun c => absurd (by decide) c)
          refine ev_go 1 (q := 61) (st' := .int 0 :: _) rfl ?_
          exact ev_iret rfl rfl (by unfold sp_seen; dsimp only; repeat (first | rfl | rw [if_pos ⟨by assumption, by assumption⟩] | rw [if_neg (fun q => absurd (by assumption) q.1)] | rw [if_neg (fun q => absurd q.2 (by assumption))])) rfl
        · refine ev_go 1 (q := 53) rfl ?_
          exact ev_iret rfl rfl (by unfold sp_seen; dsimp only; repeat (first | rfl | rw [if_pos ⟨by assumption, by assumption⟩] | rw [if_neg (fun q => absurd (by assumption) q.1)] | rw [if_neg (fun q => absurd q.2 (by assumption))])) rfl
    · refine ev_go 1 (q := 40) rfl ?_
      refine ev_get (q := 43) rfl (by assumption) rfl rfl rfl ?_
      refine ev_go 5 (q := 48) (st' := .int 1 :: .int ((sh >>> (1 &&& 31)) &&& 1) :: _) rfl ?_
      refine ev_icmp_ne (t := 54) (q := 51) rfl rfl rfl (fun o1 => ?_) (fun o1 => ?_)
      · refine ev_go 2 (q := 13) rfl ?_
        refine ev_go 1 (q := 14) (st' := .int (nI 0) :: _) rfl ?_
        refine ev_if_lt (t := 60) (q := 17) rfl rfl rfl (fun c => absurd c (by decide)) (fun _ => ?_)
        refine ev_go 1 (q := 18) rfl ?_
        refine ev_get (q := 21) rfl (by assumption) rfl rfl rfl ?_
        refine ev_go 9 (q := 31) (st' := .int ((nI r * 10 + nI c) * 4 + nI 0) :: _) rfl ?_
        refine ev_ialdn (q := 32) rfl (by assumption) (cx_ix _ _ _) (cx_lt (by omega) (by omega) (by omega)) (by decide) rfl ?_
        refine ev_go 2 (q := 36) rfl ?_
        refine ev_if_eq (t := 54) (q := 39) rfl rfl rfl (fun e0 => ?_) (fun e0 => ?_)
        · refine ev_go 3 (q := 14) (st' := .int (-1) :: _) rfl ?_
          refine ev_if_lt (t := 60) (q := 17) rfl rfl rfl (fun _ => ?_) (fun c => absurd (by decide) c)
          refine ev_go 1 (q := 61) (st' := .int 0 :: _) rfl ?_
          exact ev_iret rfl rfl (by unfold sp_seen; dsimp only; repeat (first | rfl | rw [if_pos ⟨by assumption, by assumption⟩] | rw [if_neg (fun q => absurd (by assumption) q.1)] | rw [if_neg (fun q => absurd q.2 (by assumption))])) rfl
        · refine ev_go 1 (q := 40) rfl ?_
          refine ev_get (q := 43) rfl (by assumption) rfl rfl rfl ?_
          refine ev_go 5 (q := 48) (st' := .int 1 :: .int ((sh >>> (0 &&& 31)) &&& 1) :: _) rfl ?_
          refine ev_icmp_ne (t := 54) (q := 51) rfl rfl rfl (fun o0 => ?_) (fun o0 => ?_)
          · refine ev_go 3 (q := 14) (st' := .int (-1) :: _) rfl ?_
            refine ev_if_lt (t := 60) (q := 17) rfl rfl rfl (fun _ => ?_) (fun c => absurd (by decide) c)
            refine ev_go 1 (q := 61) (st' := .int 0 :: _) rfl ?_
            exact ev_iret rfl rfl (by unfold sp_seen; dsimp only; repeat (first | rfl | rw [if_pos ⟨by assumption, by assumption⟩] | rw [if_neg (fun q => absurd (by assumption) q.1)] | rw [if_neg (fun q => absurd q.2 (by assumption))])) rfl
          · refine ev_go 1 (q := 53) rfl ?_
            exact ev_iret rfl rfl (by unfold sp_seen; dsimp only; repeat (first | rfl | rw [if_pos ⟨by assumption, by assumption⟩] | rw [if_neg (fun q => absurd (by assumption) q.1)] | rw [if_neg (fun q => absurd q.2 (by assumption))])) rfl
      · refine ev_go 1 (q := 53) rfl ?_
        exact ev_iret rfl rfl (by unfold sp_seen; dsimp only; repeat (first | rfl | rw [if_pos ⟨by assumption, by assumption⟩] | rw [if_neg (fun q => absurd (by assumption) q.1)] | rw [if_neg (fun q => absurd q.2 (by assumption))])) rfl
  · refine ev_go 1 (q := 40) rfl ?_
    refine ev_get (q := 43) rfl (by assumption) rfl rfl rfl ?_
    refine ev_go 5 (q := 48) (st' := .int 1 :: .int ((sh >>> (2 &&& 31)) &&& 1) :: _) rfl ?_
    refine ev_icmp_ne (t := 54) (q := 51) rfl rfl rfl (fun o2 => ?_) (fun o2 => ?_)
    · refine ev_go 2 (q := 13) rfl ?_
      refine ev_go 1 (q := 14) (st' := .int (nI 1) :: _) rfl ?_
      refine ev_if_lt (t := 60) (q := 17) rfl rfl rfl (fun c => absurd c (by decide)) (fun _ => ?_)
      refine ev_go 1 (q := 18) rfl ?_
      refine ev_get (q := 21) rfl (by assumption) rfl rfl rfl ?_
      refine ev_go 9 (q := 31) (st' := .int ((nI r * 10 + nI c) * 4 + nI 1) :: _) rfl ?_
      refine ev_ialdn (q := 32) rfl (by assumption) (cx_ix _ _ _) (cx_lt (by omega) (by omega) (by omega)) (by decide) rfl ?_
      refine ev_go 2 (q := 36) rfl ?_
      refine ev_if_eq (t := 54) (q := 39) rfl rfl rfl (fun e1 => ?_) (fun e1 => ?_)
      · refine ev_go 2 (q := 13) rfl ?_
        refine ev_go 1 (q := 14) (st' := .int (nI 0) :: _) rfl ?_
        refine ev_if_lt (t := 60) (q := 17) rfl rfl rfl (fun c => absurd c (by decide)) (fun _ => ?_)
        refine ev_go 1 (q := 18) rfl ?_
        refine ev_get (q := 21) rfl (by assumption) rfl rfl rfl ?_
        refine ev_go 9 (q := 31) (st' := .int ((nI r * 10 + nI c) * 4 + nI 0) :: _) rfl ?_
        refine ev_ialdn (q := 32) rfl (by assumption) (cx_ix _ _ _) (cx_lt (by omega) (by omega) (by omega)) (by decide) rfl ?_
        refine ev_go 2 (q := 36) rfl ?_
        refine ev_if_eq (t := 54) (q := 39) rfl rfl rfl (fun e0 => ?_) (fun e0 => ?_)
        · refine ev_go 3 (q := 14) (st' := .int (-1) :: _) rfl ?_
          refine ev_if_lt (t := 60) (q := 17) rfl rfl rfl (fun _ => ?_) (fun c => absurd (by decide) c)
          refine ev_go 1 (q := 61) (st' := .int 0 :: _) rfl ?_
          exact ev_iret rfl rfl (by unfold sp_seen; dsimp only; repeat (first | rfl | rw [if_pos ⟨by assumption, by assumption⟩] | rw [if_neg (fun q => absurd (by assumption) q.1)] | rw [if_neg (fun q => absurd q.2 (by assumption))])) rfl
        · refine ev_go 1 (q := 40) rfl ?_
          refine ev_get (q := 43) rfl (by assumption) rfl rfl rfl ?_
          refine ev_go 5 (q := 48) (st' := .int 1 :: .int ((sh >>> (0 &&& 31)) &&& 1) :: _) rfl ?_
          refine ev_icmp_ne (t := 54) (q := 51) rfl rfl rfl (fun o0 => ?_) (fun o0 => ?_)
          · refine ev_go 3 (q := 14) (st' := .int (-1) :: _) rfl ?_
            refine ev_if_lt (t := 60) (q := 17) rfl rfl rfl (fun _ => ?_) (fun c => absurd (by decide) c)
            refine ev_go 1 (q := 61) (st' := .int 0 :: _) rfl ?_
            exact ev_iret rfl rfl (by unfold sp_seen; dsimp only; repeat (first | rfl | rw [if_pos ⟨by assumption, by assumption⟩] | rw [if_neg (fun q => absurd (by assumption) q.1)] | rw [if_neg (fun q => absurd q.2 (by assumption))])) rfl
          · refine ev_go 1 (q := 53) rfl ?_
            exact ev_iret rfl rfl (by unfold sp_seen; dsimp only; repeat (first | rfl | rw [if_pos ⟨by assumption, by assumption⟩] | rw [if_neg (fun q => absurd (by assumption) q.1)] | rw [if_neg (fun q => absurd q.2 (by assumption))])) rfl
      · refine ev_go 1 (q := 40) rfl ?_
        refine ev_get (q := 43) rfl (by assumption) rfl rfl rfl ?_
        refine ev_go 5 (q := 48) (st' := .int 1 :: .int ((sh >>> (1 &&& 31)) &&& 1) :: _) rfl ?_
        refine ev_icmp_ne (t := 54) (q := 51) rfl rfl rfl (fun o1 => ?_) (fun o1 => ?_)
        · refine ev_go 2 (q := 13) rfl ?_
          refine ev_go 1 (q := 14) (st' := .int (nI 0) :: _) rfl ?_
          refine ev_if_lt (t := 60) (q := 17) rfl rfl rfl (fun c => absurd c (by decide)) (fun _ => ?_)
          refine ev_go 1 (q := 18) rfl ?_
          refine ev_get (q := 21) rfl (by assumption) rfl rfl rfl ?_
          refine ev_go 9 (q := 31) (st' := .int ((nI r * 10 + nI c) * 4 + nI 0) :: _) rfl ?_
          refine ev_ialdn (q := 32) rfl (by assumption) (cx_ix _ _ _) (cx_lt (by omega) (by omega) (by omega)) (by decide) rfl ?_
          refine ev_go 2 (q := 36) rfl ?_
          refine ev_if_eq (t := 54) (q := 39) rfl rfl rfl (fun e0 => ?_) (fun e0 => ?_)
          · refine ev_go 3 (q := 14) (st' := .int (-1) :: _) rfl ?_
            refine ev_if_lt (t := 60) (q := 17) rfl rfl rfl (fun _ => ?_) (fun c => absurd (by decide) c)
            refine ev_go 1 (q := 61) (st' := .int 0 :: _) rfl ?_
            exact ev_iret rfl rfl (by unfold sp_seen; dsimp only; repeat (first | rfl | rw [if_pos ⟨by assumption, by assumption⟩] | rw [if_neg (fun q => absurd (by assumption) q.1)] | rw [if_neg (fun q => absurd q.2 (by assumption))])) rfl
          · refine ev_go 1 (q := 40) rfl ?_
            refine ev_get (q := 43) rfl (by assumption) rfl rfl rfl ?_
            refine ev_go 5 (q := 48) (st' := .int 1 :: .int ((sh >>> (0 &&& 31)) &&& 1) :: _) rfl ?_
            refine ev_icmp_ne (t := 54) (q := 51) rfl rfl rfl (fun o0 => ?_) (fun o0 => ?_)
            · refine ev_go 3 (q := 14) (st' := .int (-1) :: _) rfl ?_
              refine ev_if_lt (t := 60) (q := 17) rfl rfl rfl (fun _ => ?_) (fun c => absurd (by decide) c)
              refine ev_go 1 (q := 61) (st' := .int 0 :: _) rfl ?_
              exact ev_iret rfl rfl (by unfold sp_seen; dsimp only; repeat (first | rfl | rw [if_pos ⟨by assumption, by assumption⟩] | rw [if_neg (fun q => absurd (by assumption) q.1)] | rw [if_neg (fun q => absurd q.2 (by assumption))])) rfl
            · refine ev_go 1 (q := 53) rfl ?_
              exact ev_iret rfl rfl (by unfold sp_seen; dsimp only; repeat (first | rfl | rw [if_pos ⟨by assumption, by assumption⟩] | rw [if_neg (fun q => absurd (by assumption) q.1)] | rw [if_neg (fun q => absurd q.2 (by assumption))])) rfl
        · refine ev_go 1 (q := 53) rfl ?_
          exact ev_iret rfl rfl (by unfold sp_seen; dsimp only; repeat (first | rfl | rw [if_pos ⟨by assumption, by assumption⟩] | rw [if_neg (fun q => absurd (by assumption) q.1)] | rw [if_neg (fun q => absurd q.2 (by assumption))])) rfl
    · refine ev_go 1 (q := 53) rfl ?_
      exact ev_iret rfl rfl (by unfold sp_seen; dsimp only; repeat (first | rfl | rw [if_pos ⟨by assumption, by assumption⟩] | rw [if_neg (fun q => absurd (by assumption) q.1)] | rw [if_neg (fun q => absurd q.2 (by assumption))])) rfl
theorem k_seenAt0 {r c : Int32} (hn : ¬ cl_kn R C r c) (hd : 0 < d) (hi : am_is h a (am_cloth (nI R) (nI C) use sh k)) : am_m d z_Cloth_seenAt [.ref a, .int r, .int c] h (some (.int 0)) h := by
  refine ev_go 3 (q := 3) rfl ?_
  refine ev_virt (z' := z_Cloth_isKnot) (q := 6) rfl rfl (by decide) rfl (by simp [Value.category]) rfl (by omega) rfl rfl (by assumption) (k_knF hn (by assumption)) ?_
  refine ev_if_ne (t := 11) (q := 9) rfl rfl rfl (fun c => absurd rfl c) (fun zc1 => ?_)
  refine ev_go 1 (q := 10) (st' := .int 0 :: _) rfl ?_
  exact ev_iret rfl rfl (rfl) (rfl)
theorem k_isChosen {r c : Nat} (hR : R ≤ 10) (hC : C ≤ 10) (hr : r < R) (hc : c < C) (hd : 0 < d) (hi : am_is h a (am_cloth (nI R) (nI C) use sh k)) (hk : am_is h k (am_ia 400 f)) : am_m d z_Cloth_isChosen [.ref a, .int (nI r), .int (nI c)] h (some (.int (am_b (f (cx r c 3) = 1)))) h := by
  refine ev_go 3 (q := 3) rfl ?_
  refine ev_virt (z' := z_Cloth_isKnot) (q := 6) rfl rfl (by decide) rfl (by simp [Value.category]) rfl (by omega) rfl rfl (by assumption) (k_knT hR hC hr hc (by assumption)) ?_
  refine ev_if_eq (t := 32) (q := 9) rfl rfl rfl (fun c => absurd c (by decide)) (fun zc1 => ?_)
  refine ev_go 1 (q := 10) rfl ?_
  refine ev_get (q := 13) rfl (by assumption) rfl rfl rfl ?_
  refine ev_go 9 (q := 23) (st' := .int ((((_ * 10) + _) * 4) + 3) :: _ :: _) rfl ?_
  refine ev_ialdn (q := 24) rfl (by assumption) (cx_ix _ _ 3) (cx_lt (by omega) (by omega) (by omega)) (by decide) rfl ?_
  refine ev_go 1 (q := 25) (st' := .int 1 :: _ :: _) rfl ?_
  refine ev_icmp_ne (t := 32) (q := 28) rfl rfl rfl (fun zc2 => ?_) (fun zc2 => ?_)
  · refine ev_go 1 (q := 33) (st' := .int 0 :: _) rfl ?_
    exact ev_zret rfl rfl (by first | exact Or.inl rfl | exact Or.inr rfl | assumption) (by first | exact (am_bz (by assumption)).symm | exact (am_b1 (by assumption)).symm) (rfl)
  · refine ev_go 2 (q := 33) (st' := .int 1 :: _) rfl ?_
    exact ev_zret rfl rfl (by first | exact Or.inl rfl | exact Or.inr rfl | assumption) (by first | exact (am_bz (by assumption)).symm | exact (am_b1 (by assumption)).symm) (rfl)
theorem k_isChosen0 {r c : Int32} (hn : ¬ cl_kn R C r c) (hd : 0 < d) (hi : am_is h a (am_cloth (nI R) (nI C) use sh k)) : am_m d z_Cloth_isChosen [.ref a, .int r, .int c] h (some (.int 0)) h := by
  refine ev_go 3 (q := 3) rfl ?_
  refine ev_virt (z' := z_Cloth_isKnot) (q := 6) rfl rfl (by decide) rfl (by simp [Value.category]) rfl (by omega) rfl rfl (by assumption) (k_knF hn (by assumption)) ?_
  refine ev_if_eq (t := 32) (q := 9) rfl rfl rfl (fun zc1 => ?_) (fun c => absurd rfl c)
  refine ev_go 1 (q := 33) (st' := .int 0 :: _) rfl ?_
  exact ev_zret rfl rfl (by first | exact Or.inl rfl | exact Or.inr rfl | assumption) (rfl) (rfl)
theorem k_choose {r c : Nat} {b : Int32} (hR : R ≤ 10) (hC : C ≤ 10) (hr : r < R) (hc : c < C) (hd : 0 < d) (hi : am_is h a (am_cloth (nI R) (nI C) use sh k)) (hk : am_is h k (am_ia 400 f)) : am_m d z_Cloth_choose [.ref a, .int (nI r), .int (nI c), .int b] h none (am_up h k (am_ia 400 (va_up f (cx r c 3) (am_b (¬ b = 0))))) := by
  refine ev_go 3 (q := 3) rfl ?_
  refine ev_virt (z' := z_Cloth_isKnot) (q := 6) rfl rfl (by decide) rfl (by simp [Value.category]) rfl (by omega) rfl rfl (by assumption) (k_knT hR hC hr hc (by assumption)) ?_
  refine ev_if_eq (t := 33) (q := 9) rfl rfl rfl (fun c => absurd c (by decide)) (fun zc1 => ?_)
  refine ev_go 1 (q := 10) rfl ?_
  refine ev_get (q := 13) rfl (by assumption) rfl rfl rfl ?_
  refine ev_go 10 (q := 24) (st' := _ :: .int ((((_ * 10) + _) * 4) + 3) :: _ :: _) rfl ?_
  refine ev_if_eq (t := 31) (q := 27) rfl rfl rfl (fun zc2 => ?_) (fun zc2 => ?_)
  · refine ev_go 1 (q := 32) (st' := .int 0 :: _ :: _ :: _) rfl ?_
    refine ev_iastn (q := 33) rfl (by assumption) (cx_ix _ _ 3) (cx_lt (by omega) (by omega) (by omega)) (by decide) rfl ?_
    exact ev_vret rfl rfl (by by_cases q : b = 0 <;> simp_all [am_b])
  · refine ev_go 2 (q := 32) (st' := .int 1 :: _ :: _ :: _) rfl ?_
    refine ev_iastn (q := 33) rfl (by assumption) (cx_ix _ _ 3) (cx_lt (by omega) (by omega) (by omega)) (by decide) rfl ?_
    exact ev_vret rfl rfl (by by_cases q : b = 0 <;> simp_all [am_b])
/-- what painting a knot does to the cells -/
def sp_paint (R C u : Nat) (f : Nat → Int32) (r c : Int32) (w : Int32) : Nat → Int32 := if cl_kn R C r c ∧ f (cx r.toNatClampNeg c.toNatClampNeg 3) = 1 then va_up f (cx r.toNatClampNeg c.toNatClampNeg u) w else f

theorem k_paintN {r c u : Nat} {x : Int32} (hR : R ≤ 10) (hC : C ≤ 10) (hr : r < R) (hc : c < C) (hu : u < 3) (hd : 0 < d) (hi : am_is h a (am_cloth (nI R) (nI C) (nI u) sh k)) (hk : am_is h k (am_ia 400 f)) : am_m d z_Cloth_paint [.ref a, .int (nI r), .int (nI c), .int x] h none (if f (cx r c 3) = 1 then am_up h k (am_ia 400 (va_up f (cx r c u) x)) else h) := by
  refine ev_go 3 (q := 3) rfl ?_
  refine ev_virt (z' := z_Cloth_isKnot) (q := 6) rfl rfl (by decide) rfl (by simp [Value.category]) rfl (by omega) rfl rfl (by assumption) (k_knT hR hC hr hc (by assumption)) ?_
  refine ev_if_eq (t := 24) (q := 9) rfl rfl rfl (fun c => absurd c (by decide)) (fun zc1 => ?_)
  refine ev_go 1 (q := 10) rfl ?_
  refine ev_get (q := 13) rfl (by assumption) rfl rfl rfl ?_
  refine ev_if_lt (t := 24) (q := 16) rfl rfl rfl (fun c => absurd c (nI_pos (by omega))) (fun zc2 => ?_)
  refine ev_go 1 (q := 17) rfl ?_
  refine ev_get (q := 20) rfl (by assumption) rfl rfl rfl ?_
  refine ev_go 1 (q := 21) (st' := .int 3 :: _ :: _) rfl ?_
  refine ev_icmp_lt (t := 25) (q := 24) rfl rfl rfl (fun zc3 => ?_) (fun c => absurd (nI_lt (b := 3) hu (by decide)) c)
  refine ev_go 9 (q := 36) rfl ?_
  refine ev_get (q := 39) rfl (by assumption) rfl rfl rfl ?_
  refine ev_go 3 (q := 43) (st' := .int (_ + 3) :: _ :: _) rfl ?_
  refine ev_ialdn (q := 44) rfl (by assumption) (cx_ix _ _ 3) (cx_lt (by omega) (by omega) (by omega)) (by decide) rfl ?_
  refine ev_go 1 (q := 45) (st' := .int 1 :: _ :: _) rfl ?_
  refine ev_icmp_ne (t := 61) (q := 48) rfl rfl rfl (fun zc4 => ?_) (fun zc4 => ?_)
  · exact ev_vret rfl rfl (by first | exact (if_pos (by assumption)).symm | exact (if_neg (by assumption)).symm)
  · refine ev_go 1 (q := 49) rfl ?_
    refine ev_get (q := 52) rfl (by assumption) rfl rfl rfl ?_
    refine ev_go 2 (q := 55) rfl ?_
    refine ev_get (q := 58) rfl (by assumption) rfl rfl rfl ?_
    refine ev_go 2 (q := 60) rfl ?_
    refine ev_iastn (q := 61) rfl (by assumption) (cx_ix _ _ _) (cx_lt (by omega) (by omega) (by omega)) (by decide) rfl ?_
    exact ev_vret rfl rfl (by first | exact (if_pos (by assumption)).symm | exact (if_neg (by assumption)).symm)
theorem k_paint0 {r c x : Int32} (hn : ¬ cl_kn R C r c) (hd : 0 < d) (hi : am_is h a (am_cloth (nI R) (nI C) use sh k)) : am_m d z_Cloth_paint [.ref a, .int r, .int c, .int x] h none h := by
  refine ev_go 3 (q := 3) rfl ?_
  refine ev_virt (z' := z_Cloth_isKnot) (q := 6) rfl rfl (by decide) rfl (by simp [Value.category]) rfl (by omega) rfl rfl (by assumption) (k_knF hn (by assumption)) ?_
  refine ev_if_eq (t := 24) (q := 9) rfl rfl rfl (fun zc1 => ?_) (fun c => absurd rfl c)
  exact ev_vret rfl rfl (rfl)
theorem k_paint {r c x : Int32} {u : Nat} (hR : R ≤ 10) (hC : C ≤ 10) (hu : u < 3) (hd : 0 < d) (hi : am_is h a (am_cloth (nI R) (nI C) (nI u) sh k)) (hk : am_is h k (am_ia 400 f)) : am_m d z_Cloth_paint [.ref a, .int r, .int c, .int x] h none (am_up h k (am_ia 400 (sp_paint R C u f r c x))) := by
  by_cases hn : cl_kn R C r c
  · obtain ⟨r', c', hr, hc, rfl, rfl⟩ := kn_of hR hC hn
    have h1 := k_paintN (x := x) hR hC hr hc hu hd hi hk
    have e1 : (nI r').toNatClampNeg = r' := nI_clamp (by omega)
    have e2 : (nI c').toNatClampNeg = c' := nI_clamp (by omega)
    unfold sp_paint
    rw [e1, e2]
    by_cases hf : f (cx r' c' 3) = 1
    · rw [if_pos hf] at h1
      rw [if_pos ⟨hn, hf⟩]
      exact h1
    · rw [if_neg hf] at h1
      rw [if_neg (fun q => hf q.2), am_up_id hk.2]
      exact h1
  · unfold sp_paint
    rw [if_neg (fun q => hn q.1), am_up_id hk.2]
    exact k_paint0 hn hd hi
end CL
end
section
/-! the cloth of the class: what is counted of it -/
def sp_s (g : Nat → Int32) : Nat → Nat → Int32
  | _, 0 => 0
  | c, m + 1 => g c + sp_s g (c + 1) m
theorem sp_s_congr {g g' : Nat → Int32} : ∀ (m c : Nat), (∀ j, c ≤ j → j < c + m → g j = g' j) → sp_s g c m = sp_s g' c m
  | 0, _, _ => rfl
  | m + 1, c, h => by
    rw [sp_s, sp_s, h c (Nat.le_refl _) (by omega), sp_s_congr m (c + 1) (fun j h1 h2 => h j (by omega) (by omega))]
theorem nI_end {a b : Nat} (h : a = b) (hb : b < 2 ^ 31) : nI b ≤ nI a := by rw [h]; exact nI_le (Nat.le_refl _) hb
section CC
variable {d : Nat} {h h' : am_H} {a k R C : Nat} {use sh : Int32} {f : Nat → Int32} {res : Option Value}
def sp_sel (f : Nat → Int32) (R C : Nat) : Int32 := sp_s (fun r => sp_s (fun c => f (cx r c 3)) 0 C) 0 R
theorem l_cc_in (hR : R ≤ 10) (hC : C ≤ 10) (hi : am_is h a (am_cloth (nI R) (nI C) use sh k)) (hk : am_is h k (am_ia 400 f)) {r : Nat} (hr : r < R) : ∀ (m c : Nat) (x : Int32), c + m = C → am_ev d z_Cloth_chosenCount (46, [some (.ref a), some (.int (x + sp_s ((fun r c => f (cx r c 3)) r) c m)), some (.int (nI r)), some (.int (nI C))], [], h) res h' → am_ev d z_Cloth_chosenCount (19, [some (.ref a), some (.int x), some (.int (nI r)), some (.int (nI c))], [.int (nI C), .int (nI c)], h) res h'
  | 0, c, x, hm, K => by
    refine ev_icmp_ge (t := 46) (q := 22) rfl rfl rfl (fun _ => ?_) (fun c1 => absurd (nI_end hm (by omega)) c1)
    have hc : c = C := hm
    subst hc
    simpa [sp_s] using K
  | m + 1, c, x, hm, K => by
    refine ev_icmp_ge (t := 46) (q := 22) rfl rfl rfl (fun c1 => absurd c1 (nI_ge (by omega) (by omega))) (fun _ => ?_)
    refine ev_go 2 (q := 24) rfl ?_
    refine ev_get (q := 27) rfl (by assumption) rfl rfl rfl ?_
    refine ev_go 9 (q := 37) (st' := .int ((((_ * 10) + _) * 4) + 3) :: _ :: _ :: _) rfl ?_
    refine ev_ialdn (q := 38) rfl (by assumption) (cx_ix _ _ 3) (cx_lt (by omega) (by omega) (by omega)) (by decide) rfl ?_
    refine ev_go 6 (q := 16) rfl ?_
    refine ev_get (q := 19) rfl (by assumption) rfl rfl rfl ?_
    rw [nI_s]
    exact l_cc_in hR hC hi hk hr m (c + 1) _ (by omega) (by rw [Int32.add_assoc]; exact K)
theorem l_cc_out (hR : R ≤ 10) (hC : C ≤ 10) (hi : am_is h a (am_cloth (nI R) (nI C) use sh k)) (hk : am_is h k (am_ia 400 f)) : ∀ (m r : Nat) (x : Int32) (e : Option Value), r + m = R → (∀ e, am_ev d z_Cloth_chosenCount (52, [some (.ref a), some (.int (x + sp_s (fun r => sp_s ((fun r c => f (cx r c 3)) r) 0 C) r m)), some (.int (nI R)), e], [], h) res h') → am_ev d z_Cloth_chosenCount (9, [some (.ref a), some (.int x), some (.int (nI r)), e], [.int (nI R), .int (nI r)], h) res h'
  | 0, r, x, e, hm, K => by
    refine ev_icmp_ge (t := 52) (q := 12) rfl rfl rfl (fun _ => ?_) (fun c1 => absurd (nI_end hm (by omega)) c1)
    have hc : r = R := hm
    subst hc
    simpa [sp_s] using K e
  | m + 1, r, x, e, hm, K => by
    refine ev_icmp_ge (t := 52) (q := 12) rfl rfl rfl (fun c1 => absurd c1 (nI_ge (by omega) (by omega))) (fun _ => ?_)
    refine ev_go 4 (q := 16) rfl ?_
    refine ev_get (q := 19) rfl (by assumption) rfl rfl rfl ?_
    refine l_cc_in hR hC hi hk (by omega) C 0 x (by omega) ?_
    refine ev_go 4 (q := 6) rfl ?_
    refine ev_get (q := 9) rfl (by assumption) rfl rfl rfl ?_
    rw [nI_s]
    exact l_cc_out hR hC hi hk m (r + 1) _ _ (by omega) (fun e => by rw [Int32.add_assoc]; exact K e)
theorem k_chosenCount (hR : R ≤ 10) (hC : C ≤ 10) (hi : am_is h a (am_cloth (nI R) (nI C) use sh k)) (hk : am_is h k (am_ia 400 f)) : am_m d z_Cloth_chosenCount [.ref a] h (some (.int (sp_sel f R C))) h := by
  refine ev_go 6 (q := 6) rfl ?_
  refine ev_get (q := 9) rfl (by assumption) rfl rfl rfl ?_
  refine l_cc_out hR hC hi hk R 0 0 _ (by omega) (fun e => ?_)
  refine ev_go 1 (q := 53) rfl ?_
  exact ev_iret rfl rfl (by rw [Int32.zero_add]; rfl) (rfl)
def sp_seenC (sh : Int32) (f : Nat → Int32) (w : Int32) (R C : Nat) : Int32 := sp_s (fun r => sp_s (fun c => am_b (sp_seen sh (fun l => f (cx r c l)) = w)) 0 C) 0 R
theorem l_sc_in {wl : Int32} (hd : 1 < d) (hR : R ≤ 10) (hC : C ≤ 10) (hi : am_is h a (am_cloth (nI R) (nI C) use sh k)) (hk : am_is h k (am_ia 400 f)) {r : Nat} (hr : r < R) : ∀ (m c : Nat) (x : Int32), c + m = C → am_ev d z_Cloth_seenCount (44, [some (.ref a), some (.int wl), some (.int (x + sp_s ((fun r c => am_b (sp_seen sh (fun l => f (cx r c l)) = wl)) r) c m)), some (.int (nI r)), some (.int (nI C))], [], h) res h' → am_ev d z_Cloth_seenCount (21, [some (.ref a), some (.int wl), some (.int x), some (.int (nI r)), some (.int (nI c))], [.int (nI C), .int (nI c)], h) res h'
  | 0, c, x, hm, K => by
    refine ev_icmp_ge (t := 44) (q := 24) rfl rfl rfl (fun _ => ?_) (fun c1 => absurd (nI_end hm (by omega)) c1)
    have hc : c = C := hm
    subst hc
    simpa [sp_s] using K
  | m + 1, c, x, hm, K => by
    refine ev_icmp_ge (t := 44) (q := 24) rfl rfl rfl (fun c1 => absurd c1 (nI_ge (by omega) (by omega))) (fun _ => ?_)
    refine ev_go 3 (q := 28) rfl ?_
    refine ev_virt (z' := z_Cloth_seenAt) (q := 31) rfl rfl (by decide) rfl (by simp [Value.category]) rfl (by omega) rfl rfl (by assumption) (k_seenAt hR hC hr (by omega) (by omega) (by assumption) (by assumption)) ?_
    refine ev_go 1 (q := 32) rfl ?_
    refine ev_icmp_ne (t := 38) (q := 35) rfl rfl rfl (fun zc1 => ?_) (fun zc1 => ?_)
    · refine ev_go 4 (q := 18) rfl ?_
      refine ev_get (q := 21) rfl (by assumption) rfl rfl rfl ?_
      rw [nI_s]
      exact l_sc_in hd hR hC hi hk hr m (c + 1) _ (by omega) (by rw [show sp_s ((fun r c => am_b (sp_seen sh (fun l => f (cx r c l)) = wl)) r) c (m + 1) = am_b (sp_seen sh (fun l => f (cx r c l)) = wl) + sp_s ((fun r c => am_b (sp_seen sh (fun l => f (cx r c l)) = wl)) r) (c + 1) m from rfl, am_bz (by assumption), Int32.zero_add] at K; exact K)
    · refine ev_go 5 (q := 18) rfl ?_
      refine ev_get (q := 21) rfl (by assumption) rfl rfl rfl ?_
      rw [nI_s]
      exact l_sc_in hd hR hC hi hk hr m (c + 1) _ (by omega) (by rw [show sp_s ((fun r c => am_b (sp_seen sh (fun l => f (cx r c l)) = wl)) r) c (m + 1) = am_b (sp_seen sh (fun l => f (cx r c l)) = wl) + sp_s ((fun r c => am_b (sp_seen sh (fun l => f (cx r c l)) = wl)) r) (c + 1) m from rfl, am_b1 (by assumption), ← Int32.add_assoc] at K; exact K)
theorem l_sc_out {wl : Int32} (hd : 1 < d) (hR : R ≤ 10) (hC : C ≤ 10) (hi : am_is h a (am_cloth (nI R) (nI C) use sh k)) (hk : am_is h k (am_ia 400 f)) : ∀ (m r : Nat) (x : Int32) (e : Option Value), r + m = R → (∀ e, am_ev d z_Cloth_seenCount (50, [some (.ref a), some (.int wl), some (.int (x + sp_s (fun r => sp_s ((fun r c => am_b (sp_seen sh (fun l => f (cx r c l)) = wl)) r) 0 C) r m)), some (.int (nI R)), e], [], h) res h') → am_ev d z_Cloth_seenCount (9, [some (.ref a), some (.int wl), some (.int x), some (.int (nI r)), e], [.int (nI R), .int (nI r)], h) res h'
  | 0, r, x, e, hm, K => by
    refine ev_icmp_ge (t := 50) (q := 12) rfl rfl rfl (fun _ => ?_) (fun c1 => absurd (nI_end hm (by omega)) c1)
    have hc : r = R := hm
    subst hc
    simpa [sp_s] using K e
  | m + 1, r, x, e, hm, K => by
    refine ev_icmp_ge (t := 50) (q := 12) rfl rfl rfl (fun c1 => absurd c1 (nI_ge (by omega) (by omega))) (fun _ => ?_)
    refine ev_go 4 (q := 18) rfl ?_
    refine ev_get (q := 21) rfl (by assumption) rfl rfl rfl ?_
    refine l_sc_in hd hR hC hi hk (by omega) C 0 x (by omega) ?_
    refine ev_go 4 (q := 6) rfl ?_
    refine ev_get (q := 9) rfl (by assumption) rfl rfl rfl ?_
    rw [nI_s]
    exact l_sc_out hd hR hC hi hk m (r + 1) _ _ (by omega) (fun e => by rw [Int32.add_assoc]; exact K e)
theorem k_seenCount {wl : Int32} (hd : 1 < d) (hR : R ≤ 10) (hC : C ≤ 10) (hi : am_is h a (am_cloth (nI R) (nI C) use sh k)) (hk : am_is h k (am_ia 400 f)) : am_m d z_Cloth_seenCount [.ref a, .int wl] h (some (.int (sp_seenC sh f wl R C))) h := by
  refine ev_go 6 (q := 6) rfl ?_
  refine ev_get (q := 9) rfl (by assumption) rfl rfl rfl ?_
  refine l_sc_out hd hR hC hi hk R 0 0 _ (by omega) (fun e => ?_)
  refine ev_go 1 (q := 51) rfl ?_
  exact ev_iret rfl rfl (by rw [Int32.zero_add]; rfl) (rfl)
end CC
section CD
variable {d : Nat} {h h' : am_H} {a k a2 k2 R C R2 C2 : Nat} {use sh use2 sh2 : Int32} {f f2 : Nat → Int32} {res : Option Value}
def sp_same (f f2 : Nat → Int32) (r c : Nat) : Prop := f (cx r c 0) = f2 (cx r c 0) ∧ f (cx r c 1) = f2 (cx r c 1) ∧ f (cx r c 2) = f2 (cx r c 2)
noncomputable def sp_diff (f f2 : Nat → Int32) (r c : Nat) : Int32 := @am_b (¬ sp_same f f2 r c) (Classical.propDecidable _)
theorem k_hasWoolsOf (hd : 1 < d) (hR : R ≤ 10) (hC : C ≤ 10) (hR2 : R2 ≤ 10) (hC2 : C2 ≤ 10) {r c : Nat} (hr : r < R) (hc : c < C) (hr2 : r < R2) (hc2 : c < C2) (hi : am_is h a (am_cloth (nI R) (nI C) use sh k)) (hk : am_is h k (am_ia 400 f)) (hi2 : am_is h a2 (am_cloth (nI R2) (nI C2) use2 sh2 k2)) (hk2 : am_is h k2 (am_ia 400 f2)) : am_m d z_Cloth_hasWoolsOf [.ref a, .ref a2, .int (nI r), .int (nI c)] h (some (.int (@am_b (sp_same f f2 r c) (Classical.propDecidable _)))) h := by
  refine ev_go 2 (q := 3) rfl ?_
  rw [show Int32.ofInt 0 = nI 0 from rfl]
  refine ev_go 2 (q := 6) (st' := .int 3 :: .int (nI 0) :: _) rfl ?_
  refine ev_icmp_ge (t := 36) (q := 9) rfl rfl rfl (fun c => absurd c (by decide)) (fun _ => ?_)
  refine ev_go 4 (q := 14) (st' := .int (nI 0) :: _) rfl ?_
  refine ev_virt (z' := z_Cloth_woolAt) (q := 17) rfl rfl (by decide) rfl (by simp [Value.category]) rfl (by omega) rfl rfl hi (k_woolAt (l := 0) hR hC hr hc (by omega) (by omega) hi hk) ?_
  refine ev_go 4 (q := 22) (st' := .int (nI 0) :: _) rfl ?_
  refine ev_virt (z' := z_Cloth_woolAt) (q := 25) rfl rfl (by decide) rfl (by simp [Value.category]) rfl (by omega) rfl rfl hi2 (k_woolAt (l := 0) hR2 hC2 hr2 hc2 (by omega) (by omega) hi2 hk2) ?_
  refine ev_icmp_eq (t := 30) (q := 28) rfl rfl rfl (fun e0 => ?_) (fun e0 => ?_)
  case refine_2 =>
    refine ev_go 1 (q := 29) (st' := .int 0 :: _) rfl ?_
    exact ev_zret rfl rfl (Or.inl rfl) (@am_bz _ (Classical.propDecidable _) (fun q => e0 (by unfold sp_same at q; first | exact q.1 | exact q.2.1 | exact q.2.2))).symm rfl
  refine ev_go 2 (q := 3) rfl ?_
  rw [nI_s]
  refine ev_go 2 (q := 6) (st' := .int 3 :: .int (nI 1) :: _) rfl ?_
  refine ev_icmp_ge (t := 36) (q := 9) rfl rfl rfl (fun c => absurd c (by decide)) (fun _ => ?_)
  refine ev_go 4 (q := 14) (st' := .int (nI 1) :: _) rfl ?_
  refine ev_virt (z' := z_Cloth_woolAt) (q := 17) rfl rfl (by decide) rfl (by simp [Value.category]) rfl (by omega) rfl rfl hi (k_woolAt (l := 1) hR hC hr hc (by omega) (by omega) hi hk) ?_
  refine ev_go 4 (q := 22) (st' := .int (nI 1) :: _) rfl ?_
  refine ev_virt (z' := z_Cloth_woolAt) (q := 25) rfl rfl (by decide) rfl (by simp [Value.category]) rfl (by omega) rfl rfl hi2 (k_woolAt (l := 1) hR2 hC2 hr2 hc2 (by omega) (by omega) hi2 hk2) ?_
  refine ev_icmp_eq (t := 30) (q := 28) rfl rfl rfl (fun e1 => ?_) (fun e1 => ?_)
  case refine_2 =>
    refine ev_go 1 (q := 29) (st' := .int 0 :: _) rfl ?_
    exact ev_zret rfl rfl (Or.inl rfl) (@am_bz _ (Classical.propDecidable _) (fun q => e1 (by unfold sp_same at q; first | exact q.1 | exact q.2.1 | exact q.2.2))).symm rfl
  refine ev_go 2 (q := 3) rfl ?_
  rw [nI_s]
  refine ev_go 2 (q := 6) (st' := .int 3 :: .int (nI 2) :: _) rfl ?_
  refine ev_icmp_ge (t := 36) (q := 9) rfl rfl rfl (fun c => absurd c (by decide)) (fun _ => ?_)
  refine ev_go 4 (q := 14) (st' := .int (nI 2) :: _) rfl ?_
  refine ev_virt (z' := z_Cloth_woolAt) (q := 17) rfl rfl (by decide) rfl (by simp [Value.category]) rfl (by omega) rfl rfl hi (k_woolAt (l := 2) hR hC hr hc (by omega) (by omega) hi hk) ?_
  refine ev_go 4 (q := 22) (st' := .int (nI 2) :: _) rfl ?_
  refine ev_virt (z' := z_Cloth_woolAt) (q := 25) rfl rfl (by decide) rfl (by simp [Value.category]) rfl (by omega) rfl rfl hi2 (k_woolAt (l := 2) hR2 hC2 hr2 hc2 (by omega) (by omega) hi2 hk2) ?_
  refine ev_icmp_eq (t := 30) (q := 28) rfl rfl rfl (fun e2 => ?_) (fun e2 => ?_)
  case refine_2 =>
    refine ev_go 1 (q := 29) (st' := .int 0 :: _) rfl ?_
    exact ev_zret rfl rfl (Or.inl rfl) (@am_bz _ (Classical.propDecidable _) (fun q => e2 (by unfold sp_same at q; first | exact q.1 | exact q.2.1 | exact q.2.2))).symm rfl
  refine ev_go 2 (q := 3) rfl ?_
  rw [nI_s]
  refine ev_go 2 (q := 6) (st' := .int 3 :: .int (nI 3) :: _) rfl ?_
  refine ev_icmp_ge (t := 36) (q := 9) rfl rfl rfl (fun _ => ?_) (fun c => absurd (by decide) c)
  refine ev_go 1 (q := 37) (st' := .int 1 :: _) rfl ?_
  exact ev_zret rfl rfl (Or.inr rfl) (@am_b1 _ (Classical.propDecidable _) ⟨e0, e1, e2⟩).symm rfl
theorem sp_diff_z {f f2 : Nat → Int32} {r c : Nat} (h : ¬ @am_b (sp_same f f2 r c) (Classical.propDecidable _) = 0) : sp_diff f f2 r c = 0 := by
  unfold sp_diff
  exact @am_bz _ (Classical.propDecidable _) (fun q => q (@am_bn _ (Classical.propDecidable _)|>.mp h))
theorem sp_diff_1 {f f2 : Nat → Int32} {r c : Nat} (h : @am_b (sp_same f f2 r c) (Classical.propDecidable _) = 0) : sp_diff f f2 r c = 1 := by
  unfold sp_diff
  exact @am_b1 _ (Classical.propDecidable _) (@am_b0 _ (Classical.propDecidable _)|>.mp h)
theorem l_cf_in (hd : 2 < d) (hR : R ≤ 10) (hC : C ≤ 10) (hi : am_is h a (am_cloth (nI R) (nI C) use sh k)) (hk : am_is h k (am_ia 400 f)) (hi2 : am_is h a2 (am_cloth (nI R) (nI C) use2 sh2 k2)) (hk2 : am_is h k2 (am_ia 400 f2)) {r : Nat} (hr : r < R) : ∀ (m c : Nat) (x : Int32), c + m = C → am_ev d z_Cloth_changedFrom (44, [some (.ref a), some (.ref a2), some (.int (x + sp_s ((fun r c => sp_diff f f2 r c) r) c m)), some (.int (nI r)), some (.int (nI C))], [], h) res h' → am_ev d z_Cloth_changedFrom (21, [some (.ref a), some (.ref a2), some (.int x), some (.int (nI r)), some (.int (nI c))], [.int (nI C), .int (nI c)], h) res h'
  | 0, c, x, hm, K => by
    refine ev_icmp_ge (t := 44) (q := 24) rfl rfl rfl (fun _ => ?_) (fun c1 => absurd (nI_end hm (by omega)) c1)
    have hc : c = C := hm
    subst hc
    simpa [sp_s] using K
  | m + 1, c, x, hm, K => by
    refine ev_icmp_ge (t := 44) (q := 24) rfl rfl rfl (fun c1 => absurd c1 (nI_ge (by omega) (by omega))) (fun _ => ?_)
    refine ev_go 4 (q := 29) rfl ?_
    refine ev_virt (z' := z_Cloth_hasWoolsOf) (q := 32) rfl rfl (by decide) rfl (by simp [Value.category]) rfl (by omega) rfl rfl hi (k_hasWoolsOf (by omega) hR hC hR hC hr (by omega) hr (by omega) hi hk hi2 hk2) ?_
    refine ev_if_ne (t := 38) (q := 35) rfl rfl rfl (fun zc1 => ?_) (fun zc1 => ?_)
    · refine ev_go 4 (q := 18) rfl ?_
      refine ev_get (q := 21) rfl hi rfl rfl rfl ?_
      rw [nI_s]
      exact l_cf_in hd hR hC hi hk hi2 hk2 hr m (c + 1) _ (by omega) (by rw [show sp_s ((fun r c => sp_diff f f2 r c) r) c (m + 1) = sp_diff f f2 r c + sp_s ((fun r c => sp_diff f f2 r c) r) (c + 1) m from rfl, sp_diff_z zc1, Int32.zero_add] at K; exact K)
    · refine ev_go 5 (q := 18) rfl ?_
      refine ev_get (q := 21) rfl hi rfl rfl rfl ?_
      rw [nI_s]
      exact l_cf_in hd hR hC hi hk hi2 hk2 hr m (c + 1) _ (by omega) (by rw [show sp_s ((fun r c => sp_diff f f2 r c) r) c (m + 1) = sp_diff f f2 r c + sp_s ((fun r c => sp_diff f f2 r c) r) (c + 1) m from rfl, sp_diff_1 zc1, ← Int32.add_assoc] at K; exact K)
theorem l_cf_out (hd : 2 < d) (hR : R ≤ 10) (hC : C ≤ 10) (hi : am_is h a (am_cloth (nI R) (nI C) use sh k)) (hk : am_is h k (am_ia 400 f)) (hi2 : am_is h a2 (am_cloth (nI R) (nI C) use2 sh2 k2)) (hk2 : am_is h k2 (am_ia 400 f2)) : ∀ (m r : Nat) (x : Int32) (e : Option Value), r + m = R → (∀ e, am_ev d z_Cloth_changedFrom (50, [some (.ref a), some (.ref a2), some (.int (x + sp_s (fun r => sp_s ((fun r c => sp_diff f f2 r c) r) 0 C) r m)), some (.int (nI R)), e], [], h) res h') → am_ev d z_Cloth_changedFrom (9, [some (.ref a), some (.ref a2), some (.int x), some (.int (nI r)), e], [.int (nI R), .int (nI r)], h) res h'
  | 0, r, x, e, hm, K => by
    refine ev_icmp_ge (t := 50) (q := 12) rfl rfl rfl (fun _ => ?_) (fun c1 => absurd (nI_end hm (by omega)) c1)
    have hc : r = R := hm
    subst hc
    simpa [sp_s] using K e
  | m + 1, r, x, e, hm, K => by
    refine ev_icmp_ge (t := 50) (q := 12) rfl rfl rfl (fun c1 => absurd c1 (nI_ge (by omega) (by omega))) (fun _ => ?_)
    refine ev_go 4 (q := 18) rfl ?_
    refine ev_get (q := 21) rfl hi rfl rfl rfl ?_
    refine l_cf_in hd hR hC hi hk hi2 hk2 (by omega) C 0 x (by omega) ?_
    refine ev_go 4 (q := 6) rfl ?_
    refine ev_get (q := 9) rfl hi rfl rfl rfl ?_
    rw [nI_s]
    exact l_cf_out hd hR hC hi hk hi2 hk2 m (r + 1) _ _ (by omega) (fun e => by rw [Int32.add_assoc]; exact K e)
noncomputable def sp_chg (f f2 : Nat → Int32) (R C : Nat) : Int32 := sp_s (fun r => sp_s (fun c => sp_diff f f2 r c) 0 C) 0 R
theorem k_changedFrom (hd : 2 < d) (hR : R ≤ 10) (hC : C ≤ 10) (hi : am_is h a (am_cloth (nI R) (nI C) use sh k)) (hk : am_is h k (am_ia 400 f)) (hi2 : am_is h a2 (am_cloth (nI R) (nI C) use2 sh2 k2)) (hk2 : am_is h k2 (am_ia 400 f2)) : am_m d z_Cloth_changedFrom [.ref a, .ref a2] h (some (.int (sp_chg f f2 R C))) h := by
  refine ev_go 6 (q := 6) rfl ?_
  refine ev_get (q := 9) rfl hi rfl rfl rfl ?_
  refine l_cf_out hd hR hC hi hk hi2 hk2 R 0 0 _ (by omega) (fun e => ?_)
  refine ev_go 1 (q := 51) rfl ?_
  exact ev_iret rfl rfl (by rw [Int32.zero_add]; rfl) (rfl)
end CD
end
section
/-! the cloth of the class: floats, the fingerprint, weaving, copying -/
def sp_it {α : Type} (g : Nat → α → α) : Nat → Nat → α → α
  | _, 0, x => x
  | c, m + 1, x => sp_it g (c + 1) m (g c x)
theorem sp_it_congr {α : Type} {g g' : Nat → α → α} : ∀ (m c : Nat) (x : α), (∀ j y, c ≤ j → j < c + m → g j y = g' j y) → sp_it g c m x = sp_it g' c m x
  | 0, _, _, _ => rfl
  | m + 1, c, x, h => by
    rw [sp_it, sp_it, h c x (Nat.le_refl _) (by omega)]
    exact sp_it_congr m (c + 1) _ (fun j y h1 h2 => h j y (by omega) (by omega))
/-- where a run of w ends, m knots from e on at most -/
def sp_end (s : Nat → Int32) (w : Int32) : Nat → Nat → Nat
  | 0, e => e
  | m + 1, e => if s e = w then sp_end s w m (e + 1) else e
theorem sp_end_le (s : Nat → Int32) (w : Int32) : ∀ m e, e ≤ sp_end s w m e ∧ sp_end s w m e ≤ e + m
  | 0, e => ⟨Nat.le_refl _, Nat.le_refl _⟩
  | m + 1, e => by
    unfold sp_end
    split
    · have := sp_end_le s w m (e + 1)
      omega
    · omega
/-- how long the float is whose first knot is c; 0 if it is no float's first -/
def sp_len (s : Nat → Int32) (C c : Nat) : Nat := if s c = 0 ∨ (0 < c ∧ s (c - 1) = s c) then 0 else sp_end s (s c) (C - (c + 1)) (c + 1) - c
section CE
variable {d : Nat} {h h' : am_H} {a k R C : Nat} {use sh : Int32} {f : Nat → Int32} {res : Option Value}
abbrev sp_row (sh : Int32) (f : Nat → Int32) (r : Nat) : Nat → Int32 := fun c => sp_seen sh (fun l => f (cx r c l))
theorem l_flf (hd : 1 < d) (hR : R ≤ 10) (hC : C ≤ 10) {r c : Nat} (hr : r < R) (hc : c < C) {wl : Int32} (hi : am_is h a (am_cloth (nI R) (nI C) use sh k)) (hk : am_is h k (am_ia 400 f)) : ∀ (m e : Nat), e + m = C → am_ev d z_Cloth_floatFrom (56, [some (.ref a), some (.int (nI r)), some (.int (nI c)), some (.int wl), some (.int (nI (sp_end (sp_row sh f r) wl m e)))], [], h) res h' → am_ev d z_Cloth_floatFrom (36, [some (.ref a), some (.int (nI r)), some (.int (nI c)), some (.int wl), some (.int (nI e))], [.int (nI C), .int (nI e)], h) res h'
  | 0, e, hm, K => by
    refine ev_icmp_ge (t := 56) (q := 39) rfl rfl rfl (fun _ => ?_) (fun c1 => absurd (nI_end hm (by omega)) c1)
    exact K
  | m + 1, e, hm, K => by
    refine ev_icmp_ge (t := 56) (q := 39) rfl rfl rfl (fun c1 => absurd c1 (nI_ge (by omega) (by omega))) (fun _ => ?_)
    refine ev_go 3 (q := 43) rfl ?_
    refine ev_virt (z' := z_Cloth_seenAt) (q := 46) rfl rfl (by decide) rfl (by simp [Value.category]) rfl (by omega) rfl rfl hi (k_seenAt hR hC hr (by omega) (by omega) hi hk) ?_
    refine ev_go 1 (q := 47) rfl ?_
    refine ev_icmp_ne (t := 56) (q := 50) rfl rfl rfl (fun zc1 => ?_) (fun zc1 => ?_)
    · rw [sp_end, if_neg (by assumption)] at K
      exact K
    · refine ev_go 4 (q := 33) rfl ?_
      refine ev_get (q := 36) rfl hi rfl rfl rfl ?_
      rw [nI_s]
      exact l_flf hd hR hC hr hc hi hk m (e + 1) (by omega) (by rw [sp_end, if_pos (by assumption)] at K; exact K)
theorem k_floatFrom (hd : 1 < d) (hR : R ≤ 10) (hC : C ≤ 10) {r c : Nat} (hr : r < R) (hc : c < C) (hi : am_is h a (am_cloth (nI R) (nI C) use sh k)) (hk : am_is h k (am_ia 400 f)) : am_m d z_Cloth_floatFrom [.ref a, .int (nI r), .int (nI c)] h (some (.int (nI (sp_len (sp_row sh f r) C c)))) h := by
  have hp : am_m (d - 1) z_Cloth_seenAt [.ref a, .int (nI r), .int (nI c - 1)] h (some (.int (if 0 < c then sp_row sh f r (c - 1) else 0))) h := by
    by_cases hc0 : 0 < c
    · rw [if_pos hc0, show nI c - 1 = nI (c - 1) by rw [show (1 : Int32) = nI 1 from rfl, pk_sub (by omega)]]
      exact k_seenAt hR hC hr (by omega) (by omega) hi hk
    · rw [if_neg hc0]
      refine k_seenAt0 (fun q => ?_) (by omega) hi
      rw [show c = 0 by omega] at q
      exact absurd q.2.1 (by decide)
  refine ev_go 3 (q := 3) rfl ?_
  refine ev_virt (z' := z_Cloth_seenAt) (q := 6) rfl rfl (by decide) rfl (by simp [Value.category]) rfl (by omega) rfl rfl hi (k_seenAt hR hC hr hc (by omega) hi hk) ?_
  refine ev_go 2 (q := 8) rfl ?_
  refine ev_if_eq (t := 23) (q := 11) rfl rfl rfl (fun zc1 => ?_) (fun zc1 => ?_)
  · refine ev_go 1 (q := 24) (st' := .int 0 :: _) rfl ?_
    exact ev_iret rfl rfl (by unfold sp_len; rw [if_pos (Or.inl zc1)]; rfl) (rfl)
  · refine ev_go 5 (q := 16) (st' := .int (_ - 1) :: _ :: _ :: _) rfl ?_
    refine ev_virt (z' := z_Cloth_seenAt) (q := 19) rfl rfl (by decide) rfl (by simp [Value.category]) rfl (by omega) rfl rfl hi hp ?_
    refine ev_go 1 (q := 20) rfl ?_
    refine ev_icmp_ne (t := 25) (q := 23) rfl rfl rfl (fun zc2 => ?_) (fun zc2 => ?_)
    · refine ev_go 6 (q := 33) rfl ?_
      refine ev_get (q := 36) rfl hi rfl rfl rfl ?_
      have hno : ¬ (sp_row sh f r c = 0 ∨ (0 < c ∧ sp_row sh f r (c - 1) = sp_row sh f r c)) := by
        rintro (q | ⟨q1, q2⟩)
        · exact zc1 q
        · rw [if_pos q1] at zc2; exact zc2 q2
      rw [nI_s]
      refine l_flf hd hR hC hr hc hi hk (C - (c + 1)) (c + 1) (by omega) ?_
      refine ev_go 3 (q := 60) rfl ?_
      exact ev_iret rfl rfl (by unfold sp_len; rw [if_neg hno]; exact pk_sub (Nat.le_trans (Nat.le_succ c) (sp_end_le _ _ _ _).1)) (rfl)
    · refine ev_go 1 (q := 24) (st' := .int 0 :: _) rfl ?_
      exact ev_iret rfl rfl (by
        unfold sp_len
        rw [if_pos (Or.inr ?_)]
        · rfl
        · by_cases hc0 : 0 < c
          · rw [if_pos hc0] at zc2; exact ⟨hc0, zc2⟩
          · rw [if_neg hc0] at zc2; exact absurd zc2.symm zc1) (rfl)
def sp_tell (r c len : Nat) (s what : Int32) : Int32 := if what = 0 then nI r else if what = 1 then nI c else if what = 2 then nI len else s
theorem k_tellFloat (hd : 1 < d) (hR : R ≤ 10) (hC : C ≤ 10) {r c len : Nat} {what : Int32} (hr : r < R) (hc : c < C) (hw : 0 ≤ what ∧ what ≤ 3) (hi : am_is h a (am_cloth (nI R) (nI C) use sh k)) (hk : am_is h k (am_ia 400 f)) : am_m d z_Cloth_tellFloat [.ref a, .int (nI r), .int (nI c), .int (nI len), .int what] h (some (.int (sp_tell r c len (sp_row sh f r c) what))) h := by
  obtain ⟨j, hj, rfl⟩ := nI_of2 (x := what) (M := 3) (n := 3) rfl (Int32.not_lt.mpr hw.1) hw.2
  refine ev_go 1 (q := 2) rfl ?_
  rcases (show j = 0 ∨ j = 1 ∨ j = 2 ∨ j = 3 by omega) with rfl | rfl | rfl | rfl
  · refine ev_go 2 (q := 29) rfl ?_
    exact ev_iret rfl rfl rfl rfl
  · refine ev_go 2 (q := 31) rfl ?_
    exact ev_iret rfl rfl rfl rfl
  · refine ev_go 2 (q := 33) rfl ?_
    exact ev_iret rfl rfl rfl rfl
  · refine ev_go 4 (q := 37) rfl ?_
    refine ev_virt (z' := z_Cloth_seenAt) (q := 40) rfl rfl (by decide) rfl (by simp [Value.category]) rfl (by omega) rfl rfl hi (k_seenAt hR hC hr hc (by omega) hi hk) ?_
    exact ev_iret rfl rfl rfl rfl
/-- the search for the i-th float that is longer than n, from column c of row r on: the answer, or how many were passed -/
def sp_ffr (s : Nat → Int32) (C r : Nat) (n i what : Int32) : Nat → Nat → Int32 → Int32 ⊕ Int32
  | 0, _, p => .inr p
  | m + 1, c, p => if nI (sp_len s C c) ≤ n then sp_ffr s C r n i what m (c + 1) p else if p = i then .inl (sp_tell r c (sp_len s C c) (s c) what) else sp_ffr s C r n i what m (c + 1) (p + 1)
def sp_ff (s : Nat → Nat → Int32) (C : Nat) (n i what : Int32) : Nat → Nat → Int32 → Int32
  | 0, _, _ => -9
  | m + 1, r, p => match sp_ffr (s r) C r n i what C 0 p with
    | .inl x => x
    | .inr p' => sp_ff s C n i what m (r + 1) p'
theorem l_ff_in (hd : 2 < d) (hR : R ≤ 10) (hC : C ≤ 10) {n i what : Int32} (hw : 0 ≤ what ∧ what ≤ 3) (hi : am_is h a (am_cloth (nI R) (nI C) use sh k)) (hk : am_is h k (am_ia 400 f)) {r : Nat} (hr : r < R) : ∀ (m c : Nat) (p : Int32) (e : Option Value), c + m = C → (∀ x, sp_ffr (sp_row sh f r) C r n i what m c p = .inl x → res = some (.int x) ∧ h = h') → (∀ p' e1, sp_ffr (sp_row sh f r) C r n i what m c p = .inr p' → am_ev d z_Cloth_findFloat (70, [some (.ref a), some (.int n), some (.int i), some (.int what), some (.int p'), some (.int (nI r)), some (.int (nI C)), e1], [], h) res h') → am_ev d z_Cloth_findFloat (24, [some (.ref a), some (.int n), some (.int i), some (.int what), some (.int p), some (.int (nI r)), some (.int (nI c)), e], [.int (nI C), .int (nI c)], h) res h'
  | 0, c, p, e, hm, K1, K2 => by
    refine ev_icmp_ge (t := 70) (q := 27) rfl rfl rfl (fun _ => ?_) (fun c1 => absurd (nI_end hm (by omega)) c1)
    have hc : c = C := hm
    subst hc
    exact K2 p e rfl
  | m + 1, c, p, e, hm, K1, K2 => by
    refine ev_icmp_ge (t := 70) (q := 27) rfl rfl rfl (fun c1 => absurd c1 (nI_ge (by omega) (by omega))) (fun _ => ?_)
    rw [sp_ffr] at K1 K2
    refine ev_go 3 (q := 32) rfl ?_
    refine ev_virt (z' := z_Cloth_floatFrom) (q := 35) rfl rfl (by decide) rfl (by simp [Value.category]) rfl (by omega) rfl rfl hi (k_floatFrom (by omega) hR hC hr (by omega) hi hk) ?_
    refine ev_go 3 (q := 40) rfl ?_
    refine ev_icmp_le (t := 64) (q := 43) rfl rfl rfl (fun zc1 => ?_) (fun zc1 => ?_)
    · refine ev_go 4 (q := 21) rfl ?_
      refine ev_get (q := 24) rfl hi rfl rfl rfl ?_
      rw [if_pos zc1] at K1 K2
      rw [nI_s]
      exact l_ff_in hd hR hC hw hi hk hr m (c + 1) p _ (by omega) K1 K2
    · refine ev_go 2 (q := 46) rfl ?_
      refine ev_icmp_ne (t := 61) (q := 49) rfl rfl rfl (fun zc2 => ?_) (fun zc2 => ?_)
      · refine ev_go 5 (q := 21) rfl ?_
        refine ev_get (q := 24) rfl hi rfl rfl rfl ?_
        rw [if_neg zc1, if_neg zc2] at K1 K2
        rw [nI_s]
        exact l_ff_in hd hR hC hw hi hk hr m (c + 1) (p + 1) _ (by omega) K1 K2
      · refine ev_go 5 (q := 57) rfl ?_
        refine ev_virt (z' := z_Cloth_tellFloat) (q := 60) rfl rfl (by decide) rfl (by simp [Value.category]) rfl (by omega) rfl rfl hi (k_tellFloat (by omega) hR hC hr (by omega) hw hi hk) ?_
        rw [if_neg zc1, if_pos zc2] at K1
        obtain ⟨rfl, rfl⟩ := K1 _ rfl
        exact ev_iret rfl rfl rfl rfl
theorem l_ff_out (hd : 2 < d) (hR : R ≤ 10) (hC : C ≤ 10) {n i what : Int32} (hw : 0 ≤ what ∧ what ≤ 3) (hi : am_is h a (am_cloth (nI R) (nI C) use sh k)) (hk : am_is h k (am_ia 400 f)) : ∀ (m r : Nat) (p : Int32) (e e1 : Option Value), r + m = R → res = some (.int (sp_ff (sp_row sh f) C n i what m r p)) → h = h' → am_ev d z_Cloth_findFloat (12, [some (.ref a), some (.int n), some (.int i), some (.int what), some (.int p), some (.int (nI r)), e, e1], [.int (nI R), .int (nI r)], h) res h'
  | 0, r, p, e, e1, hm, K1, K2 => by
    refine ev_icmp_ge (t := 76) (q := 15) rfl rfl rfl (fun _ => ?_) (fun c1 => absurd (nI_end hm (by omega)) c1)
    subst K1; subst K2
    refine ev_go 1 (q := 78) (st' := .int (-9) :: _) rfl ?_
    exact ev_iret rfl rfl (rfl) (rfl)
  | m + 1, r, p, e, e1, hm, K1, K2 => by
    refine ev_icmp_ge (t := 76) (q := 15) rfl rfl rfl (fun c1 => absurd c1 (nI_ge (by omega) (by omega))) (fun _ => ?_)
    rw [sp_ff] at K1
    refine ev_go 4 (q := 21) rfl ?_
    refine ev_get (q := 24) rfl hi rfl rfl rfl ?_
    refine l_ff_in hd hR hC hw hi hk (by omega) C 0 p _ (by omega) (fun x hx => ?_) (fun p' e1 hx => ?_)
    · rw [hx] at K1; exact ⟨K1, K2⟩
    · rw [hx] at K1
      refine ev_go 4 (q := 9) rfl ?_
      refine ev_get (q := 12) rfl hi rfl rfl rfl ?_
      rw [nI_s]
      exact l_ff_out hd hR hC hw hi hk m (r + 1) p' _ _ (by omega) K1 K2
theorem k_findFloat (hd : 2 < d) (hR : R ≤ 10) (hC : C ≤ 10) {n i what : Int32} (hw : 0 ≤ what ∧ what ≤ 3) (hi : am_is h a (am_cloth (nI R) (nI C) use sh k)) (hk : am_is h k (am_ia 400 f)) : am_m d z_Cloth_findFloat [.ref a, .int n, .int i, .int what] h (some (.int (sp_ff (sp_row sh f) C n i what R 0 0))) h := by
  refine ev_go 6 (q := 9) rfl ?_
  refine ev_get (q := 12) rfl hi rfl rfl rfl ?_
  exact l_ff_out hd hR hC hw hi hk R 0 0 _ _ (by omega) rfl rfl
def sp_fk (w0 w1 w2 s : Int32) (x : Int64) : Int64 := 31 * (31 * (31 * (31 * x + w0.toInt64) + w1.toInt64) + w2.toInt64) + s.toInt64
def sp_fp (f : Nat → Int32) (R C : Nat) (u sh : Int32) : Int64 := 31 * (31 * sp_it (fun r => sp_it (fun c => sp_fk (f (cx r c 0)) (f (cx r c 1)) (f (cx r c 2)) (am_b (f (cx r c 3) = 1))) 0 C) 0 R 7 + u.toInt64) + sh.toInt64
theorem l_fp_in (hd : 1 < d) (hR : R ≤ 10) (hC : C ≤ 10) (hi : am_is h a (am_cloth (nI R) (nI C) use sh k)) (hk : am_is h k (am_ia 400 f)) {r : Nat} (hr : r < R) : ∀ (m c : Nat) (x : Int64) (e : Option Value), c + m = C → (∀ e, am_ev d z_Cloth_fingerprint (87, [some (.ref a), some (.long (sp_it ((fun r c => sp_fk (f (cx r c 0)) (f (cx r c 1)) (f (cx r c 2)) (am_b (f (cx r c 3) = 1))) r) c m x)), none, some (.int (nI r)), some (.int (nI C)), e], [], h) res h') → am_ev d z_Cloth_fingerprint (23, [some (.ref a), some (.long x), none, some (.int (nI r)), some (.int (nI c)), e], [.int (nI C), .int (nI c)], h) res h'
  | 0, c, x, e, hm, K => by
    refine ev_icmp_ge (t := 87) (q := 26) rfl rfl rfl (fun _ => ?_) (fun c1 => absurd (nI_end hm (by omega)) c1)
    have hc : c = C := hm
    subst hc
    exact K e
  | m + 1, c, x, e, hm, K => by
    refine ev_icmp_ge (t := 87) (q := 26) rfl rfl rfl (fun c1 => absurd c1 (nI_ge (by omega) (by omega))) (fun _ => ?_)
    refine ev_go 2 (q := 29) rfl ?_
    rw [show Int32.ofInt 0 = nI 0 from rfl]
    refine ev_go 2 (q := 32) (st' := .int 3 :: .int (nI 0) :: _) rfl ?_
    refine ev_icmp_ge (t := 58) (q := 35) rfl rfl rfl (fun c => absurd c (by decide)) (fun _ => ?_)
    refine ev_go 7 (q := 46) (st' := .int (nI 0) :: _) rfl ?_
    refine ev_virt (z' := z_Cloth_woolAt) (q := 49) rfl rfl (by decide) rfl (by simp [Value.category]) rfl (by omega) rfl rfl hi (k_woolAt (l := 0) hR hC hr (by omega) (by omega) (by omega) hi hk) ?_
    refine ev_go 5 (q := 29) rfl ?_
    rw [nI_s]
    refine ev_go 2 (q := 32) (st' := .int 3 :: .int (nI 1) :: _) rfl ?_
    refine ev_icmp_ge (t := 58) (q := 35) rfl rfl rfl (fun c => absurd c (by decide)) (fun _ => ?_)
    refine ev_go 7 (q := 46) (st' := .int (nI 1) :: _) rfl ?_
    refine ev_virt (z' := z_Cloth_woolAt) (q := 49) rfl rfl (by decide) rfl (by simp [Value.category]) rfl (by omega) rfl rfl hi (k_woolAt (l := 1) hR hC hr (by omega) (by omega) (by omega) hi hk) ?_
    refine ev_go 5 (q := 29) rfl ?_
    rw [nI_s]
    refine ev_go 2 (q := 32) (st' := .int 3 :: .int (nI 2) :: _) rfl ?_
    refine ev_icmp_ge (t := 58) (q := 35) rfl rfl rfl (fun c => absurd c (by decide)) (fun _ => ?_)
    refine ev_go 7 (q := 46) (st' := .int (nI 2) :: _) rfl ?_
    refine ev_virt (z' := z_Cloth_woolAt) (q := 49) rfl rfl (by decide) rfl (by simp [Value.category]) rfl (by omega) rfl rfl hi (k_woolAt (l := 2) hR hC hr (by omega) (by omega) (by omega) hi hk) ?_
    refine ev_go 5 (q := 29) rfl ?_
    rw [nI_s]
    refine ev_go 2 (q := 32) (st' := .int 3 :: .int (nI 3) :: _) rfl ?_
    refine ev_icmp_ge (t := 58) (q := 35) rfl rfl rfl (fun _ => ?_) (fun c => absurd (by decide) c)
    refine ev_go 6 (q := 67) (st' := _ :: _ :: _ :: .long (31 * _) :: _) rfl ?_
    refine ev_virt (z' := z_Cloth_isChosen) (q := 70) rfl rfl (by decide) rfl (by simp [Value.category]) rfl (by omega) rfl rfl hi (k_isChosen hR hC hr (by omega) (by omega) hi hk) ?_
    refine ev_if_eq (t := 77) (q := 73) rfl rfl rfl (fun zc1 => ?_) (fun zc1 => ?_)
    · refine ev_go 8 (q := 20) rfl ?_
      refine ev_get (q := 23) rfl hi rfl rfl rfl ?_
      rw [nI_s]
      refine l_fp_in hd hR hC hi hk hr m (c + 1) _ _ (by omega) (fun e => ?_)
      have K1 := K e
      rw [sp_it] at K1
      dsimp only at K1
      rw [show sp_fk (f (cx r c 0)) (f (cx r c 1)) (f (cx r c 2)) (am_b (f (cx r c 3) = 1)) x = sp_fk (f (cx r c 0)) (f (cx r c 1)) (f (cx r c 2)) 0 x by rw [am_bz (am_b0.mp zc1)]] at K1
      exact K1
    · refine ev_go 9 (q := 20) rfl ?_
      refine ev_get (q := 23) rfl hi rfl rfl rfl ?_
      rw [nI_s]
      refine l_fp_in hd hR hC hi hk hr m (c + 1) _ _ (by omega) (fun e => ?_)
      have K1 := K e
      rw [sp_it] at K1
      dsimp only at K1
      rw [show sp_fk (f (cx r c 0)) (f (cx r c 1)) (f (cx r c 2)) (am_b (f (cx r c 3) = 1)) x = sp_fk (f (cx r c 0)) (f (cx r c 1)) (f (cx r c 2)) 1 x by rw [am_b1 (am_bn.mp zc1)]] at K1
      exact K1
theorem l_fp_out (hd : 1 < d) (hR : R ≤ 10) (hC : C ≤ 10) (hi : am_is h a (am_cloth (nI R) (nI C) use sh k)) (hk : am_is h k (am_ia 400 f)) : ∀ (m r : Nat) (x : Int64) (e e1 : Option Value), r + m = R → (∀ e e1, am_ev d z_Cloth_fingerprint (93, [some (.ref a), some (.long (sp_it (fun r => sp_it ((fun r c => sp_fk (f (cx r c 0)) (f (cx r c 1)) (f (cx r c 2)) (am_b (f (cx r c 3) = 1))) r) 0 C) r m x)), none, some (.int (nI R)), e, e1], [], h) res h') → am_ev d z_Cloth_fingerprint (11, [some (.ref a), some (.long x), none, some (.int (nI r)), e, e1], [.int (nI R), .int (nI r)], h) res h'
  | 0, r, x, e, e1, hm, K => by
    refine ev_icmp_ge (t := 93) (q := 14) rfl rfl rfl (fun _ => ?_) (fun c1 => absurd (nI_end hm (by omega)) c1)
    have hc : r = R := hm
    subst hc
    exact K e e1
  | m + 1, r, x, e, e1, hm, K => by
    refine ev_icmp_ge (t := 93) (q := 14) rfl rfl rfl (fun c1 => absurd c1 (nI_ge (by omega) (by omega))) (fun _ => ?_)
    refine ev_go 4 (q := 20) rfl ?_
    refine ev_get (q := 23) rfl hi rfl rfl rfl ?_
    refine l_fp_in hd hR hC hi hk (by omega) C 0 x _ (by omega) (fun e => ?_)
    refine ev_go 4 (q := 8) rfl ?_
    refine ev_get (q := 11) rfl hi rfl rfl rfl ?_
    rw [nI_s]
    exact l_fp_out hd hR hC hi hk m (r + 1) _ _ _ (by omega) K
theorem k_fingerprint (hd : 1 < d) (hR : R ≤ 10) (hC : C ≤ 10) (hi : am_is h a (am_cloth (nI R) (nI C) use sh k)) (hk : am_is h k (am_ia 400 f)) : am_m d z_Cloth_fingerprint [.ref a] h (some (.long (sp_fp f R C use sh))) h := by
  refine ev_go 6 (q := 8) rfl ?_
  refine ev_get (q := 11) rfl hi rfl rfl rfl ?_
  refine l_fp_out hd hR hC hi hk R 0 7 _ _ (by omega) (fun e e1 => ?_)
  refine ev_go 4 (q := 99) (st' := _ :: .long (31 * _) :: _) rfl ?_
  refine ev_get (q := 102) rfl hi rfl rfl rfl ?_
  refine ev_go 7 (q := 111) (st' := _ :: .long (31 * _) :: _) rfl ?_
  refine ev_get (q := 114) rfl hi rfl rfl rfl ?_
  refine ev_go 2 (q := 116) rfl ?_
  exact ev_lret rfl rfl (rfl) (rfl)
end CE
end
section
/-! the cloth of the class: made, woven, copied; commands; handles -/
section CF
variable {d : Nat} {h h' : am_H} {a k a2 k2 R C : Nat} {rows cols use sh rows2 cols2 use2 sh2 : Int32} {f f2 : Nat → Int32} {res : Option Value}
theorem am_new_up (h : am_H) (n : Nat) (x y : am_C) : am_up (am_new h n x) h.1 y = am_new h n y := by
  unfold am_up am_new
  dsimp only
  rw [bx_uu]
theorem am_up_new (h : am_H) {b n : Nat} (x y : am_C) (hb : b ≠ h.1) : am_up (am_new h n x) b y = am_new (am_up h b y) n x := by
  unfold am_up am_new
  dsimp only
  congr 2
  funext j
  by_cases q : j = b
  · subst q; rw [va_up_self, va_up_ne _ _ hb, va_up_self]
  · rw [va_up_ne _ _ q]
    by_cases q2 : j = h.1
    · subst q2; rw [va_up_self, va_up_self]
    · rw [va_up_ne _ _ q2, va_up_ne _ _ q2, va_up_ne _ _ q]
theorem am_is.up_lt {h : am_H} {b : Nat} {x : am_C} {j : Nat} {y : am_C} (q : am_is (am_up h b x) j y) : j < h.1 := q.1
theorem k_Cloth_init {c0 : List Value} (hd : 0 < d) (hi : am_is h a (.inr (0, [.int 0, .int 0, .int 0, .int 0, .null]))) : am_m d z_Cloth_init [.ref a] h none (am_new (am_up h a (am_cloth 1 1 0 0 h.1)) 400 (am_ia 400 (fun _ => 0))) := by
  have hne : a ≠ h.1 := Nat.ne_of_lt hi.1
  refine ev_go 1 (q := 1) rfl ?_
  refine ev_oinit (q := 4) rfl rfl (by omega) (by decide) rfl ?_
  refine ev_go 2 (q := 6) (st' := .int 1 :: _) rfl ?_
  refine ev_put (q := 9) rfl hi rfl (Nat.le_of_ble_eq_true rfl) rfl rfl rfl ?_
  refine ev_go 2 (q := 11) (st' := .int 1 :: _) rfl ?_
  refine ev_put (q := 14) rfl hi.self rfl (Nat.le_of_ble_eq_true rfl) rfl rfl rfl ?_
  rw [am_up_up]
  refine ev_go 2 (q := 16) (st' := .int 0 :: _) rfl ?_
  refine ev_put (q := 19) rfl hi.self rfl (Nat.le_of_ble_eq_true rfl) rfl rfl rfl ?_
  rw [am_up_up]
  refine ev_go 2 (q := 21) (st' := .int 0 :: _) rfl ?_
  refine ev_put (q := 24) rfl hi.self rfl (Nat.le_of_ble_eq_true rfl) rfl rfl rfl ?_
  rw [am_up_up]
  refine ev_go 2 (q := 28) (st' := .int 400 :: _) rfl ?_
  refine ev_newa (N := 400) (q := 30) rfl rfl (by decide) rfl ?_
  refine ev_put (q := 33) rfl hi.self.new rfl (Nat.le_of_ble_eq_true rfl) rfl rfl rfl ?_
  refine ev_vret rfl rfl ?_
  rw [am_up_new _ _ _ (show a ≠ (am_up h a _).1 from hne), am_up_up]
  rfl
def sp_new : Nat → Int32 := fun j => if j % 4 = 3 then 1 else 0
def sp_newp (f : Nat → Int32) (i : Nat) : Nat → Int32 := fun j => if j < i then sp_new j else f j
theorem sp_newp_s (f : Nat → Int32) (i : Nat) : va_up (sp_newp f i) i (sp_new i) = sp_newp f (i + 1) := by
  funext j
  unfold sp_newp
  by_cases q : j = i
  · subst q; rw [va_up_self, if_pos (by omega)]
  · rw [va_up_ne _ _ q]
    by_cases q2 : j < i
    · rw [if_pos q2, if_pos (by omega)]
    · rw [if_neg q2, if_neg (by omega)]
theorem l_weave {rr cc0 : Int32} (hi : am_is h a (am_cloth rows cols use sh k)) (hk : am_is h k (am_ia 400 f)) (hak : a ≠ k) : ∀ (m i : Nat), i + m = 400 → am_ev d z_Cloth_weave (56, [some (.ref a), some (.int rr), some (.int cc0), some (.int (nI 400))], [], am_up h k (am_ia 400 (sp_newp f 400))) res h' → am_ev d z_Cloth_weave (29, [some (.ref a), some (.int rr), some (.int cc0), some (.int (nI i))], [.int 400, .int (nI i)], am_up h k (am_ia 400 (sp_newp f i))) res h'
  | 0, i, hm, K => by
    refine ev_icmp_ge (t := 56) (q := 32) rfl rfl rfl (fun _ => ?_) (fun c1 => absurd (nI_end (b := 400) hm (by omega)) c1)
    have hc : i = 400 := hm
    subst hc
    exact K
  | m + 1, i, hm, K => by
    have hi' := hi.ne (x := am_ia 400 (sp_newp f i)) hak
    have hk' := hk.self (x := am_ia 400 (sp_newp f i))
    refine ev_icmp_ge (t := 56) (q := 32) rfl rfl rfl (fun c1 => absurd c1 (nI_ge (b := 400) (by omega) (by omega))) (fun _ => ?_)
    refine ev_go 1 (q := 33) rfl ?_
    refine ev_get (q := 36) rfl hi' rfl rfl rfl ?_
    refine ev_go 3 (q := 39) (st' := .int 4 :: _) rfl ?_
    refine ev_rem (q := 40) rfl (by decide) rfl ?_
    rw [show nI i - nI i / 4 * 4 = nI (i % 4) from pk_rem (d := 4) (by omega) (by decide) (by decide)]
    refine ev_go 1 (q := 41) (st' := .int 3 :: _) rfl ?_
    refine ev_icmp_ne (t := 48) (q := 44) rfl rfl rfl (fun zc1 => ?_) (fun zc1 => ?_)
    · have hno : ¬ i % 4 = 3 := fun q => zc1 (by rw [q]; rfl)
      refine ev_go 1 (q := 49) (st' := .int (sp_new i) :: _) (by unfold sp_new; rw [if_neg hno]; rfl) ?_
      refine ev_iastn (q := 50) rfl hk' rfl (by omega) (by decide) rfl ?_
      rw [am_up_up, sp_newp_s]
      refine ev_go 4 (q := 25) rfl ?_
      rw [nI_s]
      refine ev_get (q := 28) rfl (hi.ne hak) rfl rfl rfl ?_
      refine ev_alen (q := 29) rfl hk.self (by decide) rfl rfl ?_
      exact l_weave hi hk hak m (i + 1) (by omega) K
    · have hno : i % 4 = 3 := (nI_eq (by omega) (by decide)).mp zc1
      refine ev_go 2 (q := 49) (st' := .int (sp_new i) :: _) (by unfold sp_new; rw [if_pos hno]; rfl) ?_
      refine ev_iastn (q := 50) rfl hk' rfl (by omega) (by decide) rfl ?_
      rw [am_up_up, sp_newp_s]
      refine ev_go 4 (q := 25) rfl ?_
      rw [nI_s]
      refine ev_get (q := 28) rfl (hi.ne hak) rfl rfl rfl ?_
      refine ev_alen (q := 29) rfl hk.self (by decide) rfl rfl ?_
      exact l_weave hi hk hak m (i + 1) (by omega) K
theorem k_weave {rr cc0 : Int32} (hi : am_is h a (am_cloth rows cols use sh k)) (hk : am_is h k (am_ia 400 f)) (hak : a ≠ k) : am_m d z_Cloth_weave [.ref a, .int rr, .int cc0] h none (am_up (am_up h a (am_cloth rr cc0 0 7 k)) k (am_ia 400 (sp_newp f 400))) := by
  refine ev_go 2 (q := 2) rfl ?_
  refine ev_put (q := 5) rfl hi rfl (Nat.le_of_ble_eq_true rfl) rfl rfl rfl ?_
  refine ev_go 2 (q := 7) rfl ?_
  refine ev_put (q := 10) rfl hi.self rfl (Nat.le_of_ble_eq_true rfl) rfl rfl rfl ?_
  rw [am_up_up]
  refine ev_go 2 (q := 12) (st' := .int 0 :: _) rfl ?_
  refine ev_put (q := 15) rfl hi.self rfl (Nat.le_of_ble_eq_true rfl) rfl rfl rfl ?_
  rw [am_up_up]
  refine ev_go 2 (q := 18) (st' := .int 7 :: _) rfl ?_
  refine ev_put (q := 21) rfl hi.self rfl (Nat.le_of_ble_eq_true rfl) rfl rfl rfl ?_
  rw [am_up_up]
  refine ev_go 4 (q := 25) rfl ?_
  refine ev_get (q := 28) rfl hi.self rfl rfl rfl ?_
  refine ev_alen (q := 29) rfl (hk.ne (Ne.symm hak)) (by decide) rfl rfl ?_
  have hk2 := hk.ne (x := am_cloth rr cc0 0 7 k) (Ne.symm hak)
  have e0 : am_up (am_up h a (am_cloth rr cc0 0 7 k)) k (am_ia 400 (sp_newp f 0)) = am_up h a (am_cloth rr cc0 0 7 k) := am_up_id hk2.2
  have K := l_weave (d := d) (rr := rr) (cc0 := cc0) (res := none) (h' := am_up (am_up h a (am_cloth rr cc0 0 7 k)) k (am_ia 400 (sp_newp f 400))) (hi.self (x := am_cloth rr cc0 0 7 k)) hk2 hak 400 0 (by omega) (ev_vret rfl rfl rfl)
  rw [e0] at K
  exact K
theorem k_copyFrom (hd : 0 < d) (hi : am_is h a (am_cloth rows cols use sh k)) (hk : am_is h k (am_ia 400 f)) (hi2 : am_is h a2 (am_cloth rows2 cols2 use2 sh2 k2)) (hk2 : am_is h k2 (am_ia 400 f2)) (h1 : a ≠ a2) (h2 : a ≠ k) (h3 : a ≠ k2) : am_m d z_Cloth_copyFrom [.ref a, .ref a2] h none (am_up (am_up h a (am_cloth rows2 cols2 use2 sh2 k)) k (am_ia 400 (va_cpy f2 f 0 0 400))) := by
  refine ev_go 2 (q := 2) rfl ?_
  refine ev_get (q := 5) rfl hi2 rfl rfl rfl ?_
  refine ev_put (q := 8) rfl hi rfl (Nat.le_of_ble_eq_true rfl) rfl rfl rfl ?_
  refine ev_go 2 (q := 10) rfl ?_
  refine ev_get (q := 13) rfl (hi2.ne (Ne.symm h1)) rfl rfl rfl ?_
  refine ev_put (q := 16) rfl hi.self rfl (Nat.le_of_ble_eq_true rfl) rfl rfl rfl ?_
  rw [am_up_up]
  refine ev_go 2 (q := 18) rfl ?_
  refine ev_get (q := 21) rfl (hi2.ne (Ne.symm h1)) rfl rfl rfl ?_
  refine ev_put (q := 24) rfl hi.self rfl (Nat.le_of_ble_eq_true rfl) rfl rfl rfl ?_
  rw [am_up_up]
  refine ev_go 2 (q := 26) rfl ?_
  refine ev_get (q := 29) rfl (hi2.ne (Ne.symm h1)) rfl rfl rfl ?_
  refine ev_put (q := 32) rfl hi.self rfl (Nat.le_of_ble_eq_true rfl) rfl rfl rfl ?_
  rw [am_up_up]
  refine ev_go 1 (q := 33) rfl ?_
  refine ev_get (q := 36) rfl (hi2.ne (Ne.symm h1)) rfl rfl rfl ?_
  refine ev_go 2 (q := 38) (st' := _ :: .int 0 :: _) rfl ?_
  refine ev_get (q := 41) rfl hi.self rfl rfl rfl ?_
  refine ev_go 2 (q := 43) (st' := _ :: .int 0 :: _) rfl ?_
  refine ev_get (q := 46) rfl hi.self rfl rfl rfl ?_
  refine ev_alen (v := 400) (q := 47) rfl (hk.ne (Ne.symm h2)) (by decide) rfl rfl ?_
  refine ev_copy (q := 50) rfl rfl hd (by decide) (hk2.ne (Ne.symm h3)) (hk.ne (Ne.symm h2)) (by decide) rfl ?_
  exact ev_vret rfl rfl rfl
end CF
end
section
/-! the reference's object and its rows, laid over a heap: its ints σ by their places, its trace t, its rows A -/
def am_ml (σ : Nat → Int32) (t : Int64) : List Value := [.int (σ 0), .int (σ 1), .int (σ 2), .ref 19, .ref 20, .int (σ 5), .int (σ 6), .ref 21, .ref 22, .ref 23, .int (σ 10), .int (σ 11), .int (σ 12), .ref 24, .ref 25, .ref 26, .int (σ 16), .ref 27, .ref 28, .ref 29, .ref 30, .ref 31, .ref 32, .ref 33, .int (σ 24), .int (σ 25), .int (σ 26), .int (σ 27), .int (σ 28), .long t, .ref 34, .ref 35, .int (σ 32), .int (σ 33), .int (σ 34), .int (σ 35), .ref 36, .ref 37, .ref 38, .ref 39, .ref 40, .ref 41, .ref 42, .int (σ 43)]
def mlen (j : Nat) : Nat := match j with
  | 0 => 300
  | 1 => 100
  | 2 => 24120
  | 3 => 60
  | 4 => 60
  | 5 => 40
  | 6 => 200
  | 7 => 200
  | 8 => 20
  | 9 => 20
  | 10 => 20
  | 11 => 20
  | 12 => 20
  | 13 => 160
  | 14 => 640
  | 15 => 5
  | 16 => 100
  | 17 => 100
  | 18 => 5
  | 19 => 20
  | 20 => 20
  | 21 => 20
  | 22 => 20
  | _ => 20
def mty (j : Nat) : Nat := match j with
  | 0 => 0
  | 1 => 1
  | 2 => 0
  | 3 => 0
  | 4 => 1
  | 5 => 0
  | 6 => 1
  | 7 => 0
  | 8 => 0
  | 9 => 0
  | 10 => 0
  | 11 => 0
  | 12 => 0
  | 13 => 0
  | 14 => 0
  | 15 => 0
  | 16 => 0
  | 17 => 1
  | 18 => 0
  | 19 => 0
  | 20 => 0
  | 21 => 0
  | 22 => 0
  | _ => 0
def mF (h : Nat → am_C) (σ : Nat → Int32) (t : Int64) (A : Nat → Nat → Int32) : Nat → am_C := fun k => if k = 18 then .inr (12, am_ml σ t) else if 19 ≤ k ∧ k < 43 then .inl (mty (k - 19), mlen (k - 19), .inl (A (k - 19))) else h k
def mH (h : am_H) (σ : Nat → Int32) (t : Int64) (A : Nat → Nat → Int32) : am_H := (h.1, h.2.1, mF h.2.2 σ t A)
theorem mty01 : ∀ j, mty j = 0 ∨ mty j = 1 := by
  intro j
  unfold mty
  split <;> simp
theorem mlen_le : ∀ j, mlen j ≤ 100000 := by
  intro j
  unfold mlen
  split <;> omega
section MR
variable {d z pc q : Nat} {L : List (Option Value)} {st : List Value} {h h' : am_H} {r : Option Value} {σ σ' : Nat → Int32} {t t' : Int64} {A : Nat → Nat → Int32}
theorem mH_o (hn : 43 ≤ h.1) : am_is (mH h σ t A) 18 (.inr (12, am_ml σ t)) := ⟨Nat.lt_of_lt_of_le (by decide) hn, show mF h.2.2 σ t A 18 = _ from if_pos rfl⟩
theorem mH_a (hn : 43 ≤ h.1) {j : Nat} (hj : j < 24) : am_is (mH h σ t A) (j + 19) (.inl (mty j, mlen j, .inl (A j))) := by
  refine ⟨Nat.lt_of_lt_of_le (by omega : j + 19 < 43) hn, ?_⟩
  show mF h.2.2 σ t A (j + 19) = _
  unfold mF
  rw [if_neg (by omega), if_pos (by omega), Nat.add_sub_cancel]
theorem mH_up_o : am_up (mH h σ t A) 18 (.inr (12, am_ml σ' t')) = mH h σ' t' A := by
  unfold am_up mH
  dsimp only
  congr 2
  funext j
  by_cases q : j = 18
  · subst q; rw [va_up_self]; exact (if_pos rfl).symm
  · rw [va_up_ne _ _ q]; unfold mF; rw [if_neg q, if_neg q]
theorem mH_up_a {j : Nat} (hj : j < 24) {g : Nat → Int32} : am_up (mH h σ t A) (j + 19) (.inl (mty j, mlen j, .inl g)) = mH h σ t (va_up A j g) := by
  unfold am_up mH
  dsimp only
  congr 2
  funext i
  by_cases q : i = j + 19
  · subst q
    rw [va_up_self]
    unfold mF
    rw [if_neg (by omega), if_pos (by omega), Nat.add_sub_cancel, va_up_self]
  · rw [va_up_ne _ _ q]
    unfold mF
    by_cases q1 : i = 18
    · rw [if_pos q1, if_pos q1]
    · rw [if_neg q1, if_neg q1]
      by_cases q2 : 19 ≤ i ∧ i < 43
      · rw [if_pos q2, if_pos q2, va_up_ne _ _ (show i - 19 ≠ j by omega)]
      · rw [if_neg q2, if_neg q2]
theorem ev_mput {n len aux j : Nat} {x : Int32} (hn : 43 ≤ h.1) (hf : am_fetch z pc = some (.putfield n, len, aux)) (hci : 12 = aux / 1000000) (hj : aux / 10000 % 100 = j) (hl : j < 44) (ht : am_yModel j = .int) (hs : (am_ml σ t).set j (.int x) = am_ml (va_up σ j x) t) (hq : pc + 3 = q) (k : am_ev d z (q, L, st, mH h (va_up σ j x) t A) r h') : am_ev d z (pc, L, .int x :: .ref 18 :: st, mH h σ t A) r h' := by
  refine ev_put (fs' := am_ml (va_up σ j x) t) hf (mH_o hn) hci (by rw [hj]; exact hl) ?_ (by rw [hj]; exact hs) hq ?_
  · rw [hj]
    show am_fit (am_yModel j) (.int x) = true
    rw [ht]
    rfl
  · rw [mH_up_o]
    exact k
theorem ev_mputl {n len aux : Nat} {x : Int64} (hn : 43 ≤ h.1) (hf : am_fetch z pc = some (.putfield n, len, aux)) (hci : 12 = aux / 1000000) (hj : aux / 10000 % 100 = 29) (hl : 29 < 44) (ht : am_yModel 29 = .long) (hs : (am_ml σ t).set 29 (.long x) = am_ml σ x) (hq : pc + 3 = q) (k : am_ev d z (q, L, st, mH h σ x A) r h') : am_ev d z (pc, L, .long x :: .ref 18 :: st, mH h σ t A) r h' := by
  refine ev_put (fs' := am_ml σ x) hf (mH_o hn) hci (by rw [hj]; exact hl) ?_ (by rw [hj]; exact hs) hq ?_
  · rw [hj]
    rfl
  · rw [mH_up_o]
    exact k
theorem ev_mia {len aux j k : Nat} {i : Int32} (hn : 43 ≤ h.1) (hf : am_fetch z pc = some (.iaload, len, aux)) (hj : j < 24) (ht : mty j = 0) (he : i = nI k) (hk : k < mlen j) (hq : pc + 1 = q) (kk : am_ev d z (q, L, .int (A j k) :: st, mH h σ t A) r h') : am_ev d z (pc, L, .int i :: .ref (j + 19) :: st, mH h σ t A) r h' := by
  have hi := mH_a (h := h) (σ := σ) (t := t) (A := A) hn hj
  rw [ht] at hi
  exact ev_ialdn hf hi he hk (mlen_le j) hq kk
theorem ev_mza {len aux j k : Nat} {i : Int32} (hn : 43 ≤ h.1) (hf : am_fetch z pc = some (.baload, len, aux)) (hj : j < 24) (ht : mty j = 1) (he : i = nI k) (hk : k < mlen j) (hq : pc + 1 = q) (kk : am_ev d z (q, L, .int (A j k) :: st, mH h σ t A) r h') : am_ev d z (pc, L, .int i :: .ref (j + 19) :: st, mH h σ t A) r h' := by
  have hi := mH_a (h := h) (σ := σ) (t := t) (A := A) hn hj
  rw [ht] at hi
  exact ev_zaldn hf hi he hk (mlen_le j) hq kk
theorem ev_mias {len aux j k : Nat} {i x : Int32} (hn : 43 ≤ h.1) (hf : am_fetch z pc = some (.iastore, len, aux)) (hj : j < 24) (ht : mty j = 0) (he : i = nI k) (hk : k < mlen j) (hq : pc + 1 = q) (kk : am_ev d z (q, L, st, mH h σ t (va_up A j (va_up (A j) k x))) r h') : am_ev d z (pc, L, .int x :: .int i :: .ref (j + 19) :: st, mH h σ t A) r h' := by
  have hi := mH_a (h := h) (σ := σ) (t := t) (A := A) hn hj
  have hu := mH_up_a (h := h) (σ := σ) (t := t) (A := A) hj (g := va_up (A j) k x)
  rw [ht] at hi hu
  refine ev_iastn hf hi he hk (mlen_le j) hq ?_
  rw [hu]
  exact kk
theorem ev_mzas {len aux j k : Nat} {i x : Int32} (hn : 43 ≤ h.1) (hf : am_fetch z pc = some (.bastore, len, aux)) (hj : j < 24) (ht : mty j = 1) (he : i = nI k) (hk : k < mlen j) (hq : pc + 1 = q) (kk : am_ev d z (q, L, st, mH h σ t (va_up A j (va_up (A j) k (x &&& 1)))) r h') : am_ev d z (pc, L, .int x :: .int i :: .ref (j + 19) :: st, mH h σ t A) r h' := by
  have hi := mH_a (h := h) (σ := σ) (t := t) (A := A) hn hj
  have hu := mH_up_a (h := h) (σ := σ) (t := t) (A := A) hj (g := va_up (A j) k (x &&& 1))
  rw [ht] at hi hu
  refine ev_zastn hf hi he hk (mlen_le j) hq ?_
  rw [hu]
  exact kk
end MR
theorem mls_0 (σ : Nat → Int32) (t : Int64) (x : Int32) : (am_ml σ t).set 0 (.int x) = am_ml (va_up σ 0 x) t := rfl
theorem mls_1 (σ : Nat → Int32) (t : Int64) (x : Int32) : (am_ml σ t).set 1 (.int x) = am_ml (va_up σ 1 x) t := rfl
theorem mls_2 (σ : Nat → Int32) (t : Int64) (x : Int32) : (am_ml σ t).set 2 (.int x) = am_ml (va_up σ 2 x) t := rfl
theorem mls_5 (σ : Nat → Int32) (t : Int64) (x : Int32) : (am_ml σ t).set 5 (.int x) = am_ml (va_up σ 5 x) t := rfl
theorem mls_6 (σ : Nat → Int32) (t : Int64) (x : Int32) : (am_ml σ t).set 6 (.int x) = am_ml (va_up σ 6 x) t := rfl
theorem mls_10 (σ : Nat → Int32) (t : Int64) (x : Int32) : (am_ml σ t).set 10 (.int x) = am_ml (va_up σ 10 x) t := rfl
theorem mls_11 (σ : Nat → Int32) (t : Int64) (x : Int32) : (am_ml σ t).set 11 (.int x) = am_ml (va_up σ 11 x) t := rfl
theorem mls_12 (σ : Nat → Int32) (t : Int64) (x : Int32) : (am_ml σ t).set 12 (.int x) = am_ml (va_up σ 12 x) t := rfl
theorem mls_16 (σ : Nat → Int32) (t : Int64) (x : Int32) : (am_ml σ t).set 16 (.int x) = am_ml (va_up σ 16 x) t := rfl
theorem mls_24 (σ : Nat → Int32) (t : Int64) (x : Int32) : (am_ml σ t).set 24 (.int x) = am_ml (va_up σ 24 x) t := rfl
theorem mls_25 (σ : Nat → Int32) (t : Int64) (x : Int32) : (am_ml σ t).set 25 (.int x) = am_ml (va_up σ 25 x) t := rfl
theorem mls_26 (σ : Nat → Int32) (t : Int64) (x : Int32) : (am_ml σ t).set 26 (.int x) = am_ml (va_up σ 26 x) t := rfl
theorem mls_27 (σ : Nat → Int32) (t : Int64) (x : Int32) : (am_ml σ t).set 27 (.int x) = am_ml (va_up σ 27 x) t := rfl
theorem mls_28 (σ : Nat → Int32) (t : Int64) (x : Int32) : (am_ml σ t).set 28 (.int x) = am_ml (va_up σ 28 x) t := rfl
theorem mls_29 (σ : Nat → Int32) (t x : Int64) : (am_ml σ t).set 29 (.long x) = am_ml σ x := rfl
theorem mls_32 (σ : Nat → Int32) (t : Int64) (x : Int32) : (am_ml σ t).set 32 (.int x) = am_ml (va_up σ 32 x) t := rfl
theorem mls_33 (σ : Nat → Int32) (t : Int64) (x : Int32) : (am_ml σ t).set 33 (.int x) = am_ml (va_up σ 33 x) t := rfl
theorem mls_34 (σ : Nat → Int32) (t : Int64) (x : Int32) : (am_ml σ t).set 34 (.int x) = am_ml (va_up σ 34 x) t := rfl
theorem mls_35 (σ : Nat → Int32) (t : Int64) (x : Int32) : (am_ml σ t).set 35 (.int x) = am_ml (va_up σ 35 x) t := rfl
theorem mls_43 (σ : Nat → Int32) (t : Int64) (x : Int32) : (am_ml σ t).set 43 (.int x) = am_ml (va_up σ 43 x) t := rfl
section M1
variable {d : Nat} {h h' : am_H} {σ : Nat → Int32} {t : Int64} {A : Nat → Nat → Int32} {res : Option Value} {R C : Nat}
theorem kn_m {R C : Nat} (hR : 1 ≤ R ∧ R ≤ 10) (hC : 1 ≤ C ∧ C ≤ 10) (r c : Int32) : cl_kn R C r c ↔ (0 ≤ r ∧ r ≤ nI R - 1) ∧ 0 ≤ c ∧ c ≤ nI C - 1 := by
  rw [show nI R - 1 = nI (R - 1) by rw [show (1 : Int32) = nI 1 from rfl, pk_sub hR.1], show nI C - 1 = nI (C - 1) by rw [show (1 : Int32) = nI 1 from rfl, pk_sub hC.1]]
  simp only [cl_kn, Int32.lt_iff_toInt_lt, Int32.le_iff_toInt_le, nI_toInt (show R < 2 ^ 31 by omega), nI_toInt (show C < 2 ^ 31 by omega), nI_toInt (show R - 1 < 2 ^ 31 by omega), nI_toInt (show C - 1 < 2 ^ 31 by omega)]
  constructor
  · rintro ⟨⟨a1, a2⟩, a3, a4⟩
    refine ⟨⟨a1, ?_⟩, a3, ?_⟩ <;> omega
  · rintro ⟨⟨a1, a2⟩, a3, a4⟩
    refine ⟨⟨a1, ?_⟩, a3, ?_⟩ <;> omega
theorem m_isKnot (hn : 43 ≤ h.1) (hd : 0 < d) (hR : 1 ≤ R ∧ R ≤ 10) (hC : 1 ≤ C ∧ C ≤ 10) (h1 : σ 1 = nI R) (h2 : σ 2 = nI C) (r c : Int32) : am_m d z_Model_isKnot [.ref 18, .int r, .int c] (mH h σ t A) (some (.int (am_b (cl_kn R C r c)))) (mH h σ t A) := by
  refine ev_go 3 (q := 3) (st' := _ :: .int 0 :: _ :: _) rfl ?_
  refine ev_get (q := 6) rfl (mH_o hn) rfl rfl rfl ?_
  refine ev_go 2 (q := 8) (st' := .int (_ - 1) :: _ :: _ :: _) rfl ?_
  refine ev_static (z' := z_Model_in) (q := 11) rfl rfl (by decide) rfl rfl (by simp [Value.category]) rfl (by omega) (k_in _ _ _) ?_
  refine ev_if_eq (t := 32) (q := 14) rfl rfl rfl (fun zc1 => ?_) (fun zc1 => ?_)
  · refine ev_go 1 (q := 33) (st' := .int 0 :: _) rfl ?_
    exact ev_zret rfl rfl (by first | exact Or.inl rfl | exact Or.inr rfl | assumption) (by rw [h1] at zc1; exact (am_bz (fun q => am_b0.mp zc1 ((kn_m hR hC r c).mp q).1)).symm) (rfl)
  · refine ev_go 3 (q := 17) (st' := _ :: .int 0 :: _ :: _) rfl ?_
    refine ev_get (q := 20) rfl (mH_o hn) rfl rfl rfl ?_
    refine ev_go 2 (q := 22) (st' := .int (_ - 1) :: _ :: _ :: _) rfl ?_
    refine ev_static (z' := z_Model_in) (q := 25) rfl rfl (by decide) rfl rfl (by simp [Value.category]) rfl (by omega) (k_in _ _ _) ?_
    refine ev_if_eq (t := 32) (q := 28) rfl rfl rfl (fun zc2 => ?_) (fun zc2 => ?_)
    · refine ev_go 1 (q := 33) (st' := .int 0 :: _) rfl ?_
      exact ev_zret rfl rfl (by first | exact Or.inl rfl | exact Or.inr rfl | assumption) (by rw [h2] at zc2; exact (am_bz (fun q => am_b0.mp zc2 ((kn_m hR hC r c).mp q).2)).symm) (rfl)
    · refine ev_go 2 (q := 33) (st' := .int 1 :: _) rfl ?_
      exact ev_zret rfl rfl (by first | exact Or.inl rfl | exact Or.inr rfl | assumption) (by rw [h1] at zc1; rw [h2] at zc2; exact (am_b1 ((kn_m hR hC r c).mpr ⟨am_bn.mp zc1, am_bn.mp zc2⟩)).symm) (rfl)
theorem m_knT (hn : 43 ≤ h.1) (hd : 0 < d) (hR : 1 ≤ R ∧ R ≤ 10) (hC : 1 ≤ C ∧ C ≤ 10) (h1 : σ 1 = nI R) (h2 : σ 2 = nI C) {r c : Nat} (hr : r < R) (hc : c < C) : am_m d z_Model_isKnot [.ref 18, .int (nI r), .int (nI c)] (mH h σ t A) (some (.int 1)) (mH h σ t A) := by
  rw [← am_b1 (kn_in hR.2 hC.2 hr hc)]
  exact m_isKnot hn hd hR hC h1 h2 _ _
theorem m_knF (hn : 43 ≤ h.1) (hd : 0 < d) (hR : 1 ≤ R ∧ R ≤ 10) (hC : 1 ≤ C ∧ C ≤ 10) (h1 : σ 1 = nI R) (h2 : σ 2 = nI C) {r c : Int32} (hno : ¬ cl_kn R C r c) : am_m d z_Model_isKnot [.ref 18, .int r, .int c] (mH h σ t A) (some (.int 0)) (mH h σ t A) := by
  rw [← am_bz hno]
  exact m_isKnot hn hd hR hC h1 h2 _ _
theorem mx_ix (l k : Nat) : 100 * nI l + nI k = nI (100 * l + k) := by
  rw [show (100 : Int32) = nI 100 from rfl, pk_mul, nI_add]
theorem mx_k (r c : Nat) : 10 * nI r + nI c = nI (10 * r + c) := by
  rw [show (10 : Int32) = nI 10 from rfl, pk_mul, nI_add]
theorem m_seen (hn : 43 ≤ h.1) {k : Nat} (hk : k < 100) : am_m d z_Model_seen [.ref 18, .int (nI k)] (mH h σ t A) (some (.int (sp_seen (σ 6) (fun l => A 0 (100 * l + k))))) (mH h σ t A) := by
  refine ev_go 2 (q := 2) rfl ?_
  rw [show Int32.ofInt 2 = nI 2 from rfl]
  refine ev_go 1 (q := 3) (st' := .int (nI 2) :: _) rfl ?_
  refine ev_if_lt (t := 50) (q := 6) rfl rfl rfl (fun c => absurd c (by decide)) (fun _ => ?_)
  refine ev_go 1 (q := 7) rfl ?_
  refine ev_get (q := 10) rfl (mH_o hn) rfl rfl rfl ?_
  refine ev_go 5 (q := 15) (st' := .int 1 :: .int ((σ 6 >>> (2 &&& 31)) &&& 1) :: _) rfl ?_
  refine ev_icmp_ne (t := 44) (q := 18) rfl rfl rfl (fun o2 => ?_) (fun o2 => ?_)
  · refine ev_go 2 (q := 2) rfl ?_
    rw [nI_p (by decide)]
    refine ev_go 1 (q := 3) (st' := .int (nI 1) :: _) rfl ?_
    refine ev_if_lt (t := 50) (q := 6) rfl rfl rfl (fun c => absurd c (by decide)) (fun _ => ?_)
    refine ev_go 1 (q := 7) rfl ?_
    refine ev_get (q := 10) rfl (mH_o hn) rfl rfl rfl ?_
    refine ev_go 5 (q := 15) (st' := .int 1 :: .int ((σ 6 >>> (1 &&& 31)) &&& 1) :: _) rfl ?_
    refine ev_icmp_ne (t := 44) (q := 18) rfl rfl rfl (fun o1 => ?_) (fun o1 => ?_)
    · refine ev_go 2 (q := 2) rfl ?_
      rw [nI_p (by decide)]
      refine ev_go 1 (q := 3) (st' := .int (nI 0) :: _) rfl ?_
      refine ev_if_lt (t := 50) (q := 6) rfl rfl rfl (fun c => absurd c (by decide)) (fun _ => ?_)
      refine ev_go 1 (q := 7) rfl ?_
      refine ev_get (q := 10) rfl (mH_o hn) rfl rfl rfl ?_
      refine ev_go 5 (q := 15) (st' := .int 1 :: .int ((σ 6 >>> (0 &&& 31)) &&& 1) :: _) rfl ?_
      refine ev_icmp_ne (t := 44) (q := 18) rfl rfl rfl (fun o0 => ?_) (fun o0 => ?_)
      · refine ev_go 3 (q := 3) (st' := .int (-1) :: _) rfl ?_
        refine ev_if_lt (t := 50) (q := 6) rfl rfl rfl (fun _ => ?_) (fun c => absurd (by decide) c)
        refine ev_go 1 (q := 51) (st' := .int 0 :: _) rfl ?_
        exact ev_iret rfl rfl (by unfold sp_seen; dsimp only; repeat (first | rfl | rw [if_pos ⟨by assumption, by assumption⟩] | rw [if_neg (fun q => absurd (by assumption) q.1)] | rw [if_neg (fun q => absurd q.2 (by assumption))])) rfl
      · refine ev_go 1 (q := 19) rfl ?_
        refine ev_get (q := 22) rfl (mH_o hn) rfl rfl rfl ?_
        refine ev_go 5 (q := 28) (st' := .int (100 * nI 0 + nI k) :: _) rfl ?_
        refine ev_mia (j := 0) (q := 29) hn rfl (by decide) rfl (mx_ix _ _) (show 100 * 0 + k < 300 by omega) rfl ?_
        refine ev_if_eq (t := 44) (q := 32) rfl rfl rfl (fun e0 => ?_) (fun e0 => ?_)
        · refine ev_go 3 (q := 3) (st' := .int (-1) :: _) rfl ?_
          refine ev_if_lt (t := 50) (q := 6) rfl rfl rfl (fun _ => ?_) (fun c => absurd (by decide) c)
          refine ev_go 1 (q := 51) (st' := .int 0 :: _) rfl ?_
          exact ev_iret rfl rfl (by unfold sp_seen; dsimp only; repeat (first | rfl | rw [if_pos ⟨by assumption, by assumption⟩] | rw [if_neg (fun q => absurd (by assumption) q.1)] | rw [if_neg (fun q => absurd q.2 (by assumption))])) rfl
        · refine ev_go 1 (q := 33) rfl ?_
          refine ev_get (q := 36) rfl (mH_o hn) rfl rfl rfl ?_
          refine ev_go 5 (q := 42) (st' := .int (100 * nI 0 + nI k) :: _) rfl ?_
          refine ev_mia (j := 0) (q := 43) hn rfl (by decide) rfl (mx_ix _ _) (show 100 * 0 + k < 300 by omega) rfl ?_
          exact ev_iret rfl rfl (by unfold sp_seen; dsimp only; repeat (first | rfl | rw [if_pos ⟨by assumption, by assumption⟩] | rw [if_neg (fun q => absurd (by assumption) q.1)] | rw [if_neg (fun q => absurd q.2 (by assumption))])) rfl
    · refine ev_go 1 (q := 19) rfl ?_
      refine ev_get (q := 22) rfl (mH_o hn) rfl rfl rfl ?_
      refine ev_go 5 (q := 28) (st' := .int (100 * nI 1 + nI k) :: _) rfl ?_
      refine ev_mia (j := 0) (q := 29) hn rfl (by decide) rfl (mx_ix _ _) (show 100 * 1 + k < 300 by omega) rfl ?_
      refine ev_if_eq (t := 44) (q := 32) rfl rfl rfl (fun e1 => ?_) (fun e1 => ?_)
      · refine ev_go 2 (q := 2) rfl ?_
        rw [nI_p (by decide)]
        refine ev_go 1 (q := 3) (st' := .int (nI 0) :: _) rfl ?_
        refine ev_if_lt (t := 50) (q := 6) rfl rfl rfl (fun c => absurd c (by decide)) (fun _ => ?_)
        refine ev_go 1 (q := 7) rfl ?_
        refine ev_get (q := 10) rfl (mH_o hn) rfl rfl rfl ?_
        refine ev_go 5 (q := 15) (st' := .int 1 :: .int ((σ 6 >>> (0 &&& 31)) &&& 1) :: _) rfl ?_
        refine ev_icmp_ne (t := 44) (q := 18) rfl rfl rfl (fun o0 => ?_) (fun o0 => ?_)
        · refine ev_go 3 (q := 3) (st' := .int (-1) :: _) rfl ?_
          refine ev_if_lt (t := 50) (q := 6) rfl rfl rfl (fun _ => ?_) (fun c => absurd (by decide) c)
          refine ev_go 1 (q := 51) (st' := .int 0 :: _) rfl ?_
          exact ev_iret rfl rfl (by unfold sp_seen; dsimp only; repeat (first | rfl | rw [if_pos ⟨by assumption, by assumption⟩] | rw [if_neg (fun q => absurd (by assumption) q.1)] | rw [if_neg (fun q => absurd q.2 (by assumption))])) rfl
        · refine ev_go 1 (q := 19) rfl ?_
          refine ev_get (q := 22) rfl (mH_o hn) rfl rfl rfl ?_
          refine ev_go 5 (q := 28) (st' := .int (100 * nI 0 + nI k) :: _) rfl ?_
          refine ev_mia (j := 0) (q := 29) hn rfl (by decide) rfl (mx_ix _ _) (show 100 * 0 + k < 300 by omega) rfl ?_
          refine ev_if_eq (t := 44) (q := 32) rfl rfl rfl (fun e0 => ?_) (fun e0 => ?_)
          · refine ev_go 3 (q := 3) (st' := .int (-1) :: _) rfl ?_
            refine ev_if_lt (t := 50) (q := 6) rfl rfl rfl (fun _ => ?_) (fun c => absurd (by decide) c)
            refine ev_go 1 (q := 51) (st' := .int 0 :: _) rfl ?_
            exact ev_iret rfl rfl (by unfold sp_seen; dsimp only; repeat (first | rfl | rw [if_pos ⟨by assumption, by assumption⟩] | rw [if_neg (fun q => absurd (by assumption) q.1)] | rw [if_neg (fun q => absurd q.2 (by assumption))])) rfl
          · refine ev_go 1 (q := 33) rfl ?_
            refine ev_get (q := 36) rfl (mH_o hn) rfl rfl rfl ?_
            refine ev_go 5 (q := 42) (st' := .int (100 * nI 0 + nI k) :: _) rfl ?_
            refine ev_mia (j := 0) (q := 43) hn rfl (by decide) rfl (mx_ix _ _) (show 100 * 0 + k < 300 by omega) rfl ?_
            exact ev_iret rfl rfl (by unfold sp_seen; dsimp only; repeat (first | rfl | rw [if_pos ⟨by assumption, by assumption⟩] | rw [if_neg (fun q => absurd (by assumption) q.1)] | rw [if_neg (fun q => absurd q.2 (by assumption))])) rfl
      · refine ev_go 1 (q := 33) rfl ?_
        refine ev_get (q := 36) rfl (mH_o hn) rfl rfl rfl ?_
        refine ev_go 5 (q := 42) (st' := .int (100 * nI 1 + nI k) :: _) rfl ?_
        refine ev_mia (j := 0) (q := 43) hn rfl (by decide) rfl (mx_ix _ _) (show 100 * 1 + k < 300 by omega) rfl ?_
        exact ev_iret rfl rfl (by unfold sp_seen; dsimp only; repeat (first | rfl | rw [if_pos ⟨by assumption, by assumption⟩] | rw [if_neg (fun q => absurd (by assumption) q.1)] | rw [if_neg (fun q => absurd q.2 (by assumption))])) rfl
  · refine ev_go 1 (q := 19) rfl ?_
    refine ev_get (q := 22) rfl (mH_o hn) rfl rfl rfl ?_
    refine ev_go 5 (q := 28) (st' := .int (100 * nI 2 + nI k) :: _) rfl ?_
    refine ev_mia (j := 0) (q := 29) hn rfl (by decide) rfl (mx_ix _ _) (show 100 * 2 + k < 300 by omega) rfl ?_
    refine ev_if_eq (t := 44) (q := 32) rfl rfl rfl (fun e2 => ?_) (fun e2 => ?_)
    · refine ev_go 2 (q := 2) rfl ?_
      rw [nI_p (by decide)]
      refine ev_go 1 (q := 3) (st' := .int (nI 1) :: _) rfl ?_
      refine ev_if_lt (t := 50) (q := 6) rfl rfl rfl (fun c => absurd c (by decide)) (fun _ => ?_)
      refine ev_go 1 (q := 7) rfl ?_
      refine ev_get (q := 10) rfl (mH_o hn) rfl rfl rfl ?_
      refine ev_go 5 (q := 15) (st' := .int 1 :: .int ((σ 6 >>> (1 &&& 31)) &&& 1) :: _) rfl ?_
      refine ev_icmp_ne (t := 44) (q := 18) rfl rfl rfl (fun o1 => ?_) (fun o1 => ?_)
      · refine ev_go 2 (q := 2) rfl ?_
        rw [nI_p (by decide)]
        refine ev_go 1 (q := 3) (st' := .int (nI 0) :: _) rfl ?_
        refine ev_if_lt (t := 50) (q := 6) rfl rfl rfl (fun c => absurd c (by decide)) (fun _ => ?_)
        refine ev_go 1 (q := 7) rfl ?_
        refine ev_get (q := 10) rfl (mH_o hn) rfl rfl rfl ?_
        refine ev_go 5 (q := 15) (st' := .int 1 :: .int ((σ 6 >>> (0 &&& 31)) &&& 1) :: _) rfl ?_
        refine ev_icmp_ne (t := 44) (q := 18) rfl rfl rfl (fun o0 => ?_) (fun o0 => ?_)
        · refine ev_go 3 (q := 3) (st' := .int (-1) :: _) rfl ?_
          refine ev_if_lt (t := 50) (q := 6) rfl rfl rfl (fun _ => ?_) (fun c => absurd (by decide) c)
          refine ev_go 1 (q := 51) (st' := .int 0 :: _) rfl ?_
          exact ev_iret rfl rfl (by unfold sp_seen; dsimp only; repeat (first | rfl | rw [if_pos ⟨by assumption, by assumption⟩] | rw [if_neg (fun q => absurd (by assumption) q.1)] | rw [if_neg (fun q => absurd q.2 (by assumption))])) rfl
        · refine ev_go 1 (q := 19) rfl ?_
          refine ev_get (q := 22) rfl (mH_o hn) rfl rfl rfl ?_
          refine ev_go 5 (q := 28) (st' := .int (100 * nI 0 + nI k) :: _) rfl ?_
          refine ev_mia (j := 0) (q := 29) hn rfl (by decide) rfl (mx_ix _ _) (show 100 * 0 + k < 300 by omega) rfl ?_
          refine ev_if_eq (t := 44) (q := 32) rfl rfl rfl (fun e0 => ?_) (fun e0 => ?_)
          · refine ev_go 3 (q := 3) (st' := .int (-1) :: _) rfl ?_
            refine ev_if_lt (t := 50) (q := 6) rfl rfl rfl (fun _ => ?_) (fun c => absurd (by decide) c)
            refine ev_go 1 (q := 51) (st' := .int 0 :: _) rfl ?_
            exact ev_iret rfl rfl (by unfold sp_seen; dsimp only; repeat (first | rfl | rw [if_pos ⟨by assumption, by assumption⟩] | rw [if_neg (fun q => absurd (by assumption) q.1)] | rw [if_neg (fun q => absurd q.2 (by assumption))])) rfl
          · refine ev_go 1 (q := 33) rfl ?_
            refine ev_get (q := 36) rfl (mH_o hn) rfl rfl rfl ?_
            refine ev_go 5 (q := 42) (st' := .int (100 * nI 0 + nI k) :: _) rfl ?_
            refine ev_mia (j := 0) (q := 43) hn rfl (by decide) rfl (mx_ix _ _) (show 100 * 0 + k < 300 by omega) rfl ?_
            exact ev_iret rfl rfl (by unfold sp_seen; dsimp only; repeat (first | rfl | rw [if_pos ⟨by assumption, by assumption⟩] | rw [if_neg (fun q => absurd (by assumption) q.1)] | rw [if_neg (fun q => absurd q.2 (by assumption))])) rfl
      · refine ev_go 1 (q := 19) rfl ?_
        refine ev_get (q := 22) rfl (mH_o hn) rfl rfl rfl ?_
        refine ev_go 5 (q := 28) (st' := .int (100 * nI 1 + nI k) :: _) rfl ?_
        refine ev_mia (j := 0) (q := 29) hn rfl (by decide) rfl (mx_ix _ _) (show 100 * 1 + k < 300 by omega) rfl ?_
        refine ev_if_eq (t := 44) (q := 32) rfl rfl rfl (fun e1 => ?_) (fun e1 => ?_)
        · refine ev_go 2 (q := 2) rfl ?_
          rw [nI_p (by decide)]
          refine ev_go 1 (q := 3) (st' := .int (nI 0) :: _) rfl ?_
          refine ev_if_lt (t := 50) (q := 6) rfl rfl rfl (fun c => absurd c (by decide)) (fun _ => ?_)
          refine ev_go 1 (q := 7) rfl ?_
          refine ev_get (q := 10) rfl (mH_o hn) rfl rfl rfl ?_
          refine ev_go 5 (q := 15) (st' := .int 1 :: .int ((σ 6 >>> (0 &&& 31)) &&& 1) :: _) rfl ?_
          refine ev_icmp_ne (t := 44) (q := 18) rfl rfl rfl (fun o0 => ?_) (fun o0 => ?_)
          · refine ev_go 3 (q := 3) (st' := .int (-1) :: _) rfl ?_
            refine ev_if_lt (t := 50) (q := 6) rfl rfl rfl (fun _ => ?_) (fun c => absurd (by decide) c)
            refine ev_go 1 (q := 51) (st' := .int 0 :: _) rfl ?_
            exact ev_iret rfl rfl (by unfold sp_seen; dsimp only; repeat (first | rfl | rw [if_pos ⟨by assumption, by assumption⟩] | rw [if_neg (fun q => absurd (by assumption) q.1)] | rw [if_neg (fun q => absurd q.2 (by assumption))])) rfl
          · refine ev_go 1 (q := 19) rfl ?_
            refine ev_get (q := 22) rfl (mH_o hn) rfl rfl rfl ?_
            refine ev_go 5 (q := 28) (st' := .int (100 * nI 0 + nI k) :: _) rfl ?_
            refine ev_mia (j := 0) (q := 29) hn rfl (by decide) rfl (mx_ix _ _) (show 100 * 0 + k < 300 by omega) rfl ?_
            refine ev_if_eq (t := 44) (q := 32) rfl rfl rfl (fun e0 => ?_) (fun e0 => ?_)
            · refine ev_go 3 (q := 3) (st' := .int (-1) :: _) rfl ?_
              refine ev_if_lt (t := 50) (q := 6) rfl rfl rfl (fun _ => ?_) (fun c => absurd (by decide) c)
              refine ev_go 1 (q := 51) (st' := .int 0 :: _) rfl ?_
              exact ev_iret rfl rfl (by unfold sp_seen; dsimp only; repeat (first | rfl | rw [if_pos ⟨by assumption, by assumption⟩] | rw [if_neg (fun q => absurd (by assumption) q.1)] | rw [if_neg (fun q => absurd q.2 (by assumption))])) rfl
            · refine ev_go 1 (q := 33) rfl ?_
              refine ev_get (q := 36) rfl (mH_o hn) rfl rfl rfl ?_
              refine ev_go 5 (q := 42) (st' := .int (100 * nI 0 + nI k) :: _) rfl ?_
              refine ev_mia (j := 0) (q := 43) hn rfl (by decide) rfl (mx_ix _ _) (show 100 * 0 + k < 300 by omega) rfl ?_
              exact ev_iret rfl rfl (by unfold sp_seen; dsimp only; repeat (first | rfl | rw [if_pos ⟨by assumption, by assumption⟩] | rw [if_neg (fun q => absurd (by assumption) q.1)] | rw [if_neg (fun q => absurd q.2 (by assumption))])) rfl
        · refine ev_go 1 (q := 33) rfl ?_
          refine ev_get (q := 36) rfl (mH_o hn) rfl rfl rfl ?_
          refine ev_go 5 (q := 42) (st' := .int (100 * nI 1 + nI k) :: _) rfl ?_
          refine ev_mia (j := 0) (q := 43) hn rfl (by decide) rfl (mx_ix _ _) (show 100 * 1 + k < 300 by omega) rfl ?_
          exact ev_iret rfl rfl (by unfold sp_seen; dsimp only; repeat (first | rfl | rw [if_pos ⟨by assumption, by assumption⟩] | rw [if_neg (fun q => absurd (by assumption) q.1)] | rw [if_neg (fun q => absurd q.2 (by assumption))])) rfl
    · refine ev_go 1 (q := 33) rfl ?_
      refine ev_get (q := 36) rfl (mH_o hn) rfl rfl rfl ?_
      refine ev_go 5 (q := 42) (st' := .int (100 * nI 2 + nI k) :: _) rfl ?_
      refine ev_mia (j := 0) (q := 43) hn rfl (by decide) rfl (mx_ix _ _) (show 100 * 2 + k < 300 by omega) rfl ?_
      exact ev_iret rfl rfl (by unfold sp_seen; dsimp only; repeat (first | rfl | rw [if_pos ⟨by assumption, by assumption⟩] | rw [if_neg (fun q => absurd (by assumption) q.1)] | rw [if_neg (fun q => absurd q.2 (by assumption))])) rfl
def ms_sel (A : Nat → Nat → Int32) : Int32 := sp_s (fun k => am_b (¬ A 1 k = 0)) 0 100
theorem l_selm (hn : 43 ≤ h.1) : ∀ (m k : Nat) (x : Int32), k + m = 100 → am_ev d z_Model_selected (33, [some (.ref 18), some (.int (x + sp_s (fun k => am_b (¬ A 1 k = 0)) k m)), some (.int (nI 100))], [], mH h σ t A) res h' → am_ev d z_Model_selected (7, [some (.ref 18), some (.int x), some (.int (nI k))], [.int 100, .int (nI k)], mH h σ t A) res h'
  | 0, k, x, hm, K => by
    refine ev_icmp_ge (t := 33) (q := 10) rfl rfl rfl (fun _ => ?_) (fun c1 => absurd (nI_end (b := 100) hm (by omega)) c1)
    have hc : k = 100 := hm
    subst hc
    simpa [sp_s] using K
  | m + 1, k, x, hm, K => by
    refine ev_icmp_ge (t := 33) (q := 10) rfl rfl rfl (fun c1 => absurd c1 (nI_ge (b := 100) (by omega) (by omega))) (fun _ => ?_)
    have K1 : am_ev d z_Model_selected (33, [some (.ref 18), some (.int (x + am_b (¬ A 1 k = 0) + sp_s (fun k => am_b (¬ A 1 k = 0)) (k + 1) m)), some (.int (nI 100))], [], mH h σ t A) res h' := by rw [Int32.add_assoc]; exact K
    refine ev_go 2 (q := 12) rfl ?_
    refine ev_get (q := 15) rfl (mH_o hn) rfl rfl rfl ?_
    refine ev_go 1 (q := 16) rfl ?_
    refine ev_mza (q := 17) hn rfl (by decide) rfl rfl (show k < 100 by omega) rfl ?_
    refine ev_if_eq (t := 24) (q := 20) rfl rfl rfl (fun zc1 => ?_) (fun zc1 => ?_)
    · refine ev_go 7 (q := 7) (st' := .int 100 :: _ :: _) rfl ?_
      rw [am_bz (fun q => q zc1)] at K1
      rw [nI_s]
      exact l_selm hn m (k + 1) _ (by omega) K1
    · refine ev_go 8 (q := 7) (st' := .int 100 :: _ :: _) rfl ?_
      rw [am_b1 zc1] at K1
      rw [nI_s]
      exact l_selm hn m (k + 1) _ (by omega) K1
theorem m_selected (hn : 43 ≤ h.1) : am_m d z_Model_selected [.ref 18] (mH h σ t A) (some (.int (ms_sel A))) (mH h σ t A) := by
  refine ev_go 6 (q := 7) (st' := .int 100 :: _ :: _) rfl ?_
  refine l_selm hn 100 0 0 (by omega) ?_
  refine ev_go 1 (q := 34) rfl ?_
  exact ev_iret rfl rfl (by rw [Int32.zero_add]; rfl) (rfl)
def ms_paint (R C u : Nat) (A : Nat → Nat → Int32) (r c w : Int32) : Nat → Nat → Int32 := if cl_kn R C r c ∧ ¬ A 1 (10 * r.toNatClampNeg + c.toNatClampNeg) = 0 then va_up A 0 (va_up (A 0) (100 * u + (10 * r.toNatClampNeg + c.toNatClampNeg)) w) else A
theorem m_paintN {r c u : Nat} {x : Int32} (hn : 43 ≤ h.1) (hd : 1 < d) (hR : 1 ≤ R ∧ R ≤ 10) (hC : 1 ≤ C ∧ C ≤ 10) (h1 : σ 1 = nI R) (h2 : σ 2 = nI C) (h5 : σ 5 = nI u) (hu : u < 3) (hr : r < R) (hc : c < C) : am_m d z_Model_paints [.ref 18, .int (nI r), .int (nI c), .int x] (mH h σ t A) none (mH h σ t (if ¬ A 1 (10 * r + c) = 0 then va_up A 0 (va_up (A 0) (100 * u + (10 * r + c)) x) else A)) := by
  refine ev_go 3 (q := 3) rfl ?_
  refine ev_virt (z' := z_Model_isKnot) (q := 6) rfl rfl (by decide) rfl (by simp [Value.category]) rfl (by omega) rfl rfl (mH_o hn) (m_knT hn (by omega) hR hC h1 h2 hr hc) ?_
  refine ev_if_eq (t := 43) (q := 9) rfl rfl rfl (fun c => absurd c (by decide)) (fun zc1 => ?_)
  refine ev_go 1 (q := 10) rfl ?_
  refine ev_get (q := 13) rfl (mH_o hn) rfl rfl rfl ?_
  refine ev_go 5 (q := 19) (st' := .int ((10 * _) + _) :: _ :: _) rfl ?_
  refine ev_mza (q := 20) hn rfl (by decide) rfl (mx_k _ _) (show 10 * r + c < 100 by omega) rfl ?_
  refine ev_if_eq (t := 43) (q := 23) rfl rfl rfl (fun zc2 => ?_) (fun zc2 => ?_)
  · exact ev_vret rfl rfl (by first | rw [if_pos (by assumption)] | rw [if_neg (fun q => q (by assumption))])
  · refine ev_go 1 (q := 24) rfl ?_
    refine ev_get (q := 27) rfl (mH_o hn) rfl rfl rfl ?_
    refine ev_go 2 (q := 30) (st' := _ :: .int 100 :: _ :: _) rfl ?_
    refine ev_get (q := 33) rfl (mH_o hn) rfl rfl rfl ?_
    refine ev_go 8 (q := 42) (st' := _ :: .int ((_ + (10 * _)) + _) :: _ :: _) rfl ?_
    refine ev_mias (q := 43) hn rfl (by decide) rfl (by rw [h5, show (100 : Int32) = nI 100 from rfl, show (10 : Int32) = nI 10 from rfl, pk_mul, pk_mul, nI_add, nI_add, Nat.add_assoc]) (show 100 * u + (10 * r + c) < 300 by omega) rfl ?_
    exact ev_vret rfl rfl (by first | rw [if_pos (by assumption)] | rw [if_neg (fun q => q (by assumption))])
end M1
end
section
/-! the reference: helpers -/
section M2
variable {d : Nat} {h h' : am_H} {σ : Nat → Int32} {t : Int64} {A : Nat → Nat → Int32} {res : Option Value} {R C : Nat}
theorem m_begins (hn : 43 ≤ h.1) : am_m d z_Model_begins [.ref 18] (mH h σ t A) none (mH h (va_up (va_up (va_up (va_up (va_up σ 24 0) 25 0) 26 0) 27 (-9)) 28 0) t A) := by
  refine ev_go 2 (q := 2) (st' := .int 0 :: _ :: _) rfl ?_
  refine ev_mput (q := 5) hn rfl rfl rfl (by decide) rfl (mls_24 _ _ _) rfl ?_
  refine ev_go 2 (q := 7) (st' := .int 0 :: _ :: _) rfl ?_
  refine ev_mput (q := 10) hn rfl rfl rfl (by decide) rfl (mls_25 _ _ _) rfl ?_
  refine ev_go 2 (q := 12) (st' := .int 0 :: _ :: _) rfl ?_
  refine ev_mput (q := 15) hn rfl rfl rfl (by decide) rfl (mls_26 _ _ _) rfl ?_
  refine ev_go 2 (q := 18) (st' := .int (-9) :: _ :: _) rfl ?_
  refine ev_mput (q := 21) hn rfl rfl rfl (by decide) rfl (mls_27 _ _ _) rfl ?_
  refine ev_go 2 (q := 23) (st' := .int 0 :: _ :: _) rfl ?_
  refine ev_mput (q := 26) hn rfl rfl rfl (by decide) rfl (mls_28 _ _ _) rfl ?_
  exact ev_vret rfl rfl (rfl)
theorem m_isHandle (hn : 43 ≤ h.1) (hd : 0 < d) {x : Int32} {n : Nat} (h1 : σ 12 = nI n) (hb : n ≤ 100) : am_m d z_Model_isHandle [.ref 18, .int x] (mH h σ t A) (some (.int (am_b (0 ≤ x ∧ x < nI n)))) (mH h σ t A) := by
  have e1 : am_b (0 ≤ x ∧ x ≤ σ 12 - 1) = am_b (0 ≤ x ∧ x < nI n) := by
    rw [h1]
    have : (0 ≤ x ∧ x ≤ nI n - 1) ↔ (0 ≤ x ∧ x < nI n) := by
      have e2 : (nI n - 1).toInt = (n : Int) - 1 := by
        have := pk_sub_toInt (a := n) (b := 1) (by omega) (by omega)
        exact this
      simp only [Int32.lt_iff_toInt_lt, Int32.le_iff_toInt_le, nI_toInt (show n < 2 ^ 31 by omega), e2]
      omega
    unfold am_b
    by_cases q : 0 ≤ x ∧ x < nI n
    · rw [if_pos q, if_pos (this.mpr q)]
    · rw [if_neg q, if_neg (fun z => q (this.mp z))]
  rw [← e1]
  refine ev_go 3 (q := 3) (st' := _ :: .int 0 :: _ :: _) rfl ?_
  refine ev_get (q := 6) rfl (mH_o hn) rfl rfl rfl ?_
  refine ev_go 2 (q := 8) (st' := .int (_ - 1) :: _ :: _ :: _) rfl ?_
  refine ev_static (z' := z_Model_in) (q := 11) rfl rfl (by decide) rfl rfl (by simp [Value.category]) rfl (by omega) (k_in _ _ _) ?_
  exact ev_zret rfl rfl am_b01 (rfl) (rfl)
theorem m_isMacro (hn : 43 ≤ h.1) (hd : 0 < d) {x : Int32} {n : Nat} (h1 : σ 16 = nI n) (hb : n ≤ 100) : am_m d z_Model_isMacro [.ref 18, .int x] (mH h σ t A) (some (.int (am_b (0 ≤ x ∧ x < nI n)))) (mH h σ t A) := by
  have e1 : am_b (0 ≤ x ∧ x ≤ σ 16 - 1) = am_b (0 ≤ x ∧ x < nI n) := by
    rw [h1]
    have : (0 ≤ x ∧ x ≤ nI n - 1) ↔ (0 ≤ x ∧ x < nI n) := by
      have e2 : (nI n - 1).toInt = (n : Int) - 1 := by
        have := pk_sub_toInt (a := n) (b := 1) (by omega) (by omega)
        exact this
      simp only [Int32.lt_iff_toInt_lt, Int32.le_iff_toInt_le, nI_toInt (show n < 2 ^ 31 by omega), e2]
      omega
    unfold am_b
    by_cases q : 0 ≤ x ∧ x < nI n
    · rw [if_pos q, if_pos (this.mpr q)]
    · rw [if_neg q, if_neg (fun z => q (this.mp z))]
  rw [← e1]
  refine ev_go 3 (q := 3) (st' := _ :: .int 0 :: _ :: _) rfl ?_
  refine ev_get (q := 6) rfl (mH_o hn) rfl rfl rfl ?_
  refine ev_go 2 (q := 8) (st' := .int (_ - 1) :: _ :: _ :: _) rfl ?_
  refine ev_static (z' := z_Model_in) (q := 11) rfl rfl (by decide) rfl rfl (by simp [Value.category]) rfl (by omega) (k_in _ _ _) ?_
  exact ev_zret rfl rfl am_b01 (rfl) (rfl)
theorem m_adds (hn : 43 ≤ h.1) {x : Int32} {n : Nat} (h10 : σ 10 = nI n) (hb : n < 60) : am_m d z_Model_adds [.ref 18, .int x] (mH h σ t A) (some (.int (nI n))) (mH h (va_up (va_up σ 10 (nI (n + 1))) 11 (nI n)) t (va_up (va_up A 3 (va_up (A 3) n x)) 4 (va_up (A 4) n 1))) := by
  have e0 : (1 : Int32) &&& 1 = 1 := rfl
  have e1 : nI (n + 1) - 1 = nI n := nI_pred n
  refine ev_go 1 (q := 1) rfl ?_
  refine ev_get (q := 4) rfl (mH_o hn) rfl rfl rfl ?_
  refine ev_go 1 (q := 5) rfl ?_
  refine ev_get (q := 8) rfl (mH_o hn) rfl rfl rfl ?_
  refine ev_go 1 (q := 9) rfl ?_
  refine ev_mias (q := 10) hn rfl (by decide) rfl h10 (show n < 60 by omega) rfl ?_
  refine ev_go 1 (q := 11) rfl ?_
  refine ev_get (q := 14) rfl (mH_o hn) rfl rfl rfl ?_
  refine ev_go 1 (q := 15) rfl ?_
  refine ev_get (q := 18) rfl (mH_o hn) rfl rfl rfl ?_
  refine ev_go 1 (q := 19) (st' := .int 1 :: _ :: _ :: _) rfl ?_
  refine ev_mzas (q := 20) hn rfl (by decide) rfl h10 (show n < 60 by omega) rfl ?_
  refine ev_go 2 (q := 22) rfl ?_
  refine ev_get (q := 25) rfl (mH_o hn) rfl rfl rfl ?_
  refine ev_go 2 (q := 27) (st' := .int (_ + 1) :: _ :: _) rfl ?_
  rw [h10, show nI n + 1 = nI (n + 1) from nI_1 n]
  refine ev_mput (q := 30) hn rfl rfl rfl (by decide) rfl (mls_10 _ _ _) rfl ?_
  refine ev_go 2 (q := 32) rfl ?_
  refine ev_get (q := 35) rfl (mH_o hn) rfl rfl rfl ?_
  refine ev_go 2 (q := 37) (st' := .int (_ - 1) :: _ :: _) rfl ?_
  rw [show va_up σ 10 (nI (n + 1)) 10 - 1 = nI n by rw [va_up_self]; exact e1]
  refine ev_mput (q := 40) hn rfl rfl rfl (by decide) rfl (mls_11 _ _ _) rfl ?_
  refine ev_go 1 (q := 41) rfl ?_
  refine ev_get (q := 44) rfl (mH_o hn) rfl rfl rfl ?_
  exact ev_iret rfl rfl rfl rfl
theorem l_all (hn : 43 ≤ h.1) (hR : R ≤ 10) (hC : C ≤ 10) (h1 : σ 1 = nI R) (h2 : σ 2 = nI C) : ∀ (m k : Nat) (A : Nat → Nat → Int32), k + m = 100 → am_ev d z_Model_all (51, [some (.ref 18), some (.int 1), some (.int (nI 100))], [], mH h σ t (sp_it (fun k A => va_up A 1 (va_up (A 1) k (am_b (k / 10 < R ∧ k % 10 < C)))) k m A)) res h' → am_ev d z_Model_all (5, [some (.ref 18), some (.int 1), some (.int (nI k))], [.int 100, .int (nI k)], mH h σ t A) res h'
  | 0, k, A, hm, K => by
    refine ev_icmp_ge (t := 51) (q := 8) rfl rfl rfl (fun _ => ?_) (fun c1 => absurd (nI_end (b := 100) hm (by omega)) c1)
    have hc : k = 100 := hm
    subst hc
    exact K
  | m + 1, k, A, hm, K => by
    refine ev_icmp_ge (t := 51) (q := 8) rfl rfl rfl (fun c1 => absurd c1 (nI_ge (b := 100) (by omega) (by omega))) (fun _ => ?_)
    rw [sp_it] at K
    refine ev_go 1 (q := 9) rfl ?_
    refine ev_get (q := 12) rfl (mH_o hn) rfl rfl rfl ?_
    refine ev_go 2 (q := 14) rfl ?_
    refine ev_if_eq (t := 43) (q := 17) rfl rfl rfl (fun c => absurd c (by decide)) (fun zc1 => ?_)
    refine ev_go 2 (q := 20) (st' := .int 10 :: _ :: _ :: _ :: _) rfl ?_
    refine ev_divn (b := 10) (q := 21) rfl rfl rfl (by decide) (by omega) (by decide) rfl ?_
    refine ev_go 1 (q := 22) rfl ?_
    refine ev_get (q := 25) rfl (mH_o hn) rfl rfl rfl ?_
    refine ev_icmp_ge (t := 43) (q := 28) rfl rfl rfl (fun zc2 => ?_) (fun zc2 => ?_)
    · refine ev_go 1 (q := 44) (st' := .int 0 :: _ :: _ :: _) rfl ?_
      refine ev_mzas (q := 45) hn rfl (by decide) rfl rfl (show k < 100 by omega) rfl ?_
      refine ev_go 4 (q := 5) (st' := .int 100 :: _ :: _) rfl ?_
      have e9 : ((0 : Int32) &&& 1) = am_b (k / 10 < R ∧ k % 10 < C) := (am_bz (fun q => by rw [h1] at zc2; exact absurd ((nI_leI (by omega) (by omega)).mp zc2) (by omega))).symm
      rw [e9, nI_s]
      exact l_all hn hR hC h1 h2 m (k + 1) _ (by omega) K
    · refine ev_go 2 (q := 31) (st' := .int 10 :: _ :: _ :: _ :: _) rfl ?_
      refine ev_remn (b := 10) (q := 32) rfl rfl rfl (by decide) (by omega) (by decide) rfl ?_
      refine ev_go 1 (q := 33) rfl ?_
      refine ev_get (q := 36) rfl (mH_o hn) rfl rfl rfl ?_
      refine ev_icmp_ge (t := 43) (q := 39) rfl rfl rfl (fun zc3 => ?_) (fun zc3 => ?_)
      · refine ev_go 1 (q := 44) (st' := .int 0 :: _ :: _ :: _) rfl ?_
        refine ev_mzas (q := 45) hn rfl (by decide) rfl rfl (show k < 100 by omega) rfl ?_
        refine ev_go 4 (q := 5) (st' := .int 100 :: _ :: _) rfl ?_
        have e9 : ((0 : Int32) &&& 1) = am_b (k / 10 < R ∧ k % 10 < C) := (am_bz (fun q => by rw [h2] at zc3; exact absurd ((nI_leI (by omega) (by omega)).mp zc3) (by omega))).symm
        rw [e9, nI_s]
        exact l_all hn hR hC h1 h2 m (k + 1) _ (by omega) K
      · refine ev_go 2 (q := 44) (st' := .int 1 :: _ :: _ :: _) rfl ?_
        refine ev_mzas (q := 45) hn rfl (by decide) rfl rfl (show k < 100 by omega) rfl ?_
        refine ev_go 4 (q := 5) (st' := .int 100 :: _ :: _) rfl ?_
        have e9 : ((1 : Int32) &&& 1) = am_b (k / 10 < R ∧ k % 10 < C) := (am_b1 (by rw [h1] at zc2; rw [h2] at zc3; exact ⟨Nat.not_le.mp (fun q => zc2 ((nI_leI (by omega) (by omega)).mpr q)), Nat.not_le.mp (fun q => zc3 ((nI_leI (by omega) (by omega)).mpr q))⟩)).symm
        rw [e9, nI_s]
        exact l_all hn hR hC h1 h2 m (k + 1) _ (by omega) K
def ms_all (R C : Nat) (A : Nat → Nat → Int32) : Nat → Nat → Int32 := sp_it (fun k A => va_up A 1 (va_up (A 1) k (am_b (k / 10 < R ∧ k % 10 < C)))) 0 100 A
theorem m_all (hn : 43 ≤ h.1) (hR : R ≤ 10) (hC : C ≤ 10) (h1 : σ 1 = nI R) (h2 : σ 2 = nI C) : am_m d z_Model_all [.ref 18, .int 1] (mH h σ t A) none (mH h σ t (ms_all R C A)) := by
  refine ev_go 4 (q := 5) (st' := .int 100 :: _ :: _) rfl ?_
  refine l_all hn hR hC h1 h2 100 0 A (by omega) ?_
  exact ev_vret rfl rfl (rfl)
theorem l_keeps1 (hn : 43 ≤ h.1) {n : Nat} (hb : n < 60) : ∀ (m k : Nat) (A : Nat → Nat → Int32), k + m = 300 → am_ev d z_Model_keeps (35, [some (.ref 18), some (.int (nI n)), some (.int (nI (402 * n))), some (.int (nI 300))], [], mH h σ t (sp_it (fun k A => va_up A 2 (va_up (A 2) (402 * n + k) (A 0 k))) k m A)) res h' → am_ev d z_Model_keeps (12, [some (.ref 18), some (.int (nI n)), some (.int (nI (402 * n))), some (.int (nI k))], [.int 300, .int (nI k)], mH h σ t A) res h'
  | 0, k, A, hm, K => by
    refine ev_icmp_ge (t := 35) (q := 15) rfl rfl rfl (fun _ => ?_) (fun c1 => absurd (nI_end (b := 300) hm (by omega)) c1)
    have hc : k = 300 := hm
    subst hc
    exact K
  | m + 1, k, A, hm, K => by
    refine ev_icmp_ge (t := 35) (q := 15) rfl rfl rfl (fun c1 => absurd c1 (nI_ge (b := 300) (by omega) (by omega))) (fun _ => ?_)
    rw [sp_it] at K
    refine ev_go 1 (q := 16) rfl ?_
    refine ev_get (q := 19) rfl (mH_o hn) rfl rfl rfl ?_
    refine ev_go 4 (q := 23) rfl ?_
    refine ev_get (q := 26) rfl (mH_o hn) rfl rfl rfl ?_
    refine ev_go 1 (q := 27) rfl ?_
    refine ev_mia (q := 28) hn rfl (by decide) rfl rfl (show k < 300 by omega) rfl ?_
    refine ev_mias (q := 29) hn rfl (by decide) rfl (nI_add _ _) (show 402 * n + k < 24120 by omega) rfl ?_
    refine ev_go 4 (q := 12) (st' := .int 300 :: _ :: _) rfl ?_
    rw [nI_s]
    exact l_keeps1 hn hb m (k + 1) _ (by omega) K
theorem l_keeps2 (hn : 43 ≤ h.1) {n : Nat} (hb : n < 60) : ∀ (m k : Nat) (A : Nat → Nat → Int32), k + m = 100 → am_ev d z_Model_keeps (75, [some (.ref 18), some (.int (nI n)), some (.int (nI (402 * n))), some (.int (nI 100))], [], mH h σ t (sp_it (fun k A => va_up A 2 (va_up (A 2) (402 * n + 300 + k) (am_b (¬ A 1 k = 0)))) k m A)) res h' → am_ev d z_Model_keeps (40, [some (.ref 18), some (.int (nI n)), some (.int (nI (402 * n))), some (.int (nI k))], [.int 100, .int (nI k)], mH h σ t A) res h'
  | 0, k, A, hm, K => by
    refine ev_icmp_ge (t := 75) (q := 43) rfl rfl rfl (fun _ => ?_) (fun c1 => absurd (nI_end (b := 100) hm (by omega)) c1)
    have hc : k = 100 := hm
    subst hc
    exact K
  | m + 1, k, A, hm, K => by
    refine ev_icmp_ge (t := 75) (q := 43) rfl rfl rfl (fun c1 => absurd c1 (nI_ge (b := 100) (by omega) (by omega))) (fun _ => ?_)
    rw [sp_it] at K
    refine ev_go 1 (q := 44) rfl ?_
    refine ev_get (q := 47) rfl (mH_o hn) rfl rfl rfl ?_
    refine ev_go 6 (q := 55) (st' := _ :: .int ((_ + 300) + _) :: _ :: _) rfl ?_
    refine ev_get (q := 58) rfl (mH_o hn) rfl rfl rfl ?_
    refine ev_go 1 (q := 59) rfl ?_
    refine ev_mza (q := 60) hn rfl (by decide) rfl rfl (show k < 100 by omega) rfl ?_
    refine ev_if_eq (t := 67) (q := 63) rfl rfl rfl (fun zc1 => ?_) (fun zc1 => ?_)
    · refine ev_go 1 (q := 68) (st' := .int 0 :: _ :: _ :: _) rfl ?_
      refine ev_mias (q := 69) hn rfl (by decide) rfl (by rw [show (300 : Int32) = nI 300 from rfl, nI_add, nI_add]) (show 402 * n + 300 + k < 24120 by omega) rfl ?_
      refine ev_go 4 (q := 40) (st' := .int 100 :: _ :: _) rfl ?_
      rw [am_bz (fun q => q zc1)] at K
      rw [nI_s]
      exact l_keeps2 hn hb m (k + 1) _ (by omega) K
    · refine ev_go 2 (q := 68) (st' := .int 1 :: _ :: _ :: _) rfl ?_
      refine ev_mias (q := 69) hn rfl (by decide) rfl (by rw [show (300 : Int32) = nI 300 from rfl, nI_add, nI_add]) (show 402 * n + 300 + k < 24120 by omega) rfl ?_
      refine ev_go 4 (q := 40) (st' := .int 100 :: _ :: _) rfl ?_
      rw [am_b1 zc1] at K
      rw [nI_s]
      exact l_keeps2 hn hb m (k + 1) _ (by omega) K
def ms_keep (n : Nat) (u s : Int32) (A : Nat → Nat → Int32) : Nat → Nat → Int32 := (fun A => va_up (va_up A 2 (va_up (A 2) (402 * n + 400) u)) 2 (va_up ((va_up A 2 (va_up (A 2) (402 * n + 400) u)) 2) (402 * n + 401) s)) (sp_it (fun k A => va_up A 2 (va_up (A 2) (402 * n + 300 + k) (am_b (¬ A 1 k = 0)))) 0 100 (sp_it (fun k A => va_up A 2 (va_up (A 2) (402 * n + k) (A 0 k))) 0 300 A))
theorem m_keeps (hn : 43 ≤ h.1) {n : Nat} (hb : n < 60) : am_m d z_Model_keeps [.ref 18, .int (nI n)] (mH h σ t A) none (mH h σ t (ms_keep n (σ 5) (σ 6) A)) := by
  have e0 : (402 : Int32) * nI n = nI (402 * n) := by rw [show (402 : Int32) = nI 402 from rfl, pk_mul]
  refine ev_go 4 (q := 6) rfl ?_
  rw [show (Int16.ofInt 402).toInt32 * nI n = nI (402 * n) from e0]
  refine ev_go 4 (q := 12) (st' := .int 300 :: _ :: _) rfl ?_
  refine l_keeps1 hn hb 300 0 A (by omega) ?_
  refine ev_go 4 (q := 40) (st' := .int 100 :: _ :: _) rfl ?_
  refine l_keeps2 hn hb 100 0 _ (by omega) ?_
  refine ev_go 1 (q := 76) rfl ?_
  refine ev_get (q := 79) rfl (mH_o hn) rfl rfl rfl ?_
  refine ev_go 4 (q := 85) (st' := _ :: .int (_ + 400) :: _ :: _) rfl ?_
  refine ev_get (q := 88) rfl (mH_o hn) rfl rfl rfl ?_
  refine ev_mias (q := 89) hn rfl (by decide) rfl (nI_add _ 400) (show 402 * n + 400 < 24120 by omega) rfl ?_
  refine ev_go 1 (q := 90) rfl ?_
  refine ev_get (q := 93) rfl (mH_o hn) rfl rfl rfl ?_
  refine ev_go 4 (q := 99) (st' := _ :: .int (_ + 401) :: _ :: _) rfl ?_
  refine ev_get (q := 102) rfl (mH_o hn) rfl rfl rfl ?_
  refine ev_mias (q := 103) hn rfl (by decide) rfl (nI_add _ 401) (show 402 * n + 401 < 24120 by omega) rfl ?_
  exact ev_vret rfl rfl (rfl)
theorem l_bec1 (hn : 43 ≤ h.1) {n : Nat} (hb : n < 60) : ∀ (m k : Nat) (A : Nat → Nat → Int32), k + m = 300 → am_ev d z_Model_becomes (35, [some (.ref 18), some (.int (nI n)), some (.int (nI (402 * n))), some (.int (nI 300))], [], mH h σ t (sp_it (fun k A => va_up A 0 (va_up (A 0) k (A 2 (402 * n + k)))) k m A)) res h' → am_ev d z_Model_becomes (12, [some (.ref 18), some (.int (nI n)), some (.int (nI (402 * n))), some (.int (nI k))], [.int 300, .int (nI k)], mH h σ t A) res h'
  | 0, k, A, hm, K => by
    refine ev_icmp_ge (t := 35) (q := 15) rfl rfl rfl (fun _ => ?_) (fun c1 => absurd (nI_end (b := 300) hm (by omega)) c1)
    have hc : k = 300 := hm
    subst hc
    exact K
  | m + 1, k, A, hm, K => by
    refine ev_icmp_ge (t := 35) (q := 15) rfl rfl rfl (fun c1 => absurd c1 (nI_ge (b := 300) (by omega) (by omega))) (fun _ => ?_)
    rw [sp_it] at K
    refine ev_go 1 (q := 16) rfl ?_
    refine ev_get (q := 19) rfl (mH_o hn) rfl rfl rfl ?_
    refine ev_go 2 (q := 21) rfl ?_
    refine ev_get (q := 24) rfl (mH_o hn) rfl rfl rfl ?_
    refine ev_go 3 (q := 27) rfl ?_
    refine ev_mia (q := 28) hn rfl (by decide) rfl (nI_add _ _) (show 402 * n + k < 24120 by omega) rfl ?_
    refine ev_mias (q := 29) hn rfl (by decide) rfl rfl (show k < 300 by omega) rfl ?_
    refine ev_go 4 (q := 12) (st' := .int 300 :: _ :: _) rfl ?_
    rw [nI_s]
    exact l_bec1 hn hb m (k + 1) _ (by omega) K
theorem l_bec2 (hn : 43 ≤ h.1) {n : Nat} (hb : n < 60) : ∀ (m k : Nat) (A : Nat → Nat → Int32), k + m = 100 → am_ev d z_Model_becomes (76, [some (.ref 18), some (.int (nI n)), some (.int (nI (402 * n))), some (.int (nI 100))], [], mH h σ t (sp_it (fun k A => va_up A 1 (va_up (A 1) k (am_b (A 2 (402 * n + 300 + k) = 1)))) k m A)) res h' → am_ev d z_Model_becomes (40, [some (.ref 18), some (.int (nI n)), some (.int (nI (402 * n))), some (.int (nI k))], [.int 100, .int (nI k)], mH h σ t A) res h'
  | 0, k, A, hm, K => by
    refine ev_icmp_ge (t := 76) (q := 43) rfl rfl rfl (fun _ => ?_) (fun c1 => absurd (nI_end (b := 100) hm (by omega)) c1)
    have hc : k = 100 := hm
    subst hc
    exact K
  | m + 1, k, A, hm, K => by
    refine ev_icmp_ge (t := 76) (q := 43) rfl rfl rfl (fun c1 => absurd c1 (nI_ge (b := 100) (by omega) (by omega))) (fun _ => ?_)
    rw [sp_it] at K
    refine ev_go 1 (q := 44) rfl ?_
    refine ev_get (q := 47) rfl (mH_o hn) rfl rfl rfl ?_
    refine ev_go 2 (q := 49) rfl ?_
    refine ev_get (q := 52) rfl (mH_o hn) rfl rfl rfl ?_
    refine ev_go 5 (q := 59) (st' := .int ((_ + 300) + _) :: _ :: _ :: _ :: _) rfl ?_
    refine ev_mia (q := 60) hn rfl (by decide) rfl (by rw [show (300 : Int32) = nI 300 from rfl, nI_add, nI_add]) (show 402 * n + 300 + k < 24120 by omega) rfl ?_
    refine ev_go 1 (q := 61) (st' := .int 1 :: _ :: _ :: _ :: _) rfl ?_
    refine ev_icmp_ne (t := 68) (q := 64) rfl rfl rfl (fun zc1 => ?_) (fun zc1 => ?_)
    · refine ev_go 1 (q := 69) (st' := .int 0 :: _ :: _ :: _) rfl ?_
      refine ev_mzas (q := 70) hn rfl (by decide) rfl rfl (show k < 100 by omega) rfl ?_
      refine ev_go 4 (q := 40) (st' := .int 100 :: _ :: _) rfl ?_
      rw [am_bz zc1] at K
      rw [nI_s]
      exact l_bec2 hn hb m (k + 1) _ (by omega) K
    · refine ev_go 2 (q := 69) (st' := .int 1 :: _ :: _ :: _) rfl ?_
      refine ev_mzas (q := 70) hn rfl (by decide) rfl rfl (show k < 100 by omega) rfl ?_
      refine ev_go 4 (q := 40) (st' := .int 100 :: _ :: _) rfl ?_
      rw [am_b1 zc1] at K
      rw [nI_s]
      exact l_bec2 hn hb m (k + 1) _ (by omega) K
def ms_bec (n : Nat) (A : Nat → Nat → Int32) : Nat → Nat → Int32 := sp_it (fun k A => va_up A 1 (va_up (A 1) k (am_b (A 2 (402 * n + 300 + k) = 1)))) 0 100 (sp_it (fun k A => va_up A 0 (va_up (A 0) k (A 2 (402 * n + k)))) 0 300 A)
theorem m_becomes (hn : 43 ≤ h.1) {n : Nat} (hb : n < 60) : am_m d z_Model_becomes [.ref 18, .int (nI n)] (mH h σ t A) none (mH h (va_up (va_up σ 5 (ms_bec n A 2 (402 * n + 400))) 6 (ms_bec n A 2 (402 * n + 401))) t (ms_bec n A)) := by
  have e0 : (402 : Int32) * nI n = nI (402 * n) := by rw [show (402 : Int32) = nI 402 from rfl, pk_mul]
  refine ev_go 4 (q := 6) rfl ?_
  rw [show (Int16.ofInt 402).toInt32 * nI n = nI (402 * n) from e0]
  refine ev_go 4 (q := 12) (st' := .int 300 :: _ :: _) rfl ?_
  refine l_bec1 hn hb 300 0 A (by omega) ?_
  refine ev_go 4 (q := 40) (st' := .int 100 :: _ :: _) rfl ?_
  refine l_bec2 hn hb 100 0 _ (by omega) ?_
  refine ev_go 2 (q := 78) rfl ?_
  refine ev_get (q := 81) rfl (mH_o hn) rfl rfl rfl ?_
  refine ev_go 3 (q := 86) (st' := .int (_ + 400) :: _ :: _ :: _) rfl ?_
  refine ev_mia (q := 87) hn rfl (by decide) rfl (nI_add _ 400) (show 402 * n + 400 < 24120 by omega) rfl ?_
  refine ev_mput (q := 90) hn rfl rfl rfl (by decide) rfl (mls_5 _ _ _) rfl ?_
  refine ev_go 2 (q := 92) rfl ?_
  refine ev_get (q := 95) rfl (mH_o hn) rfl rfl rfl ?_
  refine ev_go 3 (q := 100) (st' := .int (_ + 401) :: _ :: _ :: _) rfl ?_
  refine ev_mia (q := 101) hn rfl (by decide) rfl (nI_add _ 401) (show 402 * n + 401 < 24120 by omega) rfl ?_
  refine ev_mput (q := 104) hn rfl rfl rfl (by decide) rfl (mls_6 _ _ _) rfl ?_
  exact ev_vret rfl rfl (rfl)
end M2
end
section
/-! the reference: the box, differences, the tree -/
section M3
variable {d : Nat} {h h' : am_H} {σ : Nat → Int32} {t : Int64} {A : Nat → Nat → Int32} {res : Option Value} {R C : Nat}
def bx1 (k : Nat) (σ : Nat → Int32) : Nat → Int32 := va_up σ 32 (if σ 32 ≤ nI (k / 10) then σ 32 else nI (k / 10))
def bx2 (k : Nat) (σ : Nat → Int32) : Nat → Int32 := va_up σ 33 (if nI (k / 10) ≤ σ 33 then σ 33 else nI (k / 10))
def bx3 (k : Nat) (σ : Nat → Int32) : Nat → Int32 := va_up σ 34 (if σ 34 ≤ nI (k % 10) then σ 34 else nI (k % 10))
def bx4 (k : Nat) (σ : Nat → Int32) : Nat → Int32 := va_up σ 35 (if nI (k % 10) ≤ σ 35 then σ 35 else nI (k % 10))
def bxs (u k : Nat) (S : (Nat → Int32) × (Nat → Nat → Int32)) : (Nat → Int32) × (Nat → Nat → Int32) := (if ¬ S.2 1 k = 0 then bx4 k (bx3 k (bx2 k (bx1 k S.1))) else S.1, va_up S.2 16 (va_up (S.2 16) k (S.2 0 (100 * u + k))))
theorem t_box1 (hn : 43 ≤ h.1) {k : Nat} (hk : k < 100) (K : am_ev d z_Model_box (85, [some (.ref 18), some (.int (nI k))], [], mH h (bx1 k σ) t A) res h') : am_ev d z_Model_box (59, [some (.ref 18), some (.int (nI k))], [], mH h σ t A) res h' := by
  unfold bx1 at K
  refine ev_go 3 (q := 63) (st' := .int 10 :: _ :: _ :: _) rfl ?_
  refine ev_divn (b := 10) (q := 64) rfl rfl rfl (by decide) (by omega) (by decide) rfl ?_
  refine ev_go 1 (q := 65) rfl ?_
  refine ev_get (q := 68) rfl (mH_o hn) rfl rfl rfl ?_
  refine ev_icmp_ge (t := 78) (q := 71) rfl rfl rfl (fun zc1 => ?_) (fun zc1 => ?_)
  · refine ev_go 1 (q := 79) rfl ?_
    refine ev_get (q := 82) rfl (mH_o hn) rfl rfl rfl ?_
    refine ev_mput (q := 85) hn rfl rfl rfl (by decide) rfl (mls_32 _ _ _) rfl ?_
    rw [if_pos zc1] at K
    exact K
  · refine ev_go 2 (q := 74) (st' := .int 10 :: _ :: _ :: _) rfl ?_
    refine ev_divn (b := 10) (q := 75) rfl rfl rfl (by decide) (by omega) (by decide) rfl ?_
    refine ev_go 1 (q := 82) rfl ?_
    refine ev_mput (q := 85) hn rfl rfl rfl (by decide) rfl (mls_32 _ _ _) rfl ?_
    rw [if_neg zc1] at K
    exact K
theorem t_box2 (hn : 43 ≤ h.1) {k : Nat} (hk : k < 100) (K : am_ev d z_Model_box (111, [some (.ref 18), some (.int (nI k))], [], mH h (bx2 k σ) t A) res h') : am_ev d z_Model_box (85, [some (.ref 18), some (.int (nI k))], [], mH h σ t A) res h' := by
  unfold bx2 at K
  refine ev_go 3 (q := 89) (st' := .int 10 :: _ :: _ :: _) rfl ?_
  refine ev_divn (b := 10) (q := 90) rfl rfl rfl (by decide) (by omega) (by decide) rfl ?_
  refine ev_go 1 (q := 91) rfl ?_
  refine ev_get (q := 94) rfl (mH_o hn) rfl rfl rfl ?_
  refine ev_icmp_le (t := 104) (q := 97) rfl rfl rfl (fun zc1 => ?_) (fun zc1 => ?_)
  · refine ev_go 1 (q := 105) rfl ?_
    refine ev_get (q := 108) rfl (mH_o hn) rfl rfl rfl ?_
    refine ev_mput (q := 111) hn rfl rfl rfl (by decide) rfl (mls_33 _ _ _) rfl ?_
    rw [if_pos zc1] at K
    exact K
  · refine ev_go 2 (q := 100) (st' := .int 10 :: _ :: _ :: _) rfl ?_
    refine ev_divn (b := 10) (q := 101) rfl rfl rfl (by decide) (by omega) (by decide) rfl ?_
    refine ev_go 1 (q := 108) rfl ?_
    refine ev_mput (q := 111) hn rfl rfl rfl (by decide) rfl (mls_33 _ _ _) rfl ?_
    rw [if_neg zc1] at K
    exact K
theorem t_box3 (hn : 43 ≤ h.1) {k : Nat} (hk : k < 100) (K : am_ev d z_Model_box (137, [some (.ref 18), some (.int (nI k))], [], mH h (bx3 k σ) t A) res h') : am_ev d z_Model_box (111, [some (.ref 18), some (.int (nI k))], [], mH h σ t A) res h' := by
  unfold bx3 at K
  refine ev_go 3 (q := 115) (st' := .int 10 :: _ :: _ :: _) rfl ?_
  refine ev_remn (b := 10) (q := 116) rfl rfl rfl (by decide) (by omega) (by decide) rfl ?_
  refine ev_go 1 (q := 117) rfl ?_
  refine ev_get (q := 120) rfl (mH_o hn) rfl rfl rfl ?_
  refine ev_icmp_ge (t := 130) (q := 123) rfl rfl rfl (fun zc1 => ?_) (fun zc1 => ?_)
  · refine ev_go 1 (q := 131) rfl ?_
    refine ev_get (q := 134) rfl (mH_o hn) rfl rfl rfl ?_
    refine ev_mput (q := 137) hn rfl rfl rfl (by decide) rfl (mls_34 _ _ _) rfl ?_
    rw [if_pos zc1] at K
    exact K
  · refine ev_go 2 (q := 126) (st' := .int 10 :: _ :: _ :: _) rfl ?_
    refine ev_remn (b := 10) (q := 127) rfl rfl rfl (by decide) (by omega) (by decide) rfl ?_
    refine ev_go 1 (q := 134) rfl ?_
    refine ev_mput (q := 137) hn rfl rfl rfl (by decide) rfl (mls_34 _ _ _) rfl ?_
    rw [if_neg zc1] at K
    exact K
theorem t_box4 (hn : 43 ≤ h.1) {k : Nat} (hk : k < 100) (K : am_ev d z_Model_box (163, [some (.ref 18), some (.int (nI k))], [], mH h (bx4 k σ) t A) res h') : am_ev d z_Model_box (137, [some (.ref 18), some (.int (nI k))], [], mH h σ t A) res h' := by
  unfold bx4 at K
  refine ev_go 3 (q := 141) (st' := .int 10 :: _ :: _ :: _) rfl ?_
  refine ev_remn (b := 10) (q := 142) rfl rfl rfl (by decide) (by omega) (by decide) rfl ?_
  refine ev_go 1 (q := 143) rfl ?_
  refine ev_get (q := 146) rfl (mH_o hn) rfl rfl rfl ?_
  refine ev_icmp_le (t := 156) (q := 149) rfl rfl rfl (fun zc1 => ?_) (fun zc1 => ?_)
  · refine ev_go 1 (q := 157) rfl ?_
    refine ev_get (q := 160) rfl (mH_o hn) rfl rfl rfl ?_
    refine ev_mput (q := 163) hn rfl rfl rfl (by decide) rfl (mls_35 _ _ _) rfl ?_
    rw [if_pos zc1] at K
    exact K
  · refine ev_go 2 (q := 152) (st' := .int 10 :: _ :: _ :: _) rfl ?_
    refine ev_remn (b := 10) (q := 153) rfl rfl rfl (by decide) (by omega) (by decide) rfl ?_
    refine ev_go 1 (q := 160) rfl ?_
    refine ev_mput (q := 163) hn rfl rfl rfl (by decide) rfl (mls_35 _ _ _) rfl ?_
    rw [if_neg zc1] at K
    exact K

theorem bx_keep5 (k : Nat) (σ : Nat → Int32) : bx4 k (bx3 k (bx2 k (bx1 k σ))) 5 = σ 5 := rfl
theorem l_box (hn : 43 ≤ h.1) {u : Nat} (hu : u < 3) : ∀ (m k : Nat) (S : (Nat → Int32) × (Nat → Nat → Int32)), k + m = 100 → S.1 5 = nI u → am_ev d z_Model_box (169, [some (.ref 18), some (.int (nI 100))], [], mH h (sp_it (bxs u) k m S).1 t (sp_it (bxs u) k m S).2) res h' → am_ev d z_Model_box (27, [some (.ref 18), some (.int (nI k))], [.int 100, .int (nI k)], mH h S.1 t S.2) res h'
  | 0, k, S, hm, h5, K => by
    refine ev_icmp_ge (t := 169) (q := 30) rfl rfl rfl (fun _ => ?_) (fun c1 => absurd (nI_end (b := 100) hm (by omega)) c1)
    have hc : k = 100 := hm
    subst hc
    exact K
  | m + 1, k, S, hm, h5, K => by
    refine ev_icmp_ge (t := 169) (q := 30) rfl rfl rfl (fun c1 => absurd c1 (nI_ge (b := 100) (by omega) (by omega))) (fun _ => ?_)
    obtain ⟨σ, A⟩ := S
    dsimp only at h5 ⊢
    rw [sp_it] at K
    refine ev_go 1 (q := 31) rfl ?_
    refine ev_get (q := 34) rfl (mH_o hn) rfl rfl rfl ?_
    refine ev_go 2 (q := 36) rfl ?_
    refine ev_get (q := 39) rfl (mH_o hn) rfl rfl rfl ?_
    refine ev_go 2 (q := 42) (st' := _ :: .int 100 :: _ :: _ :: _ :: _) rfl ?_
    refine ev_get (q := 45) rfl (mH_o hn) rfl rfl rfl ?_
    refine ev_go 3 (q := 48) rfl ?_
    refine ev_mia (q := 49) hn rfl (by decide) rfl (by rw [h5]; exact mx_ix _ _) (show 100 * u + k < 300 by omega) rfl ?_
    refine ev_mias (q := 50) hn rfl (by decide) rfl rfl (show k < 100 by omega) rfl ?_
    refine ev_go 1 (q := 51) rfl ?_
    refine ev_get (q := 54) rfl (mH_o hn) rfl rfl rfl ?_
    refine ev_go 1 (q := 55) rfl ?_
    refine ev_mza (q := 56) hn rfl (by decide) rfl rfl (show k < 100 by omega) rfl ?_
    refine ev_if_eq (t := 163) (q := 59) rfl rfl rfl (fun zc1 => ?_) (fun zc1 => ?_)
    · rw [show bxs u k (σ, A) = (σ, va_up A 16 (va_up (A 16) k (A 0 (100 * u + k)))) by unfold bxs; rw [if_neg (fun q => q zc1)]] at K
      refine ev_go 2 (q := 24) rfl ?_
      rw [nI_s]
      refine ev_go 2 (q := 27) (st' := .int 100 :: _) rfl ?_
      exact l_box hn hu m (k + 1) (_, _) (by omega) h5 K
    · have zc9 : ¬ A 1 k = 0 := zc1
      rw [show bxs u k (σ, A) = (bx4 k (bx3 k (bx2 k (bx1 k σ))), va_up A 16 (va_up (A 16) k (A 0 (100 * u + k)))) by unfold bxs; rw [if_pos zc9]] at K
      refine t_box1 hn (by omega) (t_box2 hn (by omega) (t_box3 hn (by omega) (t_box4 hn (by omega) ?_)))
      refine ev_go 2 (q := 24) rfl ?_
      rw [nI_s]
      refine ev_go 2 (q := 27) (st' := .int 100 :: _) rfl ?_
      exact l_box hn hu m (k + 1) (bx4 k (bx3 k (bx2 k (bx1 k σ))), va_up A 16 (va_up (A 16) k (A 0 (100 * u + k)))) (by omega) ((bx_keep5 k σ).trans h5) K
def ms_box (u : Nat) (σ : Nat → Int32) (A : Nat → Nat → Int32) : (Nat → Int32) × (Nat → Nat → Int32) := sp_it (bxs u) 0 100 (va_up (va_up (va_up (va_up σ 32 99) 34 99) 33 (-1)) 35 (-1), A)
theorem m_box (hn : 43 ≤ h.1) {u : Nat} (hu : u < 3) (h5 : σ 5 = nI u) : am_m d z_Model_box [.ref 18] (mH h σ t A) none (mH h (ms_box u σ A).1 t (ms_box u σ A).2) := by
  refine ev_go 2 (q := 3) (st' := .int 99 :: _ :: _) rfl ?_
  refine ev_mput (q := 6) hn rfl rfl rfl (by decide) rfl (mls_32 _ _ _) rfl ?_
  refine ev_go 2 (q := 9) (st' := .int 99 :: _ :: _) rfl ?_
  refine ev_mput (q := 12) hn rfl rfl rfl (by decide) rfl (mls_34 _ _ _) rfl ?_
  refine ev_go 2 (q := 14) (st' := .int (-1) :: _ :: _) rfl ?_
  refine ev_mput (q := 17) hn rfl rfl rfl (by decide) rfl (mls_33 _ _ _) rfl ?_
  refine ev_go 2 (q := 19) (st' := .int (-1) :: _ :: _) rfl ?_
  refine ev_mput (q := 22) hn rfl rfl rfl (by decide) rfl (mls_35 _ _ _) rfl ?_
  refine ev_go 4 (q := 27) (st' := .int 100 :: _ :: _) rfl ?_
  refine l_box hn hu 100 0 (va_up (va_up (va_up (va_up σ 32 99) 34 99) 33 (-1)) 35 (-1), A) (by omega) h5 ?_
  exact ev_vret rfl rfl (rfl)
def md_b (A : Nat → Nat → Int32) (n o k l : Nat) : Int32 := am_b (¬ A 2 (402 * n + 100 * l + k) = A 2 (402 * o + 100 * l + k))
def md_x (A : Nat → Nat → Int32) (n o k : Nat) : Int32 := ((0 ||| md_b A n o k 0) ||| md_b A n o k 1) ||| md_b A n o k 2
theorem kx_ix (n l k : Nat) : 402 * nI n + 100 * nI l + nI k = nI (402 * n + 100 * l + k) := by
  rw [show (402 : Int32) = nI 402 from rfl, show (100 : Int32) = nI 100 from rfl, pk_mul, pk_mul, nI_add, nI_add]
theorem t_dif (hn : 43 ≤ h.1) {n o k l : Nat} {x y : Int32} (h1 : n < 60) (h2 : o < 60) (hk : k < 100) (hl : l < 3) (K : am_ev d z_Model_differ (18, [some (.ref 18), some (.int (nI n)), some (.int (nI o)), some (.int x), some (.int (nI k)), some (.int (y ||| md_b A n o k l)), some (.int (nI (l + 1)))], [], mH h σ t A) res h') : am_ev d z_Model_differ (18, [some (.ref 18), some (.int (nI n)), some (.int (nI o)), some (.int x), some (.int (nI k)), some (.int y), some (.int (nI l))], [], mH h σ t A) res h' := by
  unfold md_b at K
  refine ev_go 2 (q := 21) (st' := .int 3 :: _ :: _) rfl ?_
  refine ev_icmp_ge (t := 81) (q := 24) rfl rfl rfl (fun c => absurd c (nI_ge (b := 3) hl (by decide))) (fun zc1 => ?_)
  refine ev_go 2 (q := 27) rfl ?_
  refine ev_get (q := 30) rfl (mH_o hn) rfl rfl rfl ?_
  refine ev_go 9 (q := 44) (st' := .int (((402 * _) + (100 * _)) + _) :: _ :: _ :: _) rfl ?_
  refine ev_mia (q := 45) hn rfl (by decide) rfl (kx_ix _ _ _) (show 402 * n + 100 * l + k < 24120 by omega) rfl ?_
  refine ev_go 1 (q := 46) rfl ?_
  refine ev_get (q := 49) rfl (mH_o hn) rfl rfl rfl ?_
  refine ev_go 9 (q := 63) (st' := .int (((402 * _) + (100 * _)) + _) :: _ :: _ :: _ :: _) rfl ?_
  refine ev_mia (q := 64) hn rfl (by decide) rfl (kx_ix _ _ _) (show 402 * o + 100 * l + k < 24120 by omega) rfl ?_
  refine ev_icmp_eq (t := 71) (q := 67) rfl rfl rfl (fun zc2 => ?_) (fun zc2 => ?_)
  · refine ev_go 5 (q := 18) rfl ?_
    rw [am_bz (fun q => q zc2)] at K
    rw [nI_s]
    exact K
  · refine ev_go 6 (q := 18) rfl ?_
    rw [am_b1 zc2] at K
    rw [nI_s]
    exact K
theorem l_dif (hn : 43 ≤ h.1) {n o : Nat} (h1 : n < 60) (h2 : o < 60) : ∀ (m k : Nat) (X : Int32) (e5 : Option Value) (e6 : Option Value), k + m = 100 → (∀ e5 e6 : Option Value, am_ev d z_Model_differ (100, [some (.ref 18), some (.int (nI n)), some (.int (nI o)), some (.int (sp_it (fun k (x : Int32) => x + am_b (¬ md_x A n o k = 0)) k m X)), some (.int (nI 100)), e5, e6], [], mH h σ t A) res h') → am_ev d z_Model_differ (9, [some (.ref 18), some (.int (nI n)), some (.int (nI o)), some (.int X), some (.int (nI k)), e5, e6], [.int 100, .int (nI k)], mH h σ t A) res h'
  | 0, k, X, e5, e6, hm, K => by
    refine ev_icmp_ge (t := 100) (q := 12) rfl rfl rfl (fun _ => ?_) (fun c1 => absurd (nI_end (b := 100) hm (by omega)) c1)
    have hc : k = 100 := hm
    subst hc
    exact K e5 e6
  | m + 1, k, X, e5, e6, hm, K => by
    refine ev_icmp_ge (t := 100) (q := 12) rfl rfl rfl (fun c1 => absurd c1 (nI_ge (b := 100) (by omega) (by omega))) (fun _ => ?_)
    simp only [sp_it] at K
    refine ev_go 4 (q := 18) rfl ?_
    rw [show Int32.ofInt 0 = nI 0 from rfl]
    refine t_dif (x := X) (y := 0) hn h1 h2 (by omega) (by omega) (t_dif hn h1 h2 (by omega) (by omega) (t_dif hn h1 h2 (by omega) (by omega) ?_))
    refine ev_go 2 (q := 21) (st' := .int 3 :: _) rfl ?_
    refine ev_icmp_ge (t := 81) (q := 24) rfl rfl rfl (fun _ => ?_) (fun c => absurd (by decide) c)
    refine ev_go 2 (q := 84) (st' := .int (md_x A n o k) :: _) rfl ?_
    refine ev_if_eq (t := 91) (q := 87) rfl rfl rfl (fun zc1 => ?_) (fun zc1 => ?_)
    · refine ev_go 4 (q := 97) rfl ?_
      rw [nI_s]
      refine ev_go 3 (q := 9) (st' := .int 100 :: _) rfl ?_
      refine l_dif hn h1 h2 m (k + 1) _ _ _ (by omega) (fun e5 e6 => ?_)
      have K1 := K e5 e6
      rw [am_bz (fun q => q zc1)] at K1
      exact K1
    · refine ev_go 5 (q := 97) rfl ?_
      rw [nI_s]
      refine ev_go 3 (q := 9) (st' := .int 100 :: _) rfl ?_
      refine l_dif hn h1 h2 m (k + 1) _ _ _ (by omega) (fun e5 e6 => ?_)
      have K1 := K e5 e6
      rw [am_b1 zc1] at K1
      exact K1
def md_n (A : Nat → Nat → Int32) (n o : Nat) : Int32 := sp_it (fun k (x : Int32) => x + am_b (¬ md_x A n o k = 0)) 0 100 0
theorem m_differ (hn : 43 ≤ h.1) {n o : Nat} (h1 : n < 60) (h2 : o < 60) : am_m d z_Model_differ [.ref 18, .int (nI n), .int (nI o)] (mH h σ t A) (some (.int (md_n A n o))) (mH h σ t A) := by
  refine ev_go 6 (q := 9) (st' := .int 100 :: _ :: _) rfl ?_
  refine l_dif hn h1 h2 100 0 0 _ _ (by omega) (fun e5 e6 => ?_)
  refine ev_go 1 (q := 101) rfl ?_
  exact ev_iret rfl rfl (rfl) (rfl)
def mu_s (A : Nat → Nat → Int32) (x : Int32) (k : Nat) (S : Int32 × Int32) : Int32 × Int32 := if ¬ A 4 k = 0 ∧ A 3 k = x then (S.1 + 1, nI k) else S
theorem l_und (hn : 43 ≤ h.1) {x b : Int32} {n : Nat} (h10 : σ 10 = nI n) (hb : n ≤ 60) : ∀ (m k : Nat) (S : Int32 × Int32), k + m = n → am_ev d z_Model_under (52, [some (.ref 18), some (.int x), some (.int b), some (.int (sp_it (mu_s A x) k m S).1), some (.int (sp_it (mu_s A x) k m S).2), some (.int (nI n))], [], mH h σ t A) res h' → am_ev d z_Model_under (15, [some (.ref 18), some (.int x), some (.int b), some (.int S.1), some (.int S.2), some (.int (nI k))], [.int (nI n), .int (nI k)], mH h σ t A) res h'
  | 0, k, S, hm, K => by
    refine ev_icmp_ge (t := 52) (q := 18) rfl rfl rfl (fun _ => ?_) (fun c1 => absurd (nI_end (b := n) hm (by omega)) c1)
    have hc : k = n := hm
    subst hc
    exact K
  | m + 1, k, S, hm, K => by
    refine ev_icmp_ge (t := 52) (q := 18) rfl rfl rfl (fun c1 => absurd c1 (nI_ge (b := n) (by omega) (by omega))) (fun _ => ?_)
    rw [sp_it] at K
    refine ev_go 1 (q := 19) rfl ?_
    refine ev_get (q := 22) rfl (mH_o hn) rfl rfl rfl ?_
    refine ev_go 1 (q := 24) rfl ?_
    refine ev_mza (q := 25) hn rfl (by decide) rfl rfl (show k < 60 by omega) rfl ?_
    refine ev_if_eq (t := 46) (q := 28) rfl rfl rfl (fun zc1 => ?_) (fun zc1 => ?_)
    · refine ev_go 1 (q := 49) rfl ?_
      unfold mu_s at K
      rw [if_neg (fun q => q.1 zc1)] at K
      rw [nI_s]
      refine ev_go 3 (q := 12) rfl ?_
      refine ev_get (q := 15) rfl (mH_o hn) rfl rfl rfl ?_
      rw [h10]
      exact l_und hn h10 hb m (k + 1) S (by omega) K
    · refine ev_go 1 (q := 29) rfl ?_
      refine ev_get (q := 32) rfl (mH_o hn) rfl rfl rfl ?_
      refine ev_go 1 (q := 34) rfl ?_
      refine ev_mia (q := 35) hn rfl (by decide) rfl rfl (show k < 60 by omega) rfl ?_
      refine ev_go 1 (q := 36) rfl ?_
      refine ev_icmp_ne (t := 46) (q := 39) rfl rfl rfl (fun zc2 => ?_) (fun zc2 => ?_)
      · refine ev_go 1 (q := 49) rfl ?_
        unfold mu_s at K
        rw [if_neg (fun q => zc2 q.2)] at K
        rw [nI_s]
        refine ev_go 3 (q := 12) rfl ?_
        refine ev_get (q := 15) rfl (mH_o hn) rfl rfl rfl ?_
        rw [h10]
        exact l_und hn h10 hb m (k + 1) S (by omega) K
      · refine ev_go 4 (q := 49) rfl ?_
        unfold mu_s at K
        rw [if_pos ⟨zc1, zc2⟩] at K
        rw [nI_s]
        refine ev_go 3 (q := 12) rfl ?_
        refine ev_get (q := 15) rfl (mH_o hn) rfl rfl rfl ?_
        rw [h10]
        exact l_und hn h10 hb m (k + 1) (S.1 + 1, nI k) (by omega) K
def mu_n (A : Nat → Nat → Int32) (x : Int32) (n : Nat) : Int32 × Int32 := sp_it (mu_s A x) 0 n (0, -9)
theorem m_under (hn : 43 ≤ h.1) {x b : Int32} {n : Nat} (h10 : σ 10 = nI n) (hb : n ≤ 60) : am_m d z_Model_under [.ref 18, .int x, .int b] (mH h σ t A) (some (.int (if b = 0 then (mu_n A x n).2 else (mu_n A x n).1))) (mH h σ t A) := by
  refine ev_go 8 (q := 12) rfl ?_
  refine ev_get (q := 15) rfl (mH_o hn) rfl rfl rfl ?_
  rw [h10]
  refine l_und hn h10 hb n 0 (0, -9) (by omega) ?_
  refine ev_go 1 (q := 53) rfl ?_
  refine ev_if_eq (t := 60) (q := 56) rfl rfl rfl (fun zc1 => ?_) (fun zc1 => ?_)
  · refine ev_go 1 (q := 62) rfl ?_
    exact ev_iret rfl rfl (by rw [if_pos zc1]; rfl) (rfl)
  · refine ev_go 2 (q := 62) rfl ?_
    exact ev_iret rfl rfl (by rw [if_neg zc1]; rfl) (rfl)
def md_deep (a : Nat → Int32) : Nat → Nat → Nat
  | 0, _ => 0
  | f + 1, k => if a k = -9 then 0 else md_deep a f (a k).toNatClampNeg + 1
def md_wf (a : Nat → Int32) (n : Nat) : Prop := ∀ k, k < n → a k = -9 ∨ ∃ p, p < k ∧ a k = nI p
theorem md_deep_le (a : Nat → Int32) : ∀ f k, md_deep a f k ≤ f
  | 0, _ => Nat.le_refl _
  | f + 1, k => by
    unfold md_deep
    split
    · omega
    · have := md_deep_le a f (a k).toNatClampNeg
      omega
theorem l_deepOf (hn : 43 ≤ h.1) {x : Int32} {n : Nat} (hb : n ≤ 60) (hw : md_wf (A 3) n) : ∀ (f k c : Nat), k < n → k < f → (∀ e, am_ev d z_Model_deepOf (28, [some (.ref 18), some (.int x), some (.int (nI (c + md_deep (A 3) f k))), e], [], mH h σ t A) res h') → am_ev d z_Model_deepOf (4, [some (.ref 18), some (.int x), some (.int (nI c)), some (.int (nI k))], [], mH h σ t A) res h'
  | 0, k, c, hk, hf, K => absurd hf (by omega)
  | f + 1, k, c, hk, hf, K => by
    refine ev_go 1 (q := 5) rfl ?_
    refine ev_get (q := 8) rfl (mH_o hn) rfl rfl rfl ?_
    refine ev_go 1 (q := 9) rfl ?_
    refine ev_mia (q := 10) hn rfl (by decide) rfl rfl (show k < 60 by omega) rfl ?_
    refine ev_go 1 (q := 12) (st' := .int (-9) :: _ :: _) rfl ?_
    refine ev_icmp_eq (t := 28) (q := 15) rfl rfl rfl (fun zc1 => ?_) (fun zc1 => ?_)
    · have K1 := K (some (.int (nI k)))
      unfold md_deep at K1
      rw [if_pos zc1] at K1
      exact K1
    · refine ev_go 2 (q := 19) rfl ?_
      refine ev_get (q := 22) rfl (mH_o hn) rfl rfl rfl ?_
      refine ev_go 1 (q := 23) rfl ?_
      refine ev_mia (q := 24) hn rfl (by decide) rfl rfl (show k < 60 by omega) rfl ?_
      refine ev_go 2 (q := 4) rfl ?_
      rcases hw k hk with q | ⟨p, hp, hq⟩
      · exact absurd q zc1
      · rw [nI_s]
        rw [hq]
        refine l_deepOf hn hb hw f p (c + 1) (by omega) (by omega) (fun e => ?_)
        have K1 := K e
        unfold md_deep at K1
        rw [if_neg zc1, hq, nI_clamp (by omega), ← Nat.add_assoc, Nat.add_right_comm] at K1
        exact K1
theorem m_deepOf (hn : 43 ≤ h.1) {n k : Nat} (hb : n ≤ 60) (hw : md_wf (A 3) n) (hk : k < n) : am_m d z_Model_deepOf [.ref 18, .int (nI k)] (mH h σ t A) (some (.int (nI (md_deep (A 3) (k + 1) k)))) (mH h σ t A) := by
  refine ev_go 4 (q := 4) rfl ?_
  rw [show Int32.ofInt 0 = nI 0 from rfl]
  refine l_deepOf hn hb hw (k + 1) k 0 hk (by omega) (fun e => ?_)
  rw [Nat.zero_add]
  refine ev_go 1 (q := 29) rfl ?_
  exact ev_iret rfl rfl (rfl) (rfl)
theorem m_isNode (hn : 43 ≤ h.1) (hd : 0 < d) {x : Int32} {n : Nat} (h10 : σ 10 = nI n) (hb : 1 ≤ n ∧ n ≤ 60) : am_m d z_Model_isNode [.ref 18, .int x] (mH h σ t A) (some (.int (am_b ((0 ≤ x ∧ x < nI n) ∧ ¬ A 4 x.toNatClampNeg = 0)))) (mH h σ t A) := by
  have hx : (0 ≤ x ∧ x ≤ σ 10 - 1) ↔ (0 ≤ x ∧ x < nI n) := by
    rw [h10, show nI n - 1 = nI (n - 1) by rw [show (1 : Int32) = nI 1 from rfl, pk_sub hb.1]]
    simp only [Int32.lt_iff_toInt_lt, Int32.le_iff_toInt_le, nI_toInt (show n < 2 ^ 31 by omega), nI_toInt (show n - 1 < 2 ^ 31 by omega)]
    omega
  refine ev_go 3 (q := 3) (st' := _ :: .int 0 :: _ :: _) rfl ?_
  refine ev_get (q := 6) rfl (mH_o hn) rfl rfl rfl ?_
  refine ev_go 2 (q := 8) (st' := .int (_ - 1) :: _ :: _ :: _) rfl ?_
  refine ev_static (z' := z_Model_in) (q := 11) rfl rfl (by decide) rfl rfl (by simp [Value.category]) rfl (by omega) (k_in _ _ _) ?_
  refine ev_if_eq (t := 27) (q := 14) rfl rfl rfl (fun zc1 => ?_) (fun zc1 => ?_)
  · refine ev_go 1 (q := 28) (st' := .int 0 :: _) rfl ?_
    exact ev_zret rfl rfl (by first | exact Or.inl rfl | exact Or.inr rfl | assumption) (am_bz (fun q => am_b0.mp zc1 (hx.mpr q.1))).symm (rfl)
  · refine ev_go 1 (q := 15) rfl ?_
    refine ev_get (q := 18) rfl (mH_o hn) rfl rfl rfl ?_
    obtain ⟨j, hj, rfl⟩ := nI_of (x := x) (Int32.not_lt.mpr (am_bn.mp zc1).1)
    have hjn : j < n := (nI_ltI hj (by omega)).mp (hx.mp (am_bn.mp zc1)).2
    refine ev_go 1 (q := 19) rfl ?_
    refine ev_mza (q := 20) hn rfl (by decide) rfl rfl (show j < 60 by omega) rfl ?_
    refine ev_if_eq (t := 27) (q := 23) rfl rfl rfl (fun zc2 => ?_) (fun zc2 => ?_)
    · refine ev_go 1 (q := 28) (st' := .int 0 :: _) rfl ?_
      exact ev_zret rfl rfl (by first | exact Or.inl rfl | exact Or.inr rfl | assumption) (am_bz (fun q => q.2 (by rw [nI_clamp hj]; exact zc2))).symm (rfl)
    · refine ev_go 2 (q := 28) (st' := .int 1 :: _) rfl ?_
      exact ev_zret rfl rfl (by first | exact Or.inl rfl | exact Or.inr rfl | assumption) (am_b1 ⟨hx.mp (am_bn.mp zc1), by rw [nI_clamp hj]; exact zc2⟩).symm (rfl)
end M3
end
section
/-! the reference: painting -/
section M4
variable {d : Nat} {h h' : am_H} {σ : Nat → Int32} {t : Int64} {A : Nat → Nat → Int32} {res : Option Value} {R C u : Nat}
theorem m_paint {r c x : Int32} (hn : 43 ≤ h.1) (hd : 1 < d) (hR : 1 ≤ R ∧ R ≤ 10) (hC : 1 ≤ C ∧ C ≤ 10) (h1 : σ 1 = nI R) (h2 : σ 2 = nI C) (h5 : σ 5 = nI u) (hu : u < 3) : am_m d z_Model_paints [.ref 18, .int r, .int c, .int x] (mH h σ t A) none (mH h σ t (ms_paint R C u A r c x)) := by
  by_cases hk : cl_kn R C r c
  · obtain ⟨r', c', hr, hc, rfl, rfl⟩ := kn_of hR.2 hC.2 hk
    have q1 := m_paintN (d := d) (h := h) (σ := σ) (t := t) (A := A) (x := x) hn hd hR hC h1 h2 h5 hu hr hc
    have e1 : (nI r').toNatClampNeg = r' := nI_clamp (by omega)
    have e2 : (nI c').toNatClampNeg = c' := nI_clamp (by omega)
    unfold ms_paint
    rw [e1, e2]
    by_cases hf : ¬ A 1 (10 * r' + c') = 0
    · rw [if_pos hf] at q1
      rw [if_pos ⟨hk, hf⟩]
      exact q1
    · rw [if_neg hf] at q1
      rw [if_neg (fun q => hf q.2)]
      exact q1
  · unfold ms_paint
    rw [if_neg (fun q => hk q.1)]
    refine ev_go 3 (q := 3) rfl ?_
    refine ev_virt (z' := z_Model_isKnot) (q := 6) rfl rfl (by decide) rfl (by simp [Value.category]) rfl (by omega) rfl rfl (mH_o hn) (m_knF hn (by omega) hR hC h1 h2 hk) ?_
    refine ev_if_eq (t := 43) (q := 9) rfl rfl rfl (fun zc1 => ?_) (fun c => absurd rfl c)
    exact ev_vret rfl rfl (rfl)
def fl_m (a b : Int32) : Int32 := if a < 0 then -((-a + b - 1) / b) else a / b
def rd_m (a b : Int32) : Int32 := if 0 ≤ a - a / b * b then a - a / b * b else a - a / b * b + b
theorem m_floor {a b : Int32} (hb : ¬ b = 0) : am_m d z_Model_floor [.int a, .int b] h (some (.int (fl_m a b))) h := by
  refine ev_go 1 (q := 1) rfl ?_
  refine ev_if_lt (t := 10) (q := 4) rfl rfl rfl (fun zc1 => ?_) (fun zc1 => ?_)
  · refine ev_go 7 (q := 17) (st' := _ :: .int (_ - 1) :: _) rfl ?_
    refine ev_div (q := 18) rfl hb rfl ?_
    refine ev_go 1 (q := 19) rfl ?_
    exact ev_iret rfl rfl (by unfold fl_m; first | rw [if_pos (by assumption)] | rw [if_neg (by assumption)]) (rfl)
  · refine ev_go 2 (q := 6) rfl ?_
    refine ev_div (q := 7) rfl hb rfl ?_
    refine ev_go 1 (q := 19) rfl ?_
    exact ev_iret rfl rfl (by unfold fl_m; first | rw [if_pos (by assumption)] | rw [if_neg (by assumption)]) (rfl)
theorem m_round {a b : Int32} (hb : ¬ b = 0) : am_m d z_Model_round [.int a, .int b] h (some (.int (rd_m a b))) h := by
  refine ev_go 2 (q := 2) rfl ?_
  refine ev_rem (q := 3) rfl hb rfl ?_
  refine ev_go 2 (q := 5) rfl ?_
  refine ev_if_ge (t := 14) (q := 8) rfl rfl rfl (fun zc1 => ?_) (fun zc1 => ?_)
  · refine ev_go 1 (q := 15) rfl ?_
    exact ev_iret rfl rfl (by unfold rd_m; first | rw [if_pos (by assumption)] | rw [if_neg (by assumption)]) (rfl)
  · refine ev_go 4 (q := 15) rfl ?_
    exact ev_iret rfl rfl (by unfold rd_m; first | rw [if_pos (by assumption)] | rw [if_neg (by assumption)]) (rfl)
/-- the row (or column) of the k-th knot of a line -/
def ln_m (a c n k : Nat) : Int32 := if n = 0 then nI a else nI a + fl_m (2 * nI k * (nI c - nI a) + nI n) (2 * nI n)
def ln_n (a b c e : Nat) : Nat := let x := if a < c then c - a else a - c; let y := if b < e then e - b else b - e; if y < x then x else y
theorem ln_2n {n : Nat} (h0 : 0 < n) (hn : n < 10) : ¬ (2 : Int32) * nI n = 0 := by
  rw [show (2 : Int32) = nI 2 from rfl, pk_mul]
  exact nI_ne0 (by omega) (by omega)
theorem l_lines (hn : 43 ≤ h.1) (hd : 2 < d) (hR : 1 ≤ R ∧ R ≤ 10) (hC : 1 ≤ C ∧ C ≤ 10) (h1 : σ 1 = nI R) (h2 : σ 2 = nI C) (h5 : σ 5 = nI u) (hu : u < 3) {a b c e n : Nat} {x xx yy : Int32} (hb : n < 10) : ∀ (m k : Nat) (A : Nat → Nat → Int32) (e10 e11 : Option Value), k + m = n + 1 → (∀ e10 e11, am_ev d z_Model_lines (140, [some (.ref 18), some (.int (nI a)), some (.int (nI b)), some (.int (nI c)), some (.int (nI e)), some (.int x), some (.int xx), some (.int yy), some (.int (nI n)), some (.int (nI (n + 1))), e10, e11], [], mH h σ t (sp_it (fun k A => ms_paint R C u A (ln_m a c n k) (ln_m b e n k) x) k m A)) res h') → am_ev d z_Model_lines (58, [some (.ref 18), some (.int (nI a)), some (.int (nI b)), some (.int (nI c)), some (.int (nI e)), some (.int x), some (.int xx), some (.int yy), some (.int (nI n)), some (.int (nI k)), e10, e11], [.int (nI n), .int (nI k)], mH h σ t A) res h'
  | 0, k, A, e10, e11, hm, K => by
    have hc : k = n + 1 := hm
    subst hc
    refine ev_icmp_gt (t := 140) (q := 61) rfl rfl rfl (fun _ => K _ _) (fun c1 => absurd (nI_lt (by omega) (by omega)) c1)
  | m + 1, k, A, e10, e11, hm, K => by
    refine ev_icmp_gt (t := 140) (q := 61) rfl rfl rfl (fun c1 => absurd c1 (nI_nlt (by omega) (by omega))) (fun _ => ?_)
    simp only [sp_it] at K
    by_cases hn0 : n = 0
    · have e1 : nI n = 0 := by rw [hn0]; rfl
      have e2 : ln_m a c n k = nI a := if_pos hn0
      have e3 : ln_m b e n k = nI b := if_pos hn0
      rw [e2, e3] at K
      refine ev_go 1 (q := 63) rfl ?_
      refine ev_if_ne (t := 70) (q := 66) rfl rfl rfl (fun c => absurd e1 c) (fun zc1 => ?_)
      refine ev_go 4 (q := 94) rfl ?_
      refine ev_if_ne (t := 101) (q := 97) rfl rfl rfl (fun c => absurd e1 c) (fun zc2 => ?_)
      refine ev_go 7 (q := 131) rfl ?_
      refine ev_virt (z' := z_Model_paints) (q := 134) rfl rfl (by decide) rfl (by simp [Value.category]) rfl (by omega) rfl rfl (mH_o hn) (m_paint hn (by omega) hR hC h1 h2 h5 hu) ?_
      refine ev_go 1 (q := 137) rfl ?_
      rw [nI_s]
      refine ev_go 3 (q := 58) rfl ?_
      exact l_lines hn hd hR hC h1 h2 h5 hu hb m (k + 1) _ _ _ (by omega) K
    · have e1 : ¬ nI n = 0 := nI_ne0 (by omega) (by omega)
      have e2 : ln_m a c n k = nI a + fl_m (2 * nI k * (nI c - nI a) + nI n) (2 * nI n) := if_neg hn0
      have e3 : ln_m b e n k = nI b + fl_m (2 * nI k * (nI e - nI b) + nI n) (2 * nI n) := if_neg hn0
      rw [e2, e3] at K
      refine ev_go 1 (q := 63) rfl ?_
      refine ev_if_ne (t := 70) (q := 66) rfl rfl rfl (fun zc1 => ?_) (fun c => absurd c e1)
      refine ev_go 13 (q := 86) (st' := .int (2 * _) :: .int (((2 * _) * _) + _) :: _ :: _) rfl ?_
      refine ev_static (z' := z_Model_floor) (q := 89) rfl rfl (by decide) rfl rfl (by simp [Value.category]) rfl (by omega) (m_floor (ln_2n (by omega) hb)) ?_
      refine ev_go 3 (q := 94) rfl ?_
      refine ev_if_ne (t := 101) (q := 97) rfl rfl rfl (fun zc2 => ?_) (fun c => absurd c e1)
      refine ev_go 13 (q := 118) (st' := .int (2 * _) :: .int (((2 * _) * _) + _) :: _ :: _) rfl ?_
      refine ev_static (z' := z_Model_floor) (q := 121) rfl rfl (by decide) rfl rfl (by simp [Value.category]) rfl (by omega) (m_floor (ln_2n (by omega) hb)) ?_
      refine ev_go 6 (q := 131) rfl ?_
      refine ev_virt (z' := z_Model_paints) (q := 134) rfl rfl (by decide) rfl (by simp [Value.category]) rfl (by omega) rfl rfl (mH_o hn) (m_paint hn (by omega) hR hC h1 h2 h5 hu) ?_
      refine ev_go 1 (q := 137) rfl ?_
      rw [nI_s]
      refine ev_go 3 (q := 58) rfl ?_
      exact l_lines hn hd hR hC h1 h2 h5 hu hb m (k + 1) _ _ _ (by omega) K
theorem m_lines (hn : 43 ≤ h.1) (hd : 2 < d) (hR : 1 ≤ R ∧ R ≤ 10) (hC : 1 ≤ C ∧ C ≤ 10) (h1 : σ 1 = nI R) (h2 : σ 2 = nI C) (h5 : σ 5 = nI u) (hu : u < 3) {a b c e : Nat} {x : Int32} (ha : a < 10) (hb : b < 10) (hc : c < 10) (he : e < 10) : am_m d z_Model_lines [.ref 18, .int (nI a), .int (nI b), .int (nI c), .int (nI e), .int x] (mH h σ t A) none (mH h σ t (sp_it (fun k A => ms_paint R C u A (ln_m a c (ln_n a b c e) k) (ln_m b e (ln_n a b c e) k) x) 0 (ln_n a b c e + 1) A)) := by
  have hx : ∀ {p q : Nat}, p < 10 → q < 10 → (¬ nI q ≤ nI p → nI q - nI p = nI (if p < q then q - p else p - q)) ∧ (nI q ≤ nI p → nI p - nI q = nI (if p < q then q - p else p - q)) := by
    intro p q hp hq
    constructor
    · intro z
      have : p < q := Nat.not_le.mp (fun y => z ((nI_leI (by omega) (by omega)).mpr y))
      rw [if_pos this, pk_sub (by omega)]
    · intro z
      have : q ≤ p := (nI_leI (by omega) (by omega)).mp z
      rw [if_neg (by omega), pk_sub (by omega)]
  have hy : ∀ {p q : Nat}, p < 10 → q < 10 → (if p < q then q - p else p - q) < 10 := by
    intro p q hp hq
    split <;> omega
  generalize hX : (if a < c then c - a else a - c) = X
  generalize hY : (if b < e then e - b else b - e) = Y
  have hX9 : X < 10 := by rw [← hX]; exact hy ha hc
  have hY9 : Y < 10 := by rw [← hY]; exact hy hb he
  have hN : ln_n a b c e = if Y < X then X else Y := by unfold ln_n; rw [hX, hY]
  have hN9 : ln_n a b c e < 10 := by rw [hN]; split <;> omega
  have tail : ∀ e8 e9 : Option Value, am_ev d z_Model_lines (35, [some (.ref 18), some (.int (nI a)), some (.int (nI b)), some (.int (nI c)), some (.int (nI e)), some (.int x), some (.int (nI X)), some (.int (nI Y)), e8, e9, none, none], [], mH h σ t A) none (mH h σ t (sp_it (fun k A => ms_paint R C u A (ln_m a c (ln_n a b c e) k) (ln_m b e (ln_n a b c e) k) x) 0 (ln_n a b c e + 1) A)) := by
    intro e8 e9
    refine ev_go 2 (q := 39) rfl ?_
    refine ev_icmp_le (t := 47) (q := 42) rfl rfl rfl (fun zc1 => ?_) (fun zc1 => ?_)
    · refine ev_go 6 (q := 58) rfl ?_
      have e1 : nI Y = nI (ln_n a b c e) := by rw [hN, if_neg (Nat.not_lt.mpr ((nI_leI (by omega) (by omega)).mp zc1))]
      rw [e1]
      refine l_lines hn hd hR hC h1 h2 h5 hu hN9 (ln_n a b c e + 1) 0 A _ _ (by omega) (fun e10 e11 => ?_)
      exact ev_vret rfl rfl rfl
    · refine ev_go 7 (q := 58) rfl ?_
      have e1 : nI X = nI (ln_n a b c e) := by rw [hN, if_pos (Nat.not_le.mp (fun y => zc1 ((nI_leI (by omega) (by omega)).mpr y)))]
      rw [e1]
      refine l_lines hn hd hR hC h1 h2 h5 hu hN9 (ln_n a b c e + 1) 0 A _ _ (by omega) (fun e10 e11 => ?_)
      exact ev_vret rfl rfl rfl
  refine ev_go 2 (q := 2) rfl ?_
  refine ev_icmp_le (t := 11) (q := 5) rfl rfl rfl (fun zc1 => ?_) (fun zc1 => ?_)
  · refine ev_go 4 (q := 16) rfl ?_
    rw [(hx ha hc).2 zc1, hX]
    refine ev_go 2 (q := 19) rfl ?_
    refine ev_icmp_le (t := 29) (q := 22) rfl rfl rfl (fun zc7 => ?_) (fun zc7 => ?_)
    · refine ev_go 4 (q := 35) rfl ?_
      rw [(hx hb he).2 zc7, hY]
      exact tail _ _
    · refine ev_go 5 (q := 35) rfl ?_
      rw [(hx hb he).1 zc7, hY]
      exact tail _ _
  · refine ev_go 5 (q := 16) rfl ?_
    rw [(hx ha hc).1 zc1, hX]
    refine ev_go 2 (q := 19) rfl ?_
    refine ev_icmp_le (t := 29) (q := 22) rfl rfl rfl (fun zc7 => ?_) (fun zc7 => ?_)
    · refine ev_go 4 (q := 35) rfl ?_
      rw [(hx hb he).2 zc7, hY]
      exact tail _ _
    · refine ev_go 5 (q := 35) rfl ?_
      rw [(hx hb he).1 zc7, hY]
      exact tail _ _
end M4
end
section
/-! the reference: stamps, and what is done in the box -/
section M5
variable {d : Nat} {h h' : am_H} {σ : Nat → Int32} {t : Int64} {A : Nat → Nat → Int32} {res : Option Value} {R C u : Nat}
def st_t (_ : Nat) (S : Int32 × Int32) : Int32 × Int32 := (S.2, 2 - S.1)
def st_ij (dd k : Nat) : Int32 × Int32 := let S := sp_it st_t 0 (dd % 4) (nI (k / 3), nI (k % 3)); (S.1, if dd ≤ 3 then S.2 else 2 - S.2)
theorem l_stt {a b bits x : Int32} {k dd : Nat} (hdd : dd < 8) : ∀ (m i : Nat) (S : Int32 × Int32) (e : Option Value), i + m = dd % 4 → (∀ e e9, am_ev d z_Model_stamps (64, [some (.ref 18), some (.int a), some (.int b), some (.int bits), some (.int (nI dd)), some (.int x), some (.int (nI k)), some (.int (sp_it st_t i m S).1), some (.int (sp_it st_t i m S).2), e9, e], [], mH h σ t A) res h') → am_ev d z_Model_stamps (35, [some (.ref 18), some (.int a), some (.int b), some (.int bits), some (.int (nI dd)), some (.int x), some (.int (nI k)), some (.int S.1), some (.int S.2), some (.int (nI i)), e], [], mH h σ t A) res h'
  | 0, i, S, e, hm, K => by
    refine ev_go 3 (q := 40) (st' := .int 4 :: _) rfl ?_
    refine ev_remn (b := 4) (q := 41) rfl rfl rfl (by decide) (by omega) (by decide) rfl ?_
    refine ev_icmp_ge (t := 64) (q := 44) rfl rfl rfl (fun _ => ?_) (fun c1 => absurd (nI_end hm (by omega)) c1)
    exact K _ _
  | m + 1, i, S, e, hm, K => by
    refine ev_go 3 (q := 40) (st' := .int 4 :: _) rfl ?_
    refine ev_remn (b := 4) (q := 41) rfl rfl rfl (by decide) (by omega) (by decide) rfl ?_
    refine ev_icmp_ge (t := 64) (q := 44) rfl rfl rfl (fun c1 => absurd c1 (nI_ge (by omega) (by omega))) (fun _ => ?_)
    simp only [sp_it] at K
    refine ev_go 10 (q := 35) rfl ?_
    rw [nI_s]
    exact l_stt hdd m (i + 1) (S.2, 2 - S.1) _ (by omega) K
def st_g (R C u : Nat) (a b bits x : Int32) (dd k : Nat) (A : Nat → Nat → Int32) : Nat → Nat → Int32 := if (bits >>> (nI k &&& 31)) &&& 1 = 1 then ms_paint R C u A (a - 1 + (st_ij dd k).1) (b - 1 + (st_ij dd k).2) x else A
theorem l_sto (hn : 43 ≤ h.1) (hd : 2 < d) (hR : 1 ≤ R ∧ R ≤ 10) (hC : 1 ≤ C ∧ C ≤ 10) (h1 : σ 1 = nI R) (h2 : σ 2 = nI C) (h5 : σ 5 = nI u) (hu : u < 3) {a b bits x : Int32} {dd : Nat} (hdd : dd < 8) : ∀ (m k : Nat) (A : Nat → Nat → Int32) (e7 : Option Value) (e8 : Option Value) (e9 : Option Value) (e10 : Option Value), k + m = 9 → (∀ e7 e8 e9 e10 : Option Value, am_ev d z_Model_stamps (105, [some (.ref 18), some (.int a), some (.int b), some (.int bits), some (.int (nI dd)), some (.int x), some (.int (nI 9)), e7, e8, e9, e10], [], mH h σ t (sp_it (st_g R C u a b bits x dd) k m A)) res h') → am_ev d z_Model_stamps (7, [some (.ref 18), some (.int a), some (.int b), some (.int bits), some (.int (nI dd)), some (.int x), some (.int (nI k)), e7, e8, e9, e10], [.int 9, .int (nI k)], mH h σ t A) res h'
  | 0, k, A, e7, e8, e9, e10, hm, K => by
    refine ev_icmp_ge (t := 105) (q := 10) rfl rfl rfl (fun _ => ?_) (fun c1 => absurd (nI_end (b := 9) hm (by omega)) c1)
    have hc : k = 9 := hm
    subst hc
    exact K e7 e8 e9 e10
  | m + 1, k, A, e7, e8, e9, e10, hm, K => by
    refine ev_icmp_ge (t := 105) (q := 10) rfl rfl rfl (fun c1 => absurd c1 (nI_ge (b := 9) (by omega) (by omega))) (fun _ => ?_)
    simp only [sp_it] at K
    refine ev_go 6 (q := 17) (st' := .int 1 :: .int (_ &&& 1) :: _) rfl ?_
    refine ev_icmp_ne (t := 99) (q := 20) rfl rfl rfl (fun zc1 => ?_) (fun zc1 => ?_)
    · refine ev_go 2 (q := 3) rfl ?_
      unfold st_g at K
      rw [if_neg (by assumption)] at K
      rw [nI_s]
      refine ev_go 2 (q := 7) (st' := .int 9 :: _) rfl ?_
      exact l_sto hn hd hR hC h1 h2 h5 hu hdd m (k + 1) _ _ _ _ _ (by omega) K
    · refine ev_go 2 (q := 23) (st' := .int 3 :: _ :: _) rfl ?_
      refine ev_divn (b := 3) (q := 24) rfl rfl rfl (by decide) (by omega) (by decide) rfl ?_
      refine ev_go 3 (q := 29) (st' := .int 3 :: _ :: _) rfl ?_
      refine ev_remn (b := 3) (q := 30) rfl rfl rfl (by decide) (by omega) (by decide) rfl ?_
      refine ev_go 3 (q := 35) rfl ?_
      rw [show Int32.ofInt 0 = nI 0 from rfl]
      refine l_stt hdd (dd % 4) 0 (nI (k / 3), nI (k % 3)) _ (by omega) (fun e e9 => ?_)
      have hcd : (bits >>> (nI k &&& 31)) &&& 1 = 1 := by assumption
      rw [show st_g R C u a b bits x dd k A = ms_paint R C u A (a - 1 + (st_ij dd k).1) (b - 1 + (st_ij dd k).2) x from if_pos hcd] at K
      refine ev_go 2 (q := 67) (st' := .int 3 :: _ :: _) rfl ?_
      refine ev_icmp_le (t := 77) (q := 70) rfl rfl rfl (fun zc1 => ?_) (fun zc1 => ?_)
      · refine ev_go 14 (q := 96) (st' := _ :: .int ((_ - 1) + _) :: .int ((_ - 1) + _) :: _ :: _) rfl ?_
        refine ev_virt (z' := z_Model_paints) (q := 99) rfl rfl (by decide) rfl (by simp [Value.category]) rfl (by omega) rfl rfl (mH_o hn) (m_paint hn (by omega) hR hC h1 h2 h5 hu) ?_
        refine ev_go 2 (q := 3) rfl ?_
        rw [show (st_ij dd k).2 = (sp_it st_t 0 (dd % 4) (nI (k / 3), nI (k % 3))).2 from if_pos ((nI_leI (b := 3) (by omega) (by decide)).mp zc1)] at K
        rw [nI_s]
        refine ev_go 2 (q := 7) (st' := .int 9 :: _) rfl ?_
        exact l_sto hn hd hR hC h1 h2 h5 hu hdd m (k + 1) _ _ _ _ _ (by omega) K
      · refine ev_go 17 (q := 96) (st' := _ :: .int ((_ - 1) + _) :: .int ((_ - 1) + _) :: _ :: _) rfl ?_
        refine ev_virt (z' := z_Model_paints) (q := 99) rfl rfl (by decide) rfl (by simp [Value.category]) rfl (by omega) rfl rfl (mH_o hn) (m_paint hn (by omega) hR hC h1 h2 h5 hu) ?_
        refine ev_go 2 (q := 3) rfl ?_
        rw [show (st_ij dd k).2 = 2 - (sp_it st_t 0 (dd % 4) (nI (k / 3), nI (k % 3))).2 from if_neg (fun q => zc1 ((nI_leI (b := 3) (by omega) (by decide)).mpr q))] at K
        rw [nI_s]
        refine ev_go 2 (q := 7) (st' := .int 9 :: _) rfl ?_
        exact l_sto hn hd hR hC h1 h2 h5 hu hdd m (k + 1) _ _ _ _ _ (by omega) K
theorem m_stamps (hn : 43 ≤ h.1) (hd : 2 < d) (hR : 1 ≤ R ∧ R ≤ 10) (hC : 1 ≤ C ∧ C ≤ 10) (h1 : σ 1 = nI R) (h2 : σ 2 = nI C) (h5 : σ 5 = nI u) (hu : u < 3) {a b bits x : Int32} {dd : Nat} (hdd : dd < 8) : am_m d z_Model_stamps [.ref 18, .int a, .int b, .int bits, .int (nI dd), .int x] (mH h σ t A) none (mH h σ t (sp_it (st_g R C u a b bits x dd) 0 9 A)) := by
  refine ev_go 4 (q := 7) (st' := .int 9 :: .int (nI 0) :: _) rfl ?_
  refine l_sto hn hd hR hC h1 h2 h5 hu hdd 9 0 A _ _ _ _ (by omega) (fun e7 e8 e9 e10 => ?_)
  exact ev_vret rfl rfl rfl
/-- knot by knot through the box T .. B, P .. S -/
def sp_bx {α : Type} (g : Nat → Nat → α → α) (T B P S : Nat) : α → α := sp_it (fun r => sp_it (g r) P (S + 1 - P)) T (B + 1 - T)
theorem bi_1 {r P S c : Nat} (h : c ≤ S) : 10 * nI r + nI P + nI S - nI c = nI (10 * r + (P + S - c)) := by
  rw [show (10 : Int32) = nI 10 from rfl, pk_mul, nI_add, nI_add, pk_sub (by omega)]
  congr 1
  omega
theorem bi_2 {T B r c : Nat} (h : r ≤ B) : 10 * (nI T + nI B - nI r) + nI c = nI (10 * (T + B - r) + c) := by
  rw [show (10 : Int32) = nI 10 from rfl, nI_add, pk_sub (by omega), pk_mul, nI_add]
theorem rd_in : ∀ x : Nat, x < 10 → ∀ i : Nat, i < 41 → ∀ n : Nat, n < 10 → (rd_m (nI x - Int32.ofInt ((i : Int) - 20)) (nI (n + 1))).toNatClampNeg < n + 1 ∧ rd_m (nI x - Int32.ofInt ((i : Int) - 20)) (nI (n + 1)) = nI (rd_m (nI x - Int32.ofInt ((i : Int) - 20)) (nI (n + 1))).toNatClampNeg := by decide +kernel
def bg4 (R C u T B P S : Nat) (a : Int32) (r c : Nat) (A : Nat → Nat → Int32) : Nat → Nat → Int32 := ms_paint R C u A (nI r) (nI c) (if a = 0 then A 16 (10 * r + (P + S - c)) else A 16 (10 * (T + B - r) + c))
def bg5 (R C u T B P S : Nat) (a b : Int32) (r c : Nat) (A : Nat → Nat → Int32) : Nat → Nat → Int32 := ms_paint R C u A (nI r) (nI c) (A 16 (10 * (T + (rd_m (nI (r - T) - a) (nI (B - T + 1))).toNatClampNeg) + P + (rd_m (nI (c - P) - b) (nI (S - P + 1))).toNatClampNeg))
def bg6 (R C u T B P S : Nat) (a x : Int32) (r c : Nat) (A : Nat → Nat → Int32) : Nat → Nat → Int32 := if nI r - nI T < a ∨ nI B - nI r < a ∨ nI c - nI P < a ∨ nI S - nI c < a then ms_paint R C u A (nI r) (nI c) x else A
def bg7 (R C u : Nat) (a b : Int32) (r c : Nat) (A : Nat → Nat → Int32) : Nat → Nat → Int32 := ms_paint R C u A (nI r) (nI c) (if A 16 (10 * r + c) = a then b else if A 16 (10 * r + c) = b then a else A 16 (10 * r + c))
theorem pt_15 (R C u : Nat) (A : Nat → Nat → Int32) (r c x : Int32) (j : Nat) (hj : j ≠ 0) : ms_paint R C u A r c x j = A j := by
  unfold ms_paint
  split
  · rw [va_up_ne _ _ hj]
  · rfl
theorem it_15 {g : Nat → (Nat → Nat → Int32) → (Nat → Nat → Int32)} {j : Nat} (hg : ∀ k A, g k A j = A j) : ∀ (m c : Nat) (A : Nat → Nat → Int32), sp_it g c m A j = A j
  | 0, _, _ => rfl
  | m + 1, c, A => by rw [sp_it, it_15 hg m (c + 1), hg]
theorem bx_15 {R C u T B P S : Nat} {a x : Int32} {r c m : Nat} {A : Nat → Nat → Int32} : sp_it (bg6 R C u T B P S a x r) c m A 15 = A 15 := it_15 (fun k A => by
  unfold bg6
  split
  · exact pt_15 _ _ _ _ _ _ _ _ (by decide)
  · rfl) m c A
theorem l_bi4 (hn : 43 ≤ h.1) (hd : 2 < d) (hR : 1 ≤ R ∧ R ≤ 10) (hC : 1 ≤ C ∧ C ≤ 10) (h1 : σ 1 = nI R) (h2 : σ 2 = nI C) (h5 : σ 5 = nI u) (hu : u < 3) {T B P S : Nat} (h32 : σ 32 = nI T) (h33 : σ 33 = nI B) (h34 : σ 34 = nI P) (h35 : σ 35 = nI S) (hT : T ≤ B ∧ B < R) (hP : P ≤ S ∧ S < C)  {a b hh ww : Int32} {r : Nat} (hr : T ≤ r ∧ r ≤ B) : ∀ (m c : Nat) (A : Nat → Nat → Int32) (e8 e9 e10 e11 : Option Value), c + m = S + 1 → P ≤ c → (True) → (∀ e8 e9 e10 e11, am_ev d z_Model_boxed (459, [some (.ref 18), some (.int 4), some (.int a), some (.int b), some (.int hh), some (.int ww), some (.int (nI r)), some (.int (nI (S + 1))), e8, e9, e10, e11], [], mH h σ t (sp_it ((bg4 R C u T B P S a) r) c m A)) res h') → am_ev d z_Model_boxed (67, [some (.ref 18), some (.int 4), some (.int a), some (.int b), some (.int hh), some (.int ww), some (.int (nI r)), some (.int (nI c)), e8, e9, e10, e11], [.int (nI S), .int (nI c)], mH h σ t A) res h'
  | 0, c, A, e8, e9, e10, e11, hm, hc, hA, K => by
    have hc : c = S + 1 := hm
    subst hc
    refine ev_icmp_gt (t := 459) (q := 70) rfl rfl rfl (fun _ => K _ _ _ _) (fun c1 => absurd (nI_lt (by omega) (by omega)) c1)
  | m + 1, c, A, e8, e9, e10, e11, hm, hc, hA, K => by
    refine ev_icmp_gt (t := 459) (q := 70) rfl rfl rfl (fun c1 => absurd c1 (nI_nlt (by omega) (by omega))) (fun _ => ?_)
    simp only [sp_it] at K
    refine ev_go 12 (q := 118) rfl ?_
    refine ev_if_ne (t := 147) (q := 121) rfl rfl rfl (fun zc1 => ?_) (fun zc1 => ?_)
    · refine ev_go 1 (q := 148) rfl ?_
      refine ev_get (q := 151) rfl (mH_o hn) rfl rfl rfl ?_
      refine ev_go 2 (q := 154) (st' := _ :: .int 10 :: _ :: _ :: _ :: _ :: _) rfl ?_
      refine ev_get (q := 157) rfl (mH_o hn) rfl rfl rfl ?_
      refine ev_go 1 (q := 158) rfl ?_
      refine ev_get (q := 161) rfl (mH_o hn) rfl rfl rfl ?_
      refine ev_go 6 (q := 169) rfl ?_
      refine ev_mia (q := 170) hn rfl (by decide) rfl (by rw [h32, h33]; exact bi_2 (by omega)) (show 10 * (T + B - r) + c < 100 by omega) rfl ?_
      refine ev_virt (z' := z_Model_paints) (q := 173) rfl rfl (by decide) rfl (by simp [Value.category]) rfl (by omega) rfl rfl (mH_o hn) (m_paint hn (by omega) hR hC h1 h2 h5 hu) ?_
      refine ev_go 2 (q := 456) rfl ?_
      skip
      rw [show bg4 R C u T B P S a r c A = ms_paint R C u A (nI r) (nI c) (A 16 (10 * (T + B - r) + c)) by unfold bg4; rw [if_neg zc1]] at K
      rw [nI_s]
      refine ev_go 3 (q := 64) rfl ?_
      refine ev_get (q := 67) rfl (mH_o hn) rfl rfl rfl ?_
      rw [h35]
      exact l_bi4 hn hd hR hC h1 h2 h5 hu h32 h33 h34 h35 hT hP  hr m (c + 1) _ _ _ _ _ (by omega) (by omega) hA K
    · refine ev_go 1 (q := 122) rfl ?_
      refine ev_get (q := 125) rfl (mH_o hn) rfl rfl rfl ?_
      refine ev_go 4 (q := 131) (st' := _ :: .int (10 * _) :: _ :: _ :: _ :: _ :: _) rfl ?_
      refine ev_get (q := 134) rfl (mH_o hn) rfl rfl rfl ?_
      refine ev_go 2 (q := 136) rfl ?_
      refine ev_get (q := 139) rfl (mH_o hn) rfl rfl rfl ?_
      refine ev_go 3 (q := 143) rfl ?_
      refine ev_mia (q := 144) hn rfl (by decide) rfl (by rw [h34, h35]; exact bi_1 (by omega)) (show 10 * r + (P + S - c) < 100 by omega) rfl ?_
      refine ev_go 1 (q := 170) rfl ?_
      refine ev_virt (z' := z_Model_paints) (q := 173) rfl rfl (by decide) rfl (by simp [Value.category]) rfl (by omega) rfl rfl (mH_o hn) (m_paint hn (by omega) hR hC h1 h2 h5 hu) ?_
      refine ev_go 2 (q := 456) rfl ?_
      skip
      rw [show bg4 R C u T B P S a r c A = ms_paint R C u A (nI r) (nI c) (A 16 (10 * r + (P + S - c))) by unfold bg4; rw [if_pos zc1]] at K
      rw [nI_s]
      refine ev_go 3 (q := 64) rfl ?_
      refine ev_get (q := 67) rfl (mH_o hn) rfl rfl rfl ?_
      rw [h35]
      exact l_bi4 hn hd hR hC h1 h2 h5 hu h32 h33 h34 h35 hT hP  hr m (c + 1) _ _ _ _ _ (by omega) (by omega) hA K
theorem l_bo4 (hn : 43 ≤ h.1) (hd : 2 < d) (hR : 1 ≤ R ∧ R ≤ 10) (hC : 1 ≤ C ∧ C ≤ 10) (h1 : σ 1 = nI R) (h2 : σ 2 = nI C) (h5 : σ 5 = nI u) (hu : u < 3) {T B P S : Nat} (h32 : σ 32 = nI T) (h33 : σ 33 = nI B) (h34 : σ 34 = nI P) (h35 : σ 35 = nI S) (hT : T ≤ B ∧ B < R) (hP : P ≤ S ∧ S < C)  {a b hh ww : Int32}  : ∀ (m r : Nat) (A : Nat → Nat → Int32) (e7 e8 e9 e10 e11 : Option Value), r + m = B + 1 → T ≤ r → (True) → (∀ e7 e8 e9 e10 e11, am_ev d z_Model_boxed (465, [some (.ref 18), some (.int 4), some (.int a), some (.int b), some (.int hh), some (.int ww), some (.int (nI (B + 1))), e7, e8, e9, e10, e11], [], mH h σ t (sp_it (fun r => sp_it ((bg4 R C u T B P S a) r) P (S + 1 - P)) r m A)) res h') → am_ev d z_Model_boxed (52, [some (.ref 18), some (.int 4), some (.int a), some (.int b), some (.int hh), some (.int ww), some (.int (nI r)), e7, e8, e9, e10, e11], [.int (nI B), .int (nI r)], mH h σ t A) res h'
  | 0, r, A, e7, e8, e9, e10, e11, hm, hc, hA, K => by
    have hc : r = B + 1 := hm
    subst hc
    refine ev_icmp_gt (t := 465) (q := 55) rfl rfl rfl (fun _ => K _ _ _ _ _) (fun c1 => absurd (nI_lt (by omega) (by omega)) c1)
  | m + 1, r, A, e7, e8, e9, e10, e11, hm, hc, hA, K => by
    refine ev_icmp_gt (t := 465) (q := 55) rfl rfl rfl (fun c1 => absurd c1 (nI_nlt (by omega) (by omega))) (fun _ => ?_)
    simp only [sp_it] at K
    refine ev_go 1 (q := 56) rfl ?_
    refine ev_get (q := 59) rfl (mH_o hn) rfl rfl rfl ?_
    refine ev_go 3 (q := 64) rfl ?_
    refine ev_get (q := 67) rfl (mH_o hn) rfl rfl rfl ?_
    rw [h34, h35]
    refine l_bi4 hn hd hR hC h1 h2 h5 hu h32 h33 h34 h35 hT hP  ⟨hc, by omega⟩ (S + 1 - P) P A _ _ _ _ (by omega) (by omega) hA (fun e8 e9 e10 e11 => ?_)
    refine ev_go 4 (q := 49) rfl ?_
    refine ev_get (q := 52) rfl (mH_o hn) rfl rfl rfl ?_
    rw [nI_s, h33]
    exact l_bo4 hn hd hR hC h1 h2 h5 hu h32 h33 h34 h35 hT hP   m (r + 1) _ _ _ _ _ _ (by omega) (by omega) (trivial) K
theorem l_bi7 (hn : 43 ≤ h.1) (hd : 2 < d) (hR : 1 ≤ R ∧ R ≤ 10) (hC : 1 ≤ C ∧ C ≤ 10) (h1 : σ 1 = nI R) (h2 : σ 2 = nI C) (h5 : σ 5 = nI u) (hu : u < 3) {T B P S : Nat} (h32 : σ 32 = nI T) (h33 : σ 33 = nI B) (h34 : σ 34 = nI P) (h35 : σ 35 = nI S) (hT : T ≤ B ∧ B < R) (hP : P ≤ S ∧ S < C)  {a b hh ww : Int32} {r : Nat} (hr : T ≤ r ∧ r ≤ B) : ∀ (m c : Nat) (A : Nat → Nat → Int32) (e8 e9 e10 e11 : Option Value), c + m = S + 1 → P ≤ c → (True) → (∀ e8 e9 e10 e11, am_ev d z_Model_boxed (459, [some (.ref 18), some (.int 7), some (.int a), some (.int b), some (.int hh), some (.int ww), some (.int (nI r)), some (.int (nI (S + 1))), e8, e9, e10, e11], [], mH h σ t (sp_it ((bg7 R C u a b) r) c m A)) res h') → am_ev d z_Model_boxed (67, [some (.ref 18), some (.int 7), some (.int a), some (.int b), some (.int hh), some (.int ww), some (.int (nI r)), some (.int (nI c)), e8, e9, e10, e11], [.int (nI S), .int (nI c)], mH h σ t A) res h'
  | 0, c, A, e8, e9, e10, e11, hm, hc, hA, K => by
    have hc : c = S + 1 := hm
    subst hc
    refine ev_icmp_gt (t := 459) (q := 70) rfl rfl rfl (fun _ => K _ _ _ _) (fun c1 => absurd (nI_lt (by omega) (by omega)) c1)
  | m + 1, c, A, e8, e9, e10, e11, hm, hc, hA, K => by
    refine ev_icmp_gt (t := 459) (q := 70) rfl rfl rfl (fun c1 => absurd c1 (nI_nlt (by omega) (by omega))) (fun _ => ?_)
    simp only [sp_it] at K
    refine ev_go 12 (q := 301) rfl ?_
    refine ev_get (q := 304) rfl (mH_o hn) rfl rfl rfl ?_
    refine ev_go 1 (q := 306) rfl ?_
    refine ev_mia (q := 307) hn rfl (by decide) rfl (mx_k r c) (show 10 * r + c < 100 by omega) rfl ?_
    refine ev_go 1 (q := 308) rfl ?_
    refine ev_icmp_ne (t := 315) (q := 311) rfl rfl rfl (fun zc1 => ?_) (fun zc1 => ?_)
    · refine ev_go 1 (q := 316) rfl ?_
      refine ev_get (q := 319) rfl (mH_o hn) rfl rfl rfl ?_
      refine ev_go 1 (q := 321) rfl ?_
      refine ev_mia (q := 322) hn rfl (by decide) rfl (mx_k r c) (show 10 * r + c < 100 by omega) rfl ?_
      refine ev_go 1 (q := 323) rfl ?_
      refine ev_icmp_ne (t := 330) (q := 326) rfl rfl rfl (fun zc2 => ?_) (fun zc2 => ?_)
      · refine ev_go 1 (q := 331) rfl ?_
        refine ev_get (q := 334) rfl (mH_o hn) rfl rfl rfl ?_
        refine ev_go 1 (q := 336) rfl ?_
        refine ev_mia (q := 337) hn rfl (by decide) rfl (mx_k r c) (show 10 * r + c < 100 by omega) rfl ?_
        refine ev_virt (z' := z_Model_paints) (q := 340) rfl rfl (by decide) rfl (by simp [Value.category]) rfl (by omega) rfl rfl (mH_o hn) (m_paint hn (by omega) hR hC h1 h2 h5 hu) ?_
        refine ev_go 2 (q := 456) rfl ?_
        rw [show bg7 R C u a b r c A = ms_paint R C u A (nI r) (nI c) (A 16 (10 * r + c)) by unfold bg7; rw [if_neg zc1, if_neg zc2]] at K
        rw [nI_s]
        refine ev_go 3 (q := 64) rfl ?_
        refine ev_get (q := 67) rfl (mH_o hn) rfl rfl rfl ?_
        rw [h35]
        exact l_bi7 hn hd hR hC h1 h2 h5 hu h32 h33 h34 h35 hT hP  hr m (c + 1) _ _ _ _ _ (by omega) (by omega) hA K
      · refine ev_go 2 (q := 337) rfl ?_
        refine ev_virt (z' := z_Model_paints) (q := 340) rfl rfl (by decide) rfl (by simp [Value.category]) rfl (by omega) rfl rfl (mH_o hn) (m_paint hn (by omega) hR hC h1 h2 h5 hu) ?_
        refine ev_go 2 (q := 456) rfl ?_
        rw [show bg7 R C u a b r c A = ms_paint R C u A (nI r) (nI c) a by unfold bg7; rw [if_neg zc1, if_pos zc2]] at K
        rw [nI_s]
        refine ev_go 3 (q := 64) rfl ?_
        refine ev_get (q := 67) rfl (mH_o hn) rfl rfl rfl ?_
        rw [h35]
        exact l_bi7 hn hd hR hC h1 h2 h5 hu h32 h33 h34 h35 hT hP  hr m (c + 1) _ _ _ _ _ (by omega) (by omega) hA K
    · refine ev_go 2 (q := 337) rfl ?_
      refine ev_virt (z' := z_Model_paints) (q := 340) rfl rfl (by decide) rfl (by simp [Value.category]) rfl (by omega) rfl rfl (mH_o hn) (m_paint hn (by omega) hR hC h1 h2 h5 hu) ?_
      refine ev_go 2 (q := 456) rfl ?_
      rw [show bg7 R C u a b r c A = ms_paint R C u A (nI r) (nI c) b by unfold bg7; rw [if_pos zc1]] at K
      rw [nI_s]
      refine ev_go 3 (q := 64) rfl ?_
      refine ev_get (q := 67) rfl (mH_o hn) rfl rfl rfl ?_
      rw [h35]
      exact l_bi7 hn hd hR hC h1 h2 h5 hu h32 h33 h34 h35 hT hP  hr m (c + 1) _ _ _ _ _ (by omega) (by omega) hA K
theorem l_bo7 (hn : 43 ≤ h.1) (hd : 2 < d) (hR : 1 ≤ R ∧ R ≤ 10) (hC : 1 ≤ C ∧ C ≤ 10) (h1 : σ 1 = nI R) (h2 : σ 2 = nI C) (h5 : σ 5 = nI u) (hu : u < 3) {T B P S : Nat} (h32 : σ 32 = nI T) (h33 : σ 33 = nI B) (h34 : σ 34 = nI P) (h35 : σ 35 = nI S) (hT : T ≤ B ∧ B < R) (hP : P ≤ S ∧ S < C)  {a b hh ww : Int32}  : ∀ (m r : Nat) (A : Nat → Nat → Int32) (e7 e8 e9 e10 e11 : Option Value), r + m = B + 1 → T ≤ r → (True) → (∀ e7 e8 e9 e10 e11, am_ev d z_Model_boxed (465, [some (.ref 18), some (.int 7), some (.int a), some (.int b), some (.int hh), some (.int ww), some (.int (nI (B + 1))), e7, e8, e9, e10, e11], [], mH h σ t (sp_it (fun r => sp_it ((bg7 R C u a b) r) P (S + 1 - P)) r m A)) res h') → am_ev d z_Model_boxed (52, [some (.ref 18), some (.int 7), some (.int a), some (.int b), some (.int hh), some (.int ww), some (.int (nI r)), e7, e8, e9, e10, e11], [.int (nI B), .int (nI r)], mH h σ t A) res h'
  | 0, r, A, e7, e8, e9, e10, e11, hm, hc, hA, K => by
    have hc : r = B + 1 := hm
    subst hc
    refine ev_icmp_gt (t := 465) (q := 55) rfl rfl rfl (fun _ => K _ _ _ _ _) (fun c1 => absurd (nI_lt (by omega) (by omega)) c1)
  | m + 1, r, A, e7, e8, e9, e10, e11, hm, hc, hA, K => by
    refine ev_icmp_gt (t := 465) (q := 55) rfl rfl rfl (fun c1 => absurd c1 (nI_nlt (by omega) (by omega))) (fun _ => ?_)
    simp only [sp_it] at K
    refine ev_go 1 (q := 56) rfl ?_
    refine ev_get (q := 59) rfl (mH_o hn) rfl rfl rfl ?_
    refine ev_go 3 (q := 64) rfl ?_
    refine ev_get (q := 67) rfl (mH_o hn) rfl rfl rfl ?_
    rw [h34, h35]
    refine l_bi7 hn hd hR hC h1 h2 h5 hu h32 h33 h34 h35 hT hP  ⟨hc, by omega⟩ (S + 1 - P) P A _ _ _ _ (by omega) (by omega) hA (fun e8 e9 e10 e11 => ?_)
    refine ev_go 4 (q := 49) rfl ?_
    refine ev_get (q := 52) rfl (mH_o hn) rfl rfl rfl ?_
    rw [nI_s, h33]
    exact l_bo7 hn hd hR hC h1 h2 h5 hu h32 h33 h34 h35 hT hP   m (r + 1) _ _ _ _ _ _ (by omega) (by omega) (trivial) K
theorem l_bi6 (hn : 43 ≤ h.1) (hd : 2 < d) (hR : 1 ≤ R ∧ R ≤ 10) (hC : 1 ≤ C ∧ C ≤ 10) (h1 : σ 1 = nI R) (h2 : σ 2 = nI C) (h5 : σ 5 = nI u) (hu : u < 3) {T B P S : Nat} (h32 : σ 32 = nI T) (h33 : σ 33 = nI B) (h34 : σ 34 = nI P) (h35 : σ 35 = nI S) (hT : T ≤ B ∧ B < R) (hP : P ≤ S ∧ S < C) {xw : Int32} {a b hh ww : Int32} {r : Nat} (hr : T ≤ r ∧ r ≤ B) : ∀ (m c : Nat) (A : Nat → Nat → Int32) (e8 e9 e10 e11 : Option Value), c + m = S + 1 → P ≤ c → (A 15 4 = xw) → (∀ e8 e9 e10 e11, am_ev d z_Model_boxed (459, [some (.ref 18), some (.int 6), some (.int a), some (.int b), some (.int hh), some (.int ww), some (.int (nI r)), some (.int (nI (S + 1))), e8, e9, e10, e11], [], mH h σ t (sp_it ((bg6 R C u T B P S a xw) r) c m A)) res h') → am_ev d z_Model_boxed (67, [some (.ref 18), some (.int 6), some (.int a), some (.int b), some (.int hh), some (.int ww), some (.int (nI r)), some (.int (nI c)), e8, e9, e10, e11], [.int (nI S), .int (nI c)], mH h σ t A) res h'
  | 0, c, A, e8, e9, e10, e11, hm, hc, hA, K => by
    have hc : c = S + 1 := hm
    subst hc
    refine ev_icmp_gt (t := 459) (q := 70) rfl rfl rfl (fun _ => K _ _ _ _) (fun c1 => absurd (nI_lt (by omega) (by omega)) c1)
  | m + 1, c, A, e8, e9, e10, e11, hm, hc, hA, K => by
    refine ev_icmp_gt (t := 459) (q := 70) rfl rfl rfl (fun c1 => absurd c1 (nI_nlt (by omega) (by omega))) (fun _ => ?_)
    simp only [sp_it] at K
    refine ev_go 10 (q := 237) rfl ?_
    refine ev_get (q := 240) rfl (mH_o hn) rfl rfl rfl ?_
    refine ev_go 2 (q := 242) rfl ?_
    refine ev_icmp_lt (t := 278) (q := 245) rfl rfl rfl (fun zc1 => ?_) (fun zc1 => ?_)
    · refine ev_go 4 (q := 284) rfl ?_
      refine ev_get (q := 287) rfl (mH_o hn) rfl rfl rfl ?_
      refine ev_go 1 (q := 288) (st' := .int 4 :: _ :: _ :: _ :: _ :: _) rfl ?_
      refine ev_mia (q := 289) hn rfl (by decide) rfl rfl (by decide) rfl ?_
      refine ev_virt (z' := z_Model_paints) (q := 292) rfl rfl (by decide) rfl (by simp [Value.category]) rfl (by omega) rfl rfl (mH_o hn) (m_paint hn (by omega) hR hC h1 h2 h5 hu) ?_
      refine ev_go 2 (q := 456) rfl ?_
      rw [h32] at zc1
      rw [show bg6 R C u T B P S a xw r c A = ms_paint R C u A (nI r) (nI c) xw by unfold bg6; rw [if_pos (Or.inl zc1)]] at K
      rw [hA]
      rw [nI_s]
      refine ev_go 3 (q := 64) rfl ?_
      refine ev_get (q := 67) rfl (mH_o hn) rfl rfl rfl ?_
      rw [h35]
      exact l_bi6 hn hd hR hC h1 h2 h5 hu h32 h33 h34 h35 hT hP  hr m (c + 1) _ _ _ _ _ (by omega) (by omega) (by rw [pt_15 _ _ _ _ _ _ _ _ (by decide)]; exact hA) K
    · refine ev_go 1 (q := 246) rfl ?_
      refine ev_get (q := 249) rfl (mH_o hn) rfl rfl rfl ?_
      refine ev_go 3 (q := 253) rfl ?_
      refine ev_icmp_lt (t := 278) (q := 256) rfl rfl rfl (fun zc2 => ?_) (fun zc2 => ?_)
      · refine ev_go 4 (q := 284) rfl ?_
        refine ev_get (q := 287) rfl (mH_o hn) rfl rfl rfl ?_
        refine ev_go 1 (q := 288) (st' := .int 4 :: _ :: _ :: _ :: _ :: _) rfl ?_
        refine ev_mia (q := 289) hn rfl (by decide) rfl rfl (by decide) rfl ?_
        refine ev_virt (z' := z_Model_paints) (q := 292) rfl rfl (by decide) rfl (by simp [Value.category]) rfl (by omega) rfl rfl (mH_o hn) (m_paint hn (by omega) hR hC h1 h2 h5 hu) ?_
        refine ev_go 2 (q := 456) rfl ?_
        rw [h32] at zc1
        rw [h33] at zc2
        rw [show bg6 R C u T B P S a xw r c A = ms_paint R C u A (nI r) (nI c) xw by unfold bg6; rw [if_pos (Or.inr (Or.inl zc2))]] at K
        rw [hA]
        rw [nI_s]
        refine ev_go 3 (q := 64) rfl ?_
        refine ev_get (q := 67) rfl (mH_o hn) rfl rfl rfl ?_
        rw [h35]
        exact l_bi6 hn hd hR hC h1 h2 h5 hu h32 h33 h34 h35 hT hP  hr m (c + 1) _ _ _ _ _ (by omega) (by omega) (by rw [pt_15 _ _ _ _ _ _ _ _ (by decide)]; exact hA) K
      · refine ev_go 2 (q := 259) rfl ?_
        refine ev_get (q := 262) rfl (mH_o hn) rfl rfl rfl ?_
        refine ev_go 2 (q := 264) rfl ?_
        refine ev_icmp_lt (t := 278) (q := 267) rfl rfl rfl (fun zc3 => ?_) (fun zc3 => ?_)
        · refine ev_go 4 (q := 284) rfl ?_
          refine ev_get (q := 287) rfl (mH_o hn) rfl rfl rfl ?_
          refine ev_go 1 (q := 288) (st' := .int 4 :: _ :: _ :: _ :: _ :: _) rfl ?_
          refine ev_mia (q := 289) hn rfl (by decide) rfl rfl (by decide) rfl ?_
          refine ev_virt (z' := z_Model_paints) (q := 292) rfl rfl (by decide) rfl (by simp [Value.category]) rfl (by omega) rfl rfl (mH_o hn) (m_paint hn (by omega) hR hC h1 h2 h5 hu) ?_
          refine ev_go 2 (q := 456) rfl ?_
          rw [h32] at zc1
          rw [h33] at zc2
          rw [h34] at zc3
          rw [show bg6 R C u T B P S a xw r c A = ms_paint R C u A (nI r) (nI c) xw by unfold bg6; rw [if_pos (Or.inr (Or.inr (Or.inl zc3)))]] at K
          rw [hA]
          rw [nI_s]
          refine ev_go 3 (q := 64) rfl ?_
          refine ev_get (q := 67) rfl (mH_o hn) rfl rfl rfl ?_
          rw [h35]
          exact l_bi6 hn hd hR hC h1 h2 h5 hu h32 h33 h34 h35 hT hP  hr m (c + 1) _ _ _ _ _ (by omega) (by omega) (by rw [pt_15 _ _ _ _ _ _ _ _ (by decide)]; exact hA) K
        · refine ev_go 1 (q := 268) rfl ?_
          refine ev_get (q := 271) rfl (mH_o hn) rfl rfl rfl ?_
          refine ev_go 3 (q := 275) rfl ?_
          refine ev_icmp_ge (t := 453) (q := 278) rfl rfl rfl (fun zc4 => ?_) (fun zc4 => ?_)
          · refine ev_go 1 (q := 456) rfl ?_
            rw [h32] at zc1
            rw [h33] at zc2
            rw [h34] at zc3
            rw [h35] at zc4
            rw [show bg6 R C u T B P S a xw r c A = A by unfold bg6; rw [if_neg (fun q => q.elim zc1 (fun q => q.elim zc2 (fun q => q.elim zc3 (fun q => Int32.not_lt.mpr zc4 q))))]] at K
            rw [nI_s]
            refine ev_go 3 (q := 64) rfl ?_
            refine ev_get (q := 67) rfl (mH_o hn) rfl rfl rfl ?_
            rw [h35]
            exact l_bi6 hn hd hR hC h1 h2 h5 hu h32 h33 h34 h35 hT hP  hr m (c + 1) _ _ _ _ _ (by omega) (by omega) hA K
          · refine ev_go 4 (q := 284) rfl ?_
            refine ev_get (q := 287) rfl (mH_o hn) rfl rfl rfl ?_
            refine ev_go 1 (q := 288) (st' := .int 4 :: _ :: _ :: _ :: _ :: _) rfl ?_
            refine ev_mia (q := 289) hn rfl (by decide) rfl rfl (by decide) rfl ?_
            refine ev_virt (z' := z_Model_paints) (q := 292) rfl rfl (by decide) rfl (by simp [Value.category]) rfl (by omega) rfl rfl (mH_o hn) (m_paint hn (by omega) hR hC h1 h2 h5 hu) ?_
            refine ev_go 2 (q := 456) rfl ?_
            rw [h32] at zc1
            rw [h33] at zc2
            rw [h34] at zc3
            rw [h35] at zc4
            rw [show bg6 R C u T B P S a xw r c A = ms_paint R C u A (nI r) (nI c) xw by unfold bg6; rw [if_pos (Or.inr (Or.inr (Or.inr (Int32.not_le.mp zc4))))]] at K
            rw [hA]
            rw [nI_s]
            refine ev_go 3 (q := 64) rfl ?_
            refine ev_get (q := 67) rfl (mH_o hn) rfl rfl rfl ?_
            rw [h35]
            exact l_bi6 hn hd hR hC h1 h2 h5 hu h32 h33 h34 h35 hT hP  hr m (c + 1) _ _ _ _ _ (by omega) (by omega) (by rw [pt_15 _ _ _ _ _ _ _ _ (by decide)]; exact hA) K
theorem l_bo6 (hn : 43 ≤ h.1) (hd : 2 < d) (hR : 1 ≤ R ∧ R ≤ 10) (hC : 1 ≤ C ∧ C ≤ 10) (h1 : σ 1 = nI R) (h2 : σ 2 = nI C) (h5 : σ 5 = nI u) (hu : u < 3) {T B P S : Nat} (h32 : σ 32 = nI T) (h33 : σ 33 = nI B) (h34 : σ 34 = nI P) (h35 : σ 35 = nI S) (hT : T ≤ B ∧ B < R) (hP : P ≤ S ∧ S < C) {xw : Int32} {a b hh ww : Int32}  : ∀ (m r : Nat) (A : Nat → Nat → Int32) (e7 e8 e9 e10 e11 : Option Value), r + m = B + 1 → T ≤ r → (A 15 4 = xw) → (∀ e7 e8 e9 e10 e11, am_ev d z_Model_boxed (465, [some (.ref 18), some (.int 6), some (.int a), some (.int b), some (.int hh), some (.int ww), some (.int (nI (B + 1))), e7, e8, e9, e10, e11], [], mH h σ t (sp_it (fun r => sp_it ((bg6 R C u T B P S a xw) r) P (S + 1 - P)) r m A)) res h') → am_ev d z_Model_boxed (52, [some (.ref 18), some (.int 6), some (.int a), some (.int b), some (.int hh), some (.int ww), some (.int (nI r)), e7, e8, e9, e10, e11], [.int (nI B), .int (nI r)], mH h σ t A) res h'
  | 0, r, A, e7, e8, e9, e10, e11, hm, hc, hA, K => by
    have hc : r = B + 1 := hm
    subst hc
    refine ev_icmp_gt (t := 465) (q := 55) rfl rfl rfl (fun _ => K _ _ _ _ _) (fun c1 => absurd (nI_lt (by omega) (by omega)) c1)
  | m + 1, r, A, e7, e8, e9, e10, e11, hm, hc, hA, K => by
    refine ev_icmp_gt (t := 465) (q := 55) rfl rfl rfl (fun c1 => absurd c1 (nI_nlt (by omega) (by omega))) (fun _ => ?_)
    simp only [sp_it] at K
    refine ev_go 1 (q := 56) rfl ?_
    refine ev_get (q := 59) rfl (mH_o hn) rfl rfl rfl ?_
    refine ev_go 3 (q := 64) rfl ?_
    refine ev_get (q := 67) rfl (mH_o hn) rfl rfl rfl ?_
    rw [h34, h35]
    refine l_bi6 hn hd hR hC h1 h2 h5 hu h32 h33 h34 h35 hT hP  ⟨hc, by omega⟩ (S + 1 - P) P A _ _ _ _ (by omega) (by omega) hA (fun e8 e9 e10 e11 => ?_)
    refine ev_go 4 (q := 49) rfl ?_
    refine ev_get (q := 52) rfl (mH_o hn) rfl rfl rfl ?_
    rw [nI_s, h33]
    exact l_bo6 hn hd hR hC h1 h2 h5 hu h32 h33 h34 h35 hT hP   m (r + 1) _ _ _ _ _ _ (by omega) (by omega) (by rw [bx_15]; exact hA) K
theorem rd_of {x : Nat} {a : Int32} {n : Nat} (hx : x < 10) (ha : -20 ≤ a ∧ a ≤ 20) (hn : 1 ≤ n ∧ n ≤ 10) : (rd_m (nI x - a) (nI n)).toNatClampNeg < n ∧ rd_m (nI x - a) (nI n) = nI (rd_m (nI x - a) (nI n)).toNatClampNeg := by
  have h1 : (-20 : Int32).toInt = -20 := by decide
  have h2 : (20 : Int32).toInt = 20 := by decide
  have g1 := Int32.le_iff_toInt_le.mp ha.1
  have g2 := Int32.le_iff_toInt_le.mp ha.2
  rw [h1] at g1
  rw [h2] at g2
  obtain ⟨i, hi⟩ : ∃ i : Nat, a.toInt + 20 = (i : Int) := ⟨(a.toInt + 20).toNat, by omega⟩
  have ea : a = Int32.ofInt ((i : Int) - 20) := by
    rw [show (i : Int) - 20 = a.toInt by omega, Int32.ofInt_toInt]
  obtain ⟨n', rfl⟩ : ∃ n', n = n' + 1 := ⟨n - 1, by omega⟩
  rw [ea]
  exact rd_in x hx i (by omega) n' (by omega)
theorem l_bi5 (hn : 43 ≤ h.1) (hd : 2 < d) (hR : 1 ≤ R ∧ R ≤ 10) (hC : 1 ≤ C ∧ C ≤ 10) (h1 : σ 1 = nI R) (h2 : σ 2 = nI C) (h5 : σ 5 = nI u) (hu : u < 3) {T B P S : Nat} (h32 : σ 32 = nI T) (h33 : σ 33 = nI B) (h34 : σ 34 = nI P) (h35 : σ 35 = nI S) (hT : T ≤ B ∧ B < R) (hP : P ≤ S ∧ S < C)  {a b hh ww : Int32} {r : Nat} (hr : T ≤ r ∧ r ≤ B) : ∀ (m c : Nat) (A : Nat → Nat → Int32) (e8 e9 e10 e11 : Option Value), c + m = S + 1 → P ≤ c → (-20 ≤ a ∧ a ≤ 20 ∧ -20 ≤ b ∧ b ≤ 20 ∧ hh = nI (B - T + 1) ∧ ww = nI (S - P + 1)) → (∀ e8 e9 e10 e11, am_ev d z_Model_boxed (459, [some (.ref 18), some (.int 5), some (.int a), some (.int b), some (.int hh), some (.int ww), some (.int (nI r)), some (.int (nI (S + 1))), e8, e9, e10, e11], [], mH h σ t (sp_it ((bg5 R C u T B P S a b) r) c m A)) res h') → am_ev d z_Model_boxed (67, [some (.ref 18), some (.int 5), some (.int a), some (.int b), some (.int hh), some (.int ww), some (.int (nI r)), some (.int (nI c)), e8, e9, e10, e11], [.int (nI S), .int (nI c)], mH h σ t A) res h'
  | 0, c, A, e8, e9, e10, e11, hm, hc, hA, K => by
    have hc : c = S + 1 := hm
    subst hc
    refine ev_icmp_gt (t := 459) (q := 70) rfl rfl rfl (fun _ => K _ _ _ _) (fun c1 => absurd (nI_lt (by omega) (by omega)) c1)
  | m + 1, c, A, e8, e9, e10, e11, hm, hc, hA, K => by
    refine ev_icmp_gt (t := 459) (q := 70) rfl rfl rfl (fun c1 => absurd c1 (nI_nlt (by omega) (by omega))) (fun _ => ?_)
    simp only [sp_it] at K
    obtain ⟨a1, a2, b1, b2, rfl, rfl⟩ := id hA
    have q1 := rd_of (x := r - T) (a := a) (n := B - T + 1) (by omega) ⟨a1, a2⟩ (by omega)
    have q2 := rd_of (x := c - P) (a := b) (n := S - P + 1) (by omega) ⟨b1, b2⟩ (by omega)
    refine ev_go 12 (q := 182) rfl ?_
    refine ev_get (q := 185) rfl (mH_o hn) rfl rfl rfl ?_
    refine ev_go 2 (q := 188) (st' := _ :: .int 10 :: _ :: _ :: _ :: _ :: _) rfl ?_
    refine ev_get (q := 191) rfl (mH_o hn) rfl rfl rfl ?_
    refine ev_go 2 (q := 194) rfl ?_
    refine ev_get (q := 197) rfl (mH_o hn) rfl rfl rfl ?_
    refine ev_go 4 (q := 202) rfl ?_
    refine ev_static (z' := z_Model_round) (q := 205) rfl rfl (by decide) rfl rfl (by simp [Value.category]) rfl (by omega) (m_round (nI_ne0 (by omega) (by omega))) ?_
    refine ev_go 3 (q := 208) rfl ?_
    refine ev_get (q := 211) rfl (mH_o hn) rfl rfl rfl ?_
    refine ev_go 3 (q := 215) rfl ?_
    refine ev_get (q := 218) rfl (mH_o hn) rfl rfl rfl ?_
    refine ev_go 4 (q := 223) rfl ?_
    refine ev_static (z' := z_Model_round) (q := 226) rfl rfl (by decide) rfl rfl (by simp [Value.category]) rfl (by omega) (m_round (nI_ne0 (by omega) (by omega))) ?_
    refine ev_go 1 (q := 227) rfl ?_
    refine ev_mia (q := 228) hn rfl (by decide) rfl (by rw [h32, h34, show nI r - nI T = nI (r - T) from pk_sub (by omega), show nI c - nI P = nI (c - P) from pk_sub (by omega)]; conv => { lhs; rw [q1.2, q2.2, show (10 : Int32) = nI 10 from rfl, nI_add, pk_mul, nI_add, nI_add] }) (show 10 * (T + (rd_m (nI (r - T) - a) (nI (B - T + 1))).toNatClampNeg) + P + (rd_m (nI (c - P) - b) (nI (S - P + 1))).toNatClampNeg < 100 by omega) rfl ?_
    refine ev_virt (z' := z_Model_paints) (q := 231) rfl rfl (by decide) rfl (by simp [Value.category]) rfl (by omega) rfl rfl (mH_o hn) (m_paint hn (by omega) hR hC h1 h2 h5 hu) ?_
    refine ev_go 2 (q := 456) rfl ?_
    rw [nI_s]
    refine ev_go 3 (q := 64) rfl ?_
    refine ev_get (q := 67) rfl (mH_o hn) rfl rfl rfl ?_
    rw [h35]
    exact l_bi5 hn hd hR hC h1 h2 h5 hu h32 h33 h34 h35 hT hP  hr m (c + 1) _ _ _ _ _ (by omega) (by omega) hA K
theorem l_bo5 (hn : 43 ≤ h.1) (hd : 2 < d) (hR : 1 ≤ R ∧ R ≤ 10) (hC : 1 ≤ C ∧ C ≤ 10) (h1 : σ 1 = nI R) (h2 : σ 2 = nI C) (h5 : σ 5 = nI u) (hu : u < 3) {T B P S : Nat} (h32 : σ 32 = nI T) (h33 : σ 33 = nI B) (h34 : σ 34 = nI P) (h35 : σ 35 = nI S) (hT : T ≤ B ∧ B < R) (hP : P ≤ S ∧ S < C)  {a b hh ww : Int32}  : ∀ (m r : Nat) (A : Nat → Nat → Int32) (e7 e8 e9 e10 e11 : Option Value), r + m = B + 1 → T ≤ r → (-20 ≤ a ∧ a ≤ 20 ∧ -20 ≤ b ∧ b ≤ 20 ∧ hh = nI (B - T + 1) ∧ ww = nI (S - P + 1)) → (∀ e7 e8 e9 e10 e11, am_ev d z_Model_boxed (465, [some (.ref 18), some (.int 5), some (.int a), some (.int b), some (.int hh), some (.int ww), some (.int (nI (B + 1))), e7, e8, e9, e10, e11], [], mH h σ t (sp_it (fun r => sp_it ((bg5 R C u T B P S a b) r) P (S + 1 - P)) r m A)) res h') → am_ev d z_Model_boxed (52, [some (.ref 18), some (.int 5), some (.int a), some (.int b), some (.int hh), some (.int ww), some (.int (nI r)), e7, e8, e9, e10, e11], [.int (nI B), .int (nI r)], mH h σ t A) res h'
  | 0, r, A, e7, e8, e9, e10, e11, hm, hc, hA, K => by
    have hc : r = B + 1 := hm
    subst hc
    refine ev_icmp_gt (t := 465) (q := 55) rfl rfl rfl (fun _ => K _ _ _ _ _) (fun c1 => absurd (nI_lt (by omega) (by omega)) c1)
  | m + 1, r, A, e7, e8, e9, e10, e11, hm, hc, hA, K => by
    refine ev_icmp_gt (t := 465) (q := 55) rfl rfl rfl (fun c1 => absurd c1 (nI_nlt (by omega) (by omega))) (fun _ => ?_)
    simp only [sp_it] at K
    refine ev_go 1 (q := 56) rfl ?_
    refine ev_get (q := 59) rfl (mH_o hn) rfl rfl rfl ?_
    refine ev_go 3 (q := 64) rfl ?_
    refine ev_get (q := 67) rfl (mH_o hn) rfl rfl rfl ?_
    rw [h34, h35]
    refine l_bi5 hn hd hR hC h1 h2 h5 hu h32 h33 h34 h35 hT hP  ⟨hc, by omega⟩ (S + 1 - P) P A _ _ _ _ (by omega) (by omega) hA (fun e8 e9 e10 e11 => ?_)
    refine ev_go 4 (q := 49) rfl ?_
    refine ev_get (q := 52) rfl (mH_o hn) rfl rfl rfl ?_
    rw [nI_s, h33]
    exact l_bo5 hn hd hR hC h1 h2 h5 hu h32 h33 h34 h35 hT hP   m (r + 1) _ _ _ _ _ _ (by omega) (by omega) (hA) K
/-- the i knots ahead of k have the wool x -/
def mb_all (f : Nat → Int32) (o : Nat) (x : Int32) : Nat → Prop
  | 0 => True
  | i + 1 => mb_all f o x i ∧ f (o - (i + 1)) = x
noncomputable def bg8 (R C u P : Nat) (aa : Nat) (r c : Nat) (A : Nat → Nat → Int32) : Nat → Nat → Int32 := @ite _ ((¬ A 0 (100 * u + (10 * r + c)) = 0 ∧ aa ≤ c - P) ∧ mb_all (A 0) (100 * u + (10 * r + c)) (A 0 (100 * u + (10 * r + c))) aa) (Classical.propDecidable _) (ms_paint R C u A (nI r) (nI c) (nI ((A 0 (100 * u + (10 * r + c))).toNatClampNeg % 9) + 1)) A
theorem mb_le {f : Nat → Int32} {o : Nat} {x : Int32} : ∀ {i j : Nat}, j ≤ i → mb_all f o x i → mb_all f o x j
  | 0, j, h, q => by
    have : j = 0 := by omega
    subst this
    trivial
  | i + 1, j, h, q => by
    by_cases e : j = i + 1
    · subst e; exact q
    · exact mb_le (by omega) q.1
theorem l_b8 (hn : 43 ≤ h.1) (hd : 2 < d) (hR : 1 ≤ R ∧ R ≤ 10) (hC : 1 ≤ C ∧ C ≤ 10) (h1 : σ 1 = nI R) (h2 : σ 2 = nI C) (h5 : σ 5 = nI u) (hu : u < 3) {T B P S : Nat} (h32 : σ 32 = nI T) (h33 : σ 33 = nI B) (h34 : σ 34 = nI P) (h35 : σ 35 = nI S) (hT : T ≤ B ∧ B < R) (hP : P ≤ S ∧ S < C) {b hh ww x : Int32} {r c aa : Nat} (hr : T ≤ r ∧ r ≤ B) (hc : P ≤ c ∧ c ≤ S) (ha : aa ≤ c - P) (haa : aa ≤ 9) (K : ∀ (y : Int32) (e : Option Value), (y = 1 ∧ mb_all (A 0) (100 * u + (10 * r + c)) x aa) ∨ (y = 0 ∧ ¬ mb_all (A 0) (100 * u + (10 * r + c)) x aa) → am_ev d z_Model_boxed (433, [some (.ref 18), some (.int 8), some (.int (nI aa)), some (.int b), some (.int hh), some (.int ww), some (.int (nI r)), some (.int (nI c)), some (.int (nI (10 * r + c))), some (.int x), some (.int y), e], [], mH h σ t A) res h') : ∀ (m i : Nat), i + m = aa → mb_all (A 0) (100 * u + (10 * r + c)) x i → am_ev d z_Model_boxed (386, [some (.ref 18), some (.int 8), some (.int (nI aa)), some (.int b), some (.int hh), some (.int ww), some (.int (nI r)), some (.int (nI c)), some (.int (nI (10 * r + c))), some (.int x), some (.int 1), some (.int (nI (i + 1)))], [], mH h σ t A) res h'
  | 0, i, hm, hq => by
    have hc9 : i = aa := hm
    subst hc9
    refine ev_go 2 (q := 389) rfl ?_
    refine ev_icmp_gt (t := 433) (q := 392) rfl rfl rfl (fun _ => K 1 _ (Or.inl ⟨rfl, hq⟩)) (fun c1 => absurd (nI_lt (by omega) (by omega)) c1)
  | m + 1, i, hm, hq => by
    refine ev_go 2 (q := 389) rfl ?_
    refine ev_icmp_gt (t := 433) (q := 392) rfl rfl rfl (fun c1 => absurd c1 (nI_nlt (by omega) (by omega))) (fun _ => ?_)
    refine ev_go 1 (q := 394) rfl ?_
    refine ev_if_eq (t := 433) (q := 397) rfl rfl rfl (fun c => absurd c (by decide)) (fun _ => ?_)
    refine ev_go 1 (q := 398) rfl ?_
    refine ev_get (q := 401) rfl (mH_o hn) rfl rfl rfl ?_
    refine ev_go 2 (q := 404) (st' := _ :: .int 100 :: _ :: _) rfl ?_
    refine ev_get (q := 407) rfl (mH_o hn) rfl rfl rfl ?_
    refine ev_go 5 (q := 414) rfl ?_
    refine ev_mia (q := 415) hn rfl (by decide) rfl (by rw [h5, show (100 : Int32) = nI 100 from rfl, pk_mul, nI_add, pk_sub (by omega)]) (show 100 * u + (10 * r + c) - (i + 1) < 300 by omega) rfl ?_
    refine ev_go 1 (q := 417) rfl ?_
    refine ev_icmp_ne (t := 424) (q := 420) rfl rfl rfl (fun zc1 => ?_) (fun zc1 => ?_)
    · refine ev_go 3 (q := 430) rfl ?_
      refine ev_go 3 (q := 389) rfl ?_
      rw [nI_s]
      refine ev_icmp_gt (t := 433) (q := 392) rfl rfl rfl (fun _ => K 0 _ (Or.inr ⟨rfl, fun q => zc1 (mb_le (i := aa) (j := i + 1) (by omega) q).2⟩)) (fun _ => ?_)
      refine ev_go 1 (q := 394) rfl ?_
      refine ev_if_eq (t := 433) (q := 397) rfl rfl rfl (fun _ => K 0 _ (Or.inr ⟨rfl, fun q => zc1 (mb_le (i := aa) (j := i + 1) (by omega) q).2⟩)) (fun c => absurd rfl c)
    · refine ev_go 4 (q := 430) rfl ?_
      refine ev_go 1 (q := 386) rfl ?_
      rw [nI_s]
      exact l_b8 hn hd hR hC h1 h2 h5 hu h32 h33 h34 h35 hT hP hr hc ha haa K m (i + 1) (by omega) ⟨hq, zc1⟩
theorem pt_rng {R C u : Nat} {A : Nat → Nat → Int32} {r c : Int32} {x : Nat} (hx : x < 10) (hA : ∀ j, ∃ y, y < 10 ∧ A 0 j = nI y) : ∀ j, ∃ y, y < 10 ∧ ms_paint R C u A r c (nI x) 0 j = nI y := by
  intro j
  unfold ms_paint
  split
  · rw [va_up_self]
    unfold va_up
    split
    · exact ⟨x, hx, rfl⟩
    · exact hA j
  · exact hA j
theorem bx_rng {R C u P aa r : Nat} : ∀ (m c : Nat) (A : Nat → Nat → Int32), (∀ j, ∃ y, y < 10 ∧ A 0 j = nI y) → ∀ j, ∃ y, y < 10 ∧ sp_it (bg8 R C u P aa r) c m A 0 j = nI y
  | 0, _, _, hA => hA
  | m + 1, c, A, hA => by
    rw [sp_it]
    refine bx_rng m (c + 1) _ ?_
    unfold bg8
    obtain ⟨y, hy, ey⟩ := hA (100 * u + (10 * r + c))
    split
    · rw [ey, nI_clamp (by omega), nI_1]
      exact pt_rng (by omega) hA
    · exact hA
theorem l_bi8 (hn : 43 ≤ h.1) (hd : 2 < d) (hR : 1 ≤ R ∧ R ≤ 10) (hC : 1 ≤ C ∧ C ≤ 10) (h1 : σ 1 = nI R) (h2 : σ 2 = nI C) (h5 : σ 5 = nI u) (hu : u < 3) {T B P S : Nat} (h32 : σ 32 = nI T) (h33 : σ 33 = nI B) (h34 : σ 34 = nI P) (h35 : σ 35 = nI S) (hT : T ≤ B ∧ B < R) (hP : P ≤ S ∧ S < C) {aa : Nat} (haa : aa ≤ 9) {b hh ww : Int32} {r : Nat} (hr : T ≤ r ∧ r ≤ B) : ∀ (m c : Nat) (A : Nat → Nat → Int32) (e8 e9 e10 e11 : Option Value), c + m = S + 1 → P ≤ c → (∀ j, ∃ y, y < 10 ∧ A 0 j = nI y) → (∀ e8 e9 e10 e11, am_ev d z_Model_boxed (459, [some (.ref 18), some (.int 8), some (.int (nI aa)), some (.int b), some (.int hh), some (.int ww), some (.int (nI r)), some (.int (nI (S + 1))), e8, e9, e10, e11], [], mH h σ t (sp_it ((bg8 R C u P aa) r) c m A)) res h') → am_ev d z_Model_boxed (67, [some (.ref 18), some (.int 8), some (.int (nI aa)), some (.int b), some (.int hh), some (.int ww), some (.int (nI r)), some (.int (nI c)), e8, e9, e10, e11], [.int (nI S), .int (nI c)], mH h σ t A) res h'
  | 0, c, A, e8, e9, e10, e11, hm, hc, hA, K => by
    have hc : c = S + 1 := hm
    subst hc
    refine ev_icmp_gt (t := 459) (q := 70) rfl rfl rfl (fun _ => K _ _ _ _) (fun c1 => absurd (nI_lt (by omega) (by omega)) c1)
  | m + 1, c, A, e8, e9, e10, e11, hm, hc, hA, K => by
    refine ev_icmp_gt (t := 459) (q := 70) rfl rfl rfl (fun c1 => absurd c1 (nI_nlt (by omega) (by omega))) (fun _ => ?_)
    simp only [sp_it] at K
    obtain ⟨y, hy, ey⟩ := hA (100 * u + (10 * r + c))
    have hcl : (nI y).toNatClampNeg = y := nI_clamp (by omega)
    have hP8 := m_paint (d := d - 1) (h := h) (σ := σ) (t := t) (A := A) (r := nI r) (c := nI c) (x := nI (y % 9 + 1)) hn (by omega) hR hC h1 h2 h5 hu
    have eno : ∀ q : ¬ ((¬ A 0 (100 * u + (10 * r + c)) = 0 ∧ aa ≤ c - P) ∧ mb_all (A 0) (100 * u + (10 * r + c)) (A 0 (100 * u + (10 * r + c))) aa), bg8 R C u P aa r c A = A := fun q => @if_neg _ (Classical.propDecidable _) q _ _ _
    have eye : ∀ q : ((¬ A 0 (100 * u + (10 * r + c)) = 0 ∧ aa ≤ c - P) ∧ mb_all (A 0) (100 * u + (10 * r + c)) (A 0 (100 * u + (10 * r + c))) aa), bg8 R C u P aa r c A = ms_paint R C u A (nI r) (nI c) (nI (y % 9 + 1)) := by
      intro q
      unfold bg8
      rw [@if_pos _ (Classical.propDecidable _) q, ey, hcl, nI_1]
    refine ev_go 8 (q := 343) rfl ?_
    rw [show (Int8.ofInt 10).toInt32 * nI r + nI c = nI (10 * r + c) from mx_k r c]
    have none8 : ∀ (e9 e11 : Option Value), ¬ ((¬ A 0 (100 * u + (10 * r + c)) = 0 ∧ aa ≤ c - P) ∧ mb_all (A 0) (100 * u + (10 * r + c)) (A 0 (100 * u + (10 * r + c))) aa) → am_ev d z_Model_boxed (433, [some (.ref 18), some (.int 8), some (.int (nI aa)), some (.int b), some (.int hh), some (.int ww), some (.int (nI r)), some (.int (nI c)), some (.int (nI (10 * r + c))), e9, some (.int 0), e11], [], mH h σ t A) res h' := by
      intro e9 e11 q
      refine ev_go 1 (q := 435) rfl ?_
      refine ev_if_eq (t := 453) (q := 438) rfl rfl rfl (fun _ => ?_) (fun c => absurd rfl c)
      rw [eno q] at K
      refine ev_go 1 (q := 456) rfl ?_
      rw [nI_s]
      refine ev_go 3 (q := 64) rfl ?_
      refine ev_get (q := 67) rfl (mH_o hn) rfl rfl rfl ?_
      rw [h35]
      exact l_bi8 hn hd hR hC h1 h2 h5 hu h32 h33 h34 h35 hT hP haa hr m (c + 1) _ _ _ _ _ (by omega) (by omega) hA K
    have all8 : ∀ (e11 : Option Value), ((¬ A 0 (100 * u + (10 * r + c)) = 0 ∧ aa ≤ c - P) ∧ mb_all (A 0) (100 * u + (10 * r + c)) (A 0 (100 * u + (10 * r + c))) aa) → am_ev d z_Model_boxed (433, [some (.ref 18), some (.int 8), some (.int (nI aa)), some (.int b), some (.int hh), some (.int ww), some (.int (nI r)), some (.int (nI c)), some (.int (nI (10 * r + c))), some (.int (nI y)), some (.int 1), e11], [], mH h σ t A) res h' := by
      intro e11 q
      refine ev_go 1 (q := 435) rfl ?_
      refine ev_if_eq (t := 453) (q := 438) rfl rfl rfl (fun c => absurd c (by decide)) (fun _ => ?_)
      rw [eye q] at K
      refine ev_go 5 (q := 447) (st' := .int 9 :: _) rfl ?_
      refine ev_remn (b := 9) (q := 448) rfl rfl rfl (by decide) (by omega) (by decide) rfl ?_
      refine ev_go 2 (q := 450) (st' := .int (nI (y % 9) + 1) :: _) rfl ?_
      rw [nI_1]
      refine ev_virt (z' := z_Model_paints) (q := 453) rfl rfl (by decide) rfl (by simp [Value.category]) rfl (by omega) rfl rfl (mH_o hn) hP8 ?_
      refine ev_go 1 (q := 456) rfl ?_
      rw [nI_s]
      refine ev_go 3 (q := 64) rfl ?_
      refine ev_get (q := 67) rfl (mH_o hn) rfl rfl rfl ?_
      rw [h35]
      exact l_bi8 hn hd hR hC h1 h2 h5 hu h32 h33 h34 h35 hT hP haa hr m (c + 1) _ _ _ _ _ (by omega) (by omega) (pt_rng (by omega) hA) K
    refine ev_go 1 (q := 344) rfl ?_
    refine ev_get (q := 347) rfl (mH_o hn) rfl rfl rfl ?_
    refine ev_go 2 (q := 350) (st' := _ :: .int 100 :: _) rfl ?_
    refine ev_get (q := 353) rfl (mH_o hn) rfl rfl rfl ?_
    refine ev_go 3 (q := 357) rfl ?_
    refine ev_mia (q := 358) hn rfl (by decide) rfl (by rw [h5]; rw [show (100 : Int32) = nI 100 from rfl, pk_mul, nI_add]) (show 100 * u + (10 * r + c) < 300 by omega) rfl ?_
    rw [ey]
    refine ev_go 2 (q := 362) rfl ?_
    refine ev_if_eq (t := 380) (q := 365) rfl rfl rfl (fun zc1 => ?_) (fun zc1 => ?_)
    · refine ev_go 4 (q := 386) rfl ?_
      refine ev_go 2 (q := 389) rfl ?_
      rw [show Int32.ofInt 0 = (0 : Int32) from rfl]
      refine ev_icmp_gt (t := 433) (q := 392) rfl rfl rfl (fun _ => none8 _ _ (fun q => q.1.1 (by rw [ey]; exact zc1))) (fun _ => ?_)
      refine ev_go 1 (q := 394) rfl ?_
      refine ev_if_eq (t := 433) (q := 397) rfl rfl rfl (fun _ => none8 _ _ (fun q => q.1.1 (by rw [ey]; exact zc1))) (fun c => absurd rfl c)
    · refine ev_go 2 (q := 368) rfl ?_
      refine ev_get (q := 371) rfl (mH_o hn) rfl rfl rfl ?_
      rw [h34]
      refine ev_go 2 (q := 373) rfl ?_
      rw [pk_sub (show P ≤ c by omega)]
      refine ev_icmp_lt (t := 380) (q := 376) rfl rfl rfl (fun zc2 => ?_) (fun zc2 => ?_)
      · have hlt : c - P < aa := (nI_ltI (by omega) (by omega)).mp zc2
        refine ev_go 4 (q := 386) rfl ?_
        refine ev_go 2 (q := 389) rfl ?_
        rw [show Int32.ofInt 0 = (0 : Int32) from rfl]
        refine ev_icmp_gt (t := 433) (q := 392) rfl rfl rfl (fun _ => none8 _ _ (fun q => absurd q.1.2 (by omega))) (fun _ => ?_)
        refine ev_go 1 (q := 394) rfl ?_
        refine ev_if_eq (t := 433) (q := 397) rfl rfl rfl (fun _ => none8 _ _ (fun q => absurd q.1.2 (by omega))) (fun c => absurd rfl c)
      · have hge : aa ≤ c - P := Nat.not_lt.mp (fun q => zc2 ((nI_ltI (by omega) (by omega)).mpr q))
        refine ev_go 5 (q := 386) rfl ?_
        rw [show Int32.ofInt 1 = nI (0 + 1) from rfl]
        refine l_b8 hn hd hR hC h1 h2 h5 hu h32 h33 h34 h35 hT hP hr ⟨hc, by omega⟩ hge haa (fun yy e hyy => ?_) aa 0 (by omega) trivial
        rcases hyy with ⟨rfl, q⟩ | ⟨rfl, q⟩
        · exact all8 _ ⟨⟨by rw [ey]; exact zc1, hge⟩, by rw [ey]; exact q⟩
        · exact none8 _ _ (fun p => q (by have := p.2; rw [ey] at this; exact this))
theorem l_bo8 (hn : 43 ≤ h.1) (hd : 2 < d) (hR : 1 ≤ R ∧ R ≤ 10) (hC : 1 ≤ C ∧ C ≤ 10) (h1 : σ 1 = nI R) (h2 : σ 2 = nI C) (h5 : σ 5 = nI u) (hu : u < 3) {T B P S : Nat} (h32 : σ 32 = nI T) (h33 : σ 33 = nI B) (h34 : σ 34 = nI P) (h35 : σ 35 = nI S) (hT : T ≤ B ∧ B < R) (hP : P ≤ S ∧ S < C) {aa : Nat} (haa : aa ≤ 9) {b hh ww : Int32}  : ∀ (m r : Nat) (A : Nat → Nat → Int32) (e7 e8 e9 e10 e11 : Option Value), r + m = B + 1 → T ≤ r → (∀ j, ∃ y, y < 10 ∧ A 0 j = nI y) → (∀ e7 e8 e9 e10 e11, am_ev d z_Model_boxed (465, [some (.ref 18), some (.int 8), some (.int (nI aa)), some (.int b), some (.int hh), some (.int ww), some (.int (nI (B + 1))), e7, e8, e9, e10, e11], [], mH h σ t (sp_it (fun r => sp_it ((bg8 R C u P aa) r) P (S + 1 - P)) r m A)) res h') → am_ev d z_Model_boxed (52, [some (.ref 18), some (.int 8), some (.int (nI aa)), some (.int b), some (.int hh), some (.int ww), some (.int (nI r)), e7, e8, e9, e10, e11], [.int (nI B), .int (nI r)], mH h σ t A) res h'
  | 0, r, A, e7, e8, e9, e10, e11, hm, hc, hA, K => by
    have hc : r = B + 1 := hm
    subst hc
    refine ev_icmp_gt (t := 465) (q := 55) rfl rfl rfl (fun _ => K _ _ _ _ _) (fun c1 => absurd (nI_lt (by omega) (by omega)) c1)
  | m + 1, r, A, e7, e8, e9, e10, e11, hm, hc, hA, K => by
    refine ev_icmp_gt (t := 465) (q := 55) rfl rfl rfl (fun c1 => absurd c1 (nI_nlt (by omega) (by omega))) (fun _ => ?_)
    simp only [sp_it] at K
    refine ev_go 1 (q := 56) rfl ?_
    refine ev_get (q := 59) rfl (mH_o hn) rfl rfl rfl ?_
    refine ev_go 3 (q := 64) rfl ?_
    refine ev_get (q := 67) rfl (mH_o hn) rfl rfl rfl ?_
    rw [h34, h35]
    refine l_bi8 hn hd hR hC h1 h2 h5 hu h32 h33 h34 h35 hT hP haa ⟨hc, by omega⟩ (S + 1 - P) P A _ _ _ _ (by omega) (by omega) hA (fun e8 e9 e10 e11 => ?_)
    refine ev_go 4 (q := 49) rfl ?_
    refine ev_get (q := 52) rfl (mH_o hn) rfl rfl rfl ?_
    rw [nI_s, h33]
    exact l_bo8 hn hd hR hC h1 h2 h5 hu h32 h33 h34 h35 hT hP haa  m (r + 1) _ _ _ _ _ _ (by omega) (by omega) (bx_rng _ _ _ hA) K
theorem m_boxed4 (hn : 43 ≤ h.1) (hd : 2 < d) (hR : 1 ≤ R ∧ R ≤ 10) (hC : 1 ≤ C ∧ C ≤ 10) (h1 : σ 1 = nI R) (h2 : σ 2 = nI C) (h5 : σ 5 = nI u) (hu : u < 3) {T B P S : Nat} (h32 : σ 32 = nI T) (h33 : σ 33 = nI B) (h34 : σ 34 = nI P) (h35 : σ 35 = nI S) (hT : T ≤ B ∧ B < R) (hP : P ≤ S ∧ S < C)   : am_m d z_Model_boxed [.ref 18, .int 4] (mH h σ t A) none (mH h σ t (sp_bx (bg4 R C u T B P S (A 15 0)) T B P S A)) := by
  refine ev_go 1 (q := 1) rfl ?_
  refine ev_get (q := 4) rfl (mH_o hn) rfl rfl rfl ?_
  refine ev_go 1 (q := 5) (st' := .int 0 :: _ :: _) rfl ?_
  refine ev_mia (q := 6) hn rfl (by decide) rfl rfl (by decide) rfl ?_
  refine ev_go 2 (q := 8) rfl ?_
  refine ev_get (q := 11) rfl (mH_o hn) rfl rfl rfl ?_
  refine ev_go 1 (q := 12) (st' := .int 1 :: _ :: _) rfl ?_
  refine ev_mia (q := 13) hn rfl (by decide) rfl rfl (by decide) rfl ?_
  refine ev_go 2 (q := 15) rfl ?_
  refine ev_get (q := 18) rfl (mH_o hn) rfl rfl rfl ?_
  refine ev_go 1 (q := 19) rfl ?_
  refine ev_get (q := 22) rfl (mH_o hn) rfl rfl rfl ?_
  refine ev_go 5 (q := 28) rfl ?_
  refine ev_get (q := 31) rfl (mH_o hn) rfl rfl rfl ?_
  refine ev_go 1 (q := 32) rfl ?_
  refine ev_get (q := 35) rfl (mH_o hn) rfl rfl rfl ?_
  refine ev_go 5 (q := 41) rfl ?_
  refine ev_get (q := 44) rfl (mH_o hn) rfl rfl rfl ?_
  refine ev_go 3 (q := 49) rfl ?_
  refine ev_get (q := 52) rfl (mH_o hn) rfl rfl rfl ?_
  rw [h32, h33]
  refine l_bo4 hn hd hR hC h1 h2 h5 hu h32 h33 h34 h35 hT hP  (B + 1 - T) T A _ _ _ _ _ (by omega) (by omega) (trivial) (fun e7 e8 e9 e10 e11 => ?_)
  exact ev_vret rfl rfl rfl
theorem m_boxed5 (hn : 43 ≤ h.1) (hd : 2 < d) (hR : 1 ≤ R ∧ R ≤ 10) (hC : 1 ≤ C ∧ C ≤ 10) (h1 : σ 1 = nI R) (h2 : σ 2 = nI C) (h5 : σ 5 = nI u) (hu : u < 3) {T B P S : Nat} (h32 : σ 32 = nI T) (h33 : σ 33 = nI B) (h34 : σ 34 = nI P) (h35 : σ 35 = nI S) (hT : T ≤ B ∧ B < R) (hP : P ≤ S ∧ S < C)  (hA : (-20 ≤ A 15 0 ∧ A 15 0 ≤ 20) ∧ -20 ≤ A 15 1 ∧ A 15 1 ≤ 20) : am_m d z_Model_boxed [.ref 18, .int 5] (mH h σ t A) none (mH h σ t (sp_bx (bg5 R C u T B P S (A 15 0) (A 15 1)) T B P S A)) := by
  refine ev_go 1 (q := 1) rfl ?_
  refine ev_get (q := 4) rfl (mH_o hn) rfl rfl rfl ?_
  refine ev_go 1 (q := 5) (st' := .int 0 :: _ :: _) rfl ?_
  refine ev_mia (q := 6) hn rfl (by decide) rfl rfl (by decide) rfl ?_
  refine ev_go 2 (q := 8) rfl ?_
  refine ev_get (q := 11) rfl (mH_o hn) rfl rfl rfl ?_
  refine ev_go 1 (q := 12) (st' := .int 1 :: _ :: _) rfl ?_
  refine ev_mia (q := 13) hn rfl (by decide) rfl rfl (by decide) rfl ?_
  refine ev_go 2 (q := 15) rfl ?_
  refine ev_get (q := 18) rfl (mH_o hn) rfl rfl rfl ?_
  refine ev_go 1 (q := 19) rfl ?_
  refine ev_get (q := 22) rfl (mH_o hn) rfl rfl rfl ?_
  refine ev_go 5 (q := 28) rfl ?_
  refine ev_get (q := 31) rfl (mH_o hn) rfl rfl rfl ?_
  refine ev_go 1 (q := 32) rfl ?_
  refine ev_get (q := 35) rfl (mH_o hn) rfl rfl rfl ?_
  refine ev_go 5 (q := 41) rfl ?_
  refine ev_get (q := 44) rfl (mH_o hn) rfl rfl rfl ?_
  refine ev_go 3 (q := 49) rfl ?_
  refine ev_get (q := 52) rfl (mH_o hn) rfl rfl rfl ?_
  rw [h32, h33]
  refine l_bo5 hn hd hR hC h1 h2 h5 hu h32 h33 h34 h35 hT hP  (B + 1 - T) T A _ _ _ _ _ (by omega) (by omega) (⟨hA.1.1, hA.1.2, hA.2.1, hA.2.2, by rw [pk_sub hT.1, nI_s], by rw [h35, h34, pk_sub hP.1, nI_s]⟩) (fun e7 e8 e9 e10 e11 => ?_)
  exact ev_vret rfl rfl rfl
theorem m_boxed6 (hn : 43 ≤ h.1) (hd : 2 < d) (hR : 1 ≤ R ∧ R ≤ 10) (hC : 1 ≤ C ∧ C ≤ 10) (h1 : σ 1 = nI R) (h2 : σ 2 = nI C) (h5 : σ 5 = nI u) (hu : u < 3) {T B P S : Nat} (h32 : σ 32 = nI T) (h33 : σ 33 = nI B) (h34 : σ 34 = nI P) (h35 : σ 35 = nI S) (hT : T ≤ B ∧ B < R) (hP : P ≤ S ∧ S < C)   : am_m d z_Model_boxed [.ref 18, .int 6] (mH h σ t A) none (mH h σ t (sp_bx (bg6 R C u T B P S (A 15 0) (A 15 4)) T B P S A)) := by
  refine ev_go 1 (q := 1) rfl ?_
  refine ev_get (q := 4) rfl (mH_o hn) rfl rfl rfl ?_
  refine ev_go 1 (q := 5) (st' := .int 0 :: _ :: _) rfl ?_
  refine ev_mia (q := 6) hn rfl (by decide) rfl rfl (by decide) rfl ?_
  refine ev_go 2 (q := 8) rfl ?_
  refine ev_get (q := 11) rfl (mH_o hn) rfl rfl rfl ?_
  refine ev_go 1 (q := 12) (st' := .int 1 :: _ :: _) rfl ?_
  refine ev_mia (q := 13) hn rfl (by decide) rfl rfl (by decide) rfl ?_
  refine ev_go 2 (q := 15) rfl ?_
  refine ev_get (q := 18) rfl (mH_o hn) rfl rfl rfl ?_
  refine ev_go 1 (q := 19) rfl ?_
  refine ev_get (q := 22) rfl (mH_o hn) rfl rfl rfl ?_
  refine ev_go 5 (q := 28) rfl ?_
  refine ev_get (q := 31) rfl (mH_o hn) rfl rfl rfl ?_
  refine ev_go 1 (q := 32) rfl ?_
  refine ev_get (q := 35) rfl (mH_o hn) rfl rfl rfl ?_
  refine ev_go 5 (q := 41) rfl ?_
  refine ev_get (q := 44) rfl (mH_o hn) rfl rfl rfl ?_
  refine ev_go 3 (q := 49) rfl ?_
  refine ev_get (q := 52) rfl (mH_o hn) rfl rfl rfl ?_
  rw [h32, h33]
  refine l_bo6 hn hd hR hC h1 h2 h5 hu h32 h33 h34 h35 hT hP  (B + 1 - T) T A _ _ _ _ _ (by omega) (by omega) (rfl) (fun e7 e8 e9 e10 e11 => ?_)
  exact ev_vret rfl rfl rfl
theorem m_boxed7 (hn : 43 ≤ h.1) (hd : 2 < d) (hR : 1 ≤ R ∧ R ≤ 10) (hC : 1 ≤ C ∧ C ≤ 10) (h1 : σ 1 = nI R) (h2 : σ 2 = nI C) (h5 : σ 5 = nI u) (hu : u < 3) {T B P S : Nat} (h32 : σ 32 = nI T) (h33 : σ 33 = nI B) (h34 : σ 34 = nI P) (h35 : σ 35 = nI S) (hT : T ≤ B ∧ B < R) (hP : P ≤ S ∧ S < C)   : am_m d z_Model_boxed [.ref 18, .int 7] (mH h σ t A) none (mH h σ t (sp_bx (bg7 R C u (A 15 0) (A 15 1)) T B P S A)) := by
  refine ev_go 1 (q := 1) rfl ?_
  refine ev_get (q := 4) rfl (mH_o hn) rfl rfl rfl ?_
  refine ev_go 1 (q := 5) (st' := .int 0 :: _ :: _) rfl ?_
  refine ev_mia (q := 6) hn rfl (by decide) rfl rfl (by decide) rfl ?_
  refine ev_go 2 (q := 8) rfl ?_
  refine ev_get (q := 11) rfl (mH_o hn) rfl rfl rfl ?_
  refine ev_go 1 (q := 12) (st' := .int 1 :: _ :: _) rfl ?_
  refine ev_mia (q := 13) hn rfl (by decide) rfl rfl (by decide) rfl ?_
  refine ev_go 2 (q := 15) rfl ?_
  refine ev_get (q := 18) rfl (mH_o hn) rfl rfl rfl ?_
  refine ev_go 1 (q := 19) rfl ?_
  refine ev_get (q := 22) rfl (mH_o hn) rfl rfl rfl ?_
  refine ev_go 5 (q := 28) rfl ?_
  refine ev_get (q := 31) rfl (mH_o hn) rfl rfl rfl ?_
  refine ev_go 1 (q := 32) rfl ?_
  refine ev_get (q := 35) rfl (mH_o hn) rfl rfl rfl ?_
  refine ev_go 5 (q := 41) rfl ?_
  refine ev_get (q := 44) rfl (mH_o hn) rfl rfl rfl ?_
  refine ev_go 3 (q := 49) rfl ?_
  refine ev_get (q := 52) rfl (mH_o hn) rfl rfl rfl ?_
  rw [h32, h33]
  refine l_bo7 hn hd hR hC h1 h2 h5 hu h32 h33 h34 h35 hT hP  (B + 1 - T) T A _ _ _ _ _ (by omega) (by omega) (trivial) (fun e7 e8 e9 e10 e11 => ?_)
  exact ev_vret rfl rfl rfl
theorem m_boxed8 (hn : 43 ≤ h.1) (hd : 2 < d) (hR : 1 ≤ R ∧ R ≤ 10) (hC : 1 ≤ C ∧ C ≤ 10) (h1 : σ 1 = nI R) (h2 : σ 2 = nI C) (h5 : σ 5 = nI u) (hu : u < 3) {T B P S : Nat} (h32 : σ 32 = nI T) (h33 : σ 33 = nI B) (h34 : σ 34 = nI P) (h35 : σ 35 = nI S) (hT : T ≤ B ∧ B < R) (hP : P ≤ S ∧ S < C) {aa : Nat} (haa : aa ≤ 9) (h15 : A 15 0 = nI aa) (hA : ∀ j, ∃ y, y < 10 ∧ A 0 j = nI y) : am_m d z_Model_boxed [.ref 18, .int 8] (mH h σ t A) none (mH h σ t (sp_bx (bg8 R C u P aa) T B P S A)) := by
  refine ev_go 1 (q := 1) rfl ?_
  refine ev_get (q := 4) rfl (mH_o hn) rfl rfl rfl ?_
  refine ev_go 1 (q := 5) (st' := .int 0 :: _ :: _) rfl ?_
  refine ev_mia (q := 6) hn rfl (by decide) rfl rfl (by decide) rfl ?_
  rw [h15]
  refine ev_go 2 (q := 8) rfl ?_
  refine ev_get (q := 11) rfl (mH_o hn) rfl rfl rfl ?_
  refine ev_go 1 (q := 12) (st' := .int 1 :: _ :: _) rfl ?_
  refine ev_mia (q := 13) hn rfl (by decide) rfl rfl (by decide) rfl ?_
  refine ev_go 2 (q := 15) rfl ?_
  refine ev_get (q := 18) rfl (mH_o hn) rfl rfl rfl ?_
  refine ev_go 1 (q := 19) rfl ?_
  refine ev_get (q := 22) rfl (mH_o hn) rfl rfl rfl ?_
  refine ev_go 5 (q := 28) rfl ?_
  refine ev_get (q := 31) rfl (mH_o hn) rfl rfl rfl ?_
  refine ev_go 1 (q := 32) rfl ?_
  refine ev_get (q := 35) rfl (mH_o hn) rfl rfl rfl ?_
  refine ev_go 5 (q := 41) rfl ?_
  refine ev_get (q := 44) rfl (mH_o hn) rfl rfl rfl ?_
  refine ev_go 3 (q := 49) rfl ?_
  refine ev_get (q := 52) rfl (mH_o hn) rfl rfl rfl ?_
  rw [h32, h33]
  refine l_bo8 hn hd hR hC h1 h2 h5 hu h32 h33 h34 h35 hT hP haa (B + 1 - T) T A _ _ _ _ _ (by omega) (by omega) hA (fun e7 e8 e9 e10 e11 => ?_)
  exact ev_vret rfl rfl rfl
end M5
end
section
/-! the reference: fills -/
section M6
variable {d : Nat} {h h' : am_H} {σ : Nat → Int32} {t : Int64} {A : Nat → Nat → Int32} {res : Option Value} {R C u : Nat}
def fl_n1 (ρ : Nat → Int32) (k : Nat) : Prop := 9 < k ∧ ¬ ρ (k - 10) = 0
def fl_n2 (ρ : Nat → Int32) (k : Nat) : Prop := k < 90 ∧ ¬ ρ (k + 10) = 0
def fl_n3 (ρ : Nat → Int32) (k : Nat) : Prop := 0 < k % 10 ∧ ¬ ρ (k - 1) = 0
def fl_n4 (ρ : Nat → Int32) (k : Nat) : Prop := k % 10 < 9 ∧ ¬ ρ (k + 1) = 0
def fl_nb (ρ : Nat → Int32) (k : Nat) : Prop := fl_n1 ρ k ∨ fl_n2 ρ k ∨ fl_n3 ρ k ∨ fl_n4 ρ k
def fl_c (A : Nat → Nat → Int32) (x : Int32) (ρ : Nat → Int32) (k : Nat) : Prop := (ρ k = 0 ∧ ¬ A 1 k = 0 ∧ A 16 k = x) ∧ fl_nb ρ k
noncomputable def fl_s (A : Nat → Nat → Int32) (x : Int32) (k : Nat) (S : (Nat → Int32) × Int32) : (Nat → Int32) × Int32 := @ite _ (fl_c A x S.1 k) (Classical.propDecidable _) (va_up S.1 k 1, 1) S
theorem fl_y {A : Nat → Nat → Int32} {x : Int32} {k : Nat} {S : (Nat → Int32) × Int32} (q : fl_c A x S.1 k) : fl_s A x k S = (va_up S.1 k 1, 1) := @if_pos _ (Classical.propDecidable _) q _ _ _
theorem fl_no {A : Nat → Nat → Int32} {x : Int32} {k : Nat} {S : (Nat → Int32) × Int32} (q : ¬ fl_c A x S.1 k) : fl_s A x k S = S := @if_neg _ (Classical.propDecidable _) q _ _ _
theorem t_fn1 (hn : 43 ≤ h.1) {xa xb xw x mo : Int32} {k : Nat} {e : Option Value} {ρ : Nat → Int32} (hk : k < 100) (K1 : fl_n1 ρ k → am_ev d z_Model_fills (170, [some (.ref 18), some (.int xa), some (.int xb), some (.int xw), some (.int x), some (.int mo), some (.int (nI k)), e], [], mH h σ t (va_up A 17 ρ)) res h') (K2 : ¬ fl_n1 ρ k → am_ev d z_Model_fills (108, [some (.ref 18), some (.int xa), some (.int xb), some (.int xw), some (.int x), some (.int mo), some (.int (nI k)), e], [], mH h σ t (va_up A 17 ρ)) res h') : am_ev d z_Model_fills (88, [some (.ref 18), some (.int xa), some (.int xb), some (.int xw), some (.int x), some (.int mo), some (.int (nI k)), e], [], mH h σ t (va_up A 17 ρ)) res h' := by
  refine ev_go 2 (q := 92) (st' := .int 9 :: _ :: _) rfl ?_
  refine ev_icmp_le (t := 108) (q := 95) rfl rfl rfl (fun zc1 => ?_) (fun zc1 => ?_)
  · exact K2 (fun q => absurd ((nI_leI (b := 9) (by omega) (by decide)).mp zc1) (by have := q.1; omega))
  · refine ev_go 1 (q := 96) rfl ?_
    refine ev_get (q := 99) rfl (mH_o hn) rfl rfl rfl ?_
    refine ev_go 3 (q := 104) (st' := .int (_ - 10) :: _ :: _) rfl ?_
    refine ev_mza (q := 105) hn rfl (by decide) rfl (pk_sub (b := 10) (by first | omega | (have := Nat.not_le.mp (fun q => zc1 ((nI_leI (b := 9) (by omega) (by decide)).mpr q)); omega))) (show k - 10 < 100 by omega) rfl ?_
    refine ev_if_ne (t := 170) (q := 108) rfl rfl rfl (fun zc2 => ?_) (fun zc2 => ?_)
    · exact K1 ⟨(Nat.not_le.mp (fun q => zc1 ((nI_leI (b := 9) (by omega) (by decide)).mpr q))), by assumption⟩
    · exact K2 (fun q => q.2 (by assumption))
theorem t_fn2 (hn : 43 ≤ h.1) {xa xb xw x mo : Int32} {k : Nat} {e : Option Value} {ρ : Nat → Int32} (hk : k < 100) (K1 : fl_n2 ρ k → am_ev d z_Model_fills (170, [some (.ref 18), some (.int xa), some (.int xb), some (.int xw), some (.int x), some (.int mo), some (.int (nI k)), e], [], mH h σ t (va_up A 17 ρ)) res h') (K2 : ¬ fl_n2 ρ k → am_ev d z_Model_fills (128, [some (.ref 18), some (.int xa), some (.int xb), some (.int xw), some (.int x), some (.int mo), some (.int (nI k)), e], [], mH h σ t (va_up A 17 ρ)) res h') : am_ev d z_Model_fills (108, [some (.ref 18), some (.int xa), some (.int xb), some (.int xw), some (.int x), some (.int mo), some (.int (nI k)), e], [], mH h σ t (va_up A 17 ρ)) res h' := by
  refine ev_go 2 (q := 112) (st' := .int 90 :: _ :: _) rfl ?_
  refine ev_icmp_ge (t := 128) (q := 115) rfl rfl rfl (fun zc1 => ?_) (fun zc1 => ?_)
  · exact K2 (fun q => absurd ((nI_leI (a := 90) (by omega) (by omega)).mp zc1) (by have := q.1; omega))
  · refine ev_go 1 (q := 116) rfl ?_
    refine ev_get (q := 119) rfl (mH_o hn) rfl rfl rfl ?_
    refine ev_go 3 (q := 124) (st' := .int (_ + 10) :: _ :: _) rfl ?_
    refine ev_mza (q := 125) hn rfl (by decide) rfl (nI_add k 10) (show k + 10 < 100 by (have := Nat.not_le.mp (fun q => zc1 ((nI_leI (a := 90) (by omega) (by omega)).mpr q)); omega)) rfl ?_
    refine ev_if_ne (t := 170) (q := 128) rfl rfl rfl (fun zc2 => ?_) (fun zc2 => ?_)
    · exact K1 ⟨(Nat.not_le.mp (fun q => zc1 ((nI_leI (a := 90) (by omega) (by omega)).mpr q))), by assumption⟩
    · exact K2 (fun q => q.2 (by assumption))
theorem t_fn3 (hn : 43 ≤ h.1) {xa xb xw x mo : Int32} {k : Nat} {e : Option Value} {ρ : Nat → Int32} (hk : k < 100) (K1 : fl_n3 ρ k → am_ev d z_Model_fills (170, [some (.ref 18), some (.int xa), some (.int xb), some (.int xw), some (.int x), some (.int mo), some (.int (nI k)), e], [], mH h σ t (va_up A 17 ρ)) res h') (K2 : ¬ fl_n3 ρ k → am_ev d z_Model_fills (148, [some (.ref 18), some (.int xa), some (.int xb), some (.int xw), some (.int x), some (.int mo), some (.int (nI k)), e], [], mH h σ t (va_up A 17 ρ)) res h') : am_ev d z_Model_fills (128, [some (.ref 18), some (.int xa), some (.int xb), some (.int xw), some (.int x), some (.int mo), some (.int (nI k)), e], [], mH h σ t (va_up A 17 ρ)) res h' := by
  refine ev_go 2 (q := 132) (st' := .int 10 :: _ :: _) rfl ?_
  refine ev_remn (b := 10) (q := 133) rfl rfl rfl (by decide) (by omega) (by decide) rfl ?_
  refine ev_if_le (t := 148) (q := 136) rfl rfl rfl (fun zc1 => ?_) (fun zc1 => ?_)
  · exact K2 (fun q => absurd ((nI_leI (b := 0) (by omega) (by decide)).mp zc1) (by have := q.1; omega))
  · refine ev_go 1 (q := 137) rfl ?_
    refine ev_get (q := 140) rfl (mH_o hn) rfl rfl rfl ?_
    refine ev_go 3 (q := 144) (st' := .int (_ - 1) :: _ :: _) rfl ?_
    refine ev_mza (q := 145) hn rfl (by decide) rfl (pk_sub (b := 1) (by have := Nat.pos_of_ne_zero (fun (q : k % 10 = 0) => zc1 (by rw [q]; decide)); omega)) (show k - 1 < 100 by omega) rfl ?_
    refine ev_if_ne (t := 170) (q := 148) rfl rfl rfl (fun zc2 => ?_) (fun zc2 => ?_)
    · exact K1 ⟨(Nat.pos_of_ne_zero (fun (q : k % 10 = 0) => zc1 (by rw [q]; decide))), by assumption⟩
    · exact K2 (fun q => q.2 (by assumption))
theorem t_fn4 (hn : 43 ≤ h.1) {xa xb xw x mo : Int32} {k : Nat} {e : Option Value} {ρ : Nat → Int32} (hk : k < 100) (K1 : fl_n4 ρ k → am_ev d z_Model_fills (170, [some (.ref 18), some (.int xa), some (.int xb), some (.int xw), some (.int x), some (.int mo), some (.int (nI k)), e], [], mH h σ t (va_up A 17 ρ)) res h') (K2 : ¬ fl_n4 ρ k → am_ev d z_Model_fills (174, [some (.ref 18), some (.int xa), some (.int xb), some (.int xw), some (.int x), some (.int mo), some (.int (nI k)), e], [], mH h σ t (va_up A 17 ρ)) res h') : am_ev d z_Model_fills (148, [some (.ref 18), some (.int xa), some (.int xb), some (.int xw), some (.int x), some (.int mo), some (.int (nI k)), e], [], mH h σ t (va_up A 17 ρ)) res h' := by
  refine ev_go 2 (q := 152) (st' := .int 10 :: _ :: _) rfl ?_
  refine ev_remn (b := 10) (q := 153) rfl rfl rfl (by decide) (by omega) (by decide) rfl ?_
  refine ev_go 1 (q := 155) (st' := .int 9 :: _ :: _) rfl ?_
  refine ev_icmp_ge (t := 174) (q := 158) rfl rfl rfl (fun zc1 => ?_) (fun zc1 => ?_)
  · exact K2 (fun q => absurd ((nI_leI (a := 9) (by omega) (by omega)).mp zc1) (by have := q.1; omega))
  · refine ev_go 1 (q := 159) rfl ?_
    refine ev_get (q := 162) rfl (mH_o hn) rfl rfl rfl ?_
    refine ev_go 3 (q := 166) (st' := .int (_ + 1) :: _ :: _) rfl ?_
    refine ev_mza (q := 167) hn rfl (by decide) rfl (nI_add k 1) (show k + 1 < 100 by (have := Nat.not_le.mp (fun q => zc1 ((nI_leI (a := 9) (by omega) (by omega)).mpr q)); omega)) rfl ?_
    refine ev_if_eq (t := 174) (q := 170) rfl rfl rfl (fun zc2 => ?_) (fun zc2 => ?_)
    · exact K2 (fun q => q.2 (by assumption))
    · exact K1 ⟨(Nat.not_le.mp (fun q => zc1 ((nI_leI (a := 9) (by omega) (by omega)).mpr q))), by assumption⟩
theorem t_near (hn : 43 ≤ h.1) {xa xb xw x mo : Int32} {k : Nat} {e : Option Value} {ρ : Nat → Int32} (hk : k < 100) (K : ∀ y : Int32, (y = 1 ∧ fl_nb ρ k) ∨ (y = 0 ∧ ¬ fl_nb ρ k) → am_ev d z_Model_fills (177, [some (.ref 18), some (.int xa), some (.int xb), some (.int xw), some (.int x), some (.int mo), some (.int (nI k)), some (.int y)], [], mH h σ t (va_up A 17 ρ)) res h') : am_ev d z_Model_fills (88, [some (.ref 18), some (.int xa), some (.int xb), some (.int xw), some (.int x), some (.int mo), some (.int (nI k)), e], [], mH h σ t (va_up A 17 ρ)) res h' := by
  have yes : fl_nb ρ k → am_ev d z_Model_fills (170, [some (.ref 18), some (.int xa), some (.int xb), some (.int xw), some (.int x), some (.int mo), some (.int (nI k)), e], [], mH h σ t (va_up A 17 ρ)) res h' := fun q => ev_go 3 (q := 177) rfl (K 1 (Or.inl ⟨rfl, q⟩))
  have nay : ¬ fl_nb ρ k → am_ev d z_Model_fills (174, [some (.ref 18), some (.int xa), some (.int xb), some (.int xw), some (.int x), some (.int mo), some (.int (nI k)), e], [], mH h σ t (va_up A 17 ρ)) res h' := fun q => ev_go 2 (q := 177) rfl (K 0 (Or.inr ⟨rfl, q⟩))
  exact t_fn1 hn hk (fun q => yes (Or.inl q)) (fun q1 => t_fn2 hn hk (fun q => yes (Or.inr (Or.inl q))) (fun q2 => t_fn3 hn hk (fun q => yes (Or.inr (Or.inr (Or.inl q)))) (fun q3 => t_fn4 hn hk (fun q => yes (Or.inr (Or.inr (Or.inr q)))) (fun q4 => nay (fun q => q.elim q1 (fun q => q.elim q2 (fun q => q.elim q3 q4)))))))
theorem l_fps (hn : 43 ≤ h.1) {xa xb xw x : Int32} : ∀ (m k : Nat) (S : (Nat → Int32) × Int32) (e : Option Value), k + m = 100 → (∀ e : Option Value, am_ev d z_Model_fills (231, [some (.ref 18), some (.int xa), some (.int xb), some (.int xw), some (.int x), some (.int (sp_it (fl_s A x) k m S).2), some (.int (nI 100)), e], [], mH h σ t (va_up A 17 (sp_it (fl_s A x) k m S).1)) res h') → am_ev d z_Model_fills (85, [some (.ref 18), some (.int xa), some (.int xb), some (.int xw), some (.int x), some (.int S.2), some (.int (nI k)), e], [.int 100, .int (nI k)], mH h σ t (va_up A 17 S.1)) res h'
  | 0, k, S, e, hm, K => by
    refine ev_icmp_ge (t := 231) (q := 88) rfl rfl rfl (fun _ => ?_) (fun c1 => absurd (nI_end (b := 100) hm (by omega)) c1)
    have hc : k = 100 := hm
    subst hc
    exact K e
  | m + 1, k, S, e, hm, K => by
    refine ev_icmp_ge (t := 231) (q := 88) rfl rfl rfl (fun c1 => absurd c1 (nI_ge (b := 100) (by omega) (by omega))) (fun _ => ?_)
    simp only [sp_it] at K
    refine t_near hn (by omega) (fun y hy => ?_)
    refine ev_go 1 (q := 178) rfl ?_
    refine ev_get (q := 181) rfl (mH_o hn) rfl rfl rfl ?_
    refine ev_go 1 (q := 183) rfl ?_
    refine ev_mza (q := 184) hn rfl (by decide) rfl rfl (show k < 100 by omega) rfl ?_
    refine ev_if_ne (t := 225) (q := 187) rfl rfl rfl (fun zc1 => ?_) (fun zc1 => ?_)
    · rw [fl_no (A := A) (x := x) (k := k) (S := S) (fun q => zc1 q.1.1)] at K
      refine ev_go 4 (q := 85) (st' := .int 100 :: _) rfl ?_
      rw [nI_s]
      exact l_fps hn m (k + 1) S _ (by omega) K
    · refine ev_go 1 (q := 188) rfl ?_
      refine ev_get (q := 191) rfl (mH_o hn) rfl rfl rfl ?_
      refine ev_go 1 (q := 193) rfl ?_
      refine ev_mza (q := 194) hn rfl (by decide) rfl rfl (show k < 100 by omega) rfl ?_
      refine ev_if_eq (t := 225) (q := 197) rfl rfl rfl (fun zc2 => ?_) (fun zc2 => ?_)
      · rw [fl_no (A := A) (x := x) (k := k) (S := S) (fun q => q.1.2.1 zc2)] at K
        refine ev_go 4 (q := 85) (st' := .int 100 :: _) rfl ?_
        rw [nI_s]
        exact l_fps hn m (k + 1) S _ (by omega) K
      · refine ev_go 1 (q := 198) rfl ?_
        refine ev_get (q := 201) rfl (mH_o hn) rfl rfl rfl ?_
        refine ev_go 1 (q := 203) rfl ?_
        refine ev_mia (q := 204) hn rfl (by decide) rfl rfl (show k < 100 by omega) rfl ?_
        refine ev_go 1 (q := 206) rfl ?_
        refine ev_icmp_ne (t := 225) (q := 209) rfl rfl rfl (fun zc3 => ?_) (fun zc3 => ?_)
        · rw [fl_no (A := A) (x := x) (k := k) (S := S) (fun q => zc3 q.1.2.2)] at K
          refine ev_go 4 (q := 85) (st' := .int 100 :: _) rfl ?_
          rw [nI_s]
          exact l_fps hn m (k + 1) S _ (by omega) K
        · refine ev_go 1 (q := 211) rfl ?_
          refine ev_if_eq (t := 225) (q := 214) rfl rfl rfl (fun zc4 => ?_) (fun zc4 => ?_)
          · rw [fl_no (A := A) (x := x) (k := k) (S := S) (fun q => by rcases hy with ⟨rfl, _⟩ | ⟨_, q2⟩; exact absurd zc4 (by decide); exact q2 q.2)] at K
            refine ev_go 4 (q := 85) (st' := .int 100 :: _) rfl ?_
            rw [nI_s]
            exact l_fps hn m (k + 1) S _ (by omega) K
          · refine ev_go 1 (q := 215) rfl ?_
            refine ev_get (q := 218) rfl (mH_o hn) rfl rfl rfl ?_
            refine ev_go 2 (q := 221) (st' := .int 1 :: _ :: _ :: _) rfl ?_
            refine ev_mzas (q := 222) hn rfl (by decide) rfl rfl (show k < 100 by omega) rfl ?_
            refine ev_go 2 (q := 225) rfl ?_
            rw [fl_y (A := A) (x := x) (k := k) (S := S) ⟨⟨zc1, zc2, zc3⟩, by rcases hy with ⟨_, q2⟩ | ⟨rfl, _⟩; exact q2; exact absurd rfl zc4⟩] at K
            rw [bx_uu]
            refine ev_go 4 (q := 85) (st' := .int 100 :: _) rfl ?_
            rw [nI_s]
            exact l_fps hn m (k + 1) (va_up S.1 k 1, 1) _ (by omega) K
noncomputable def fl_p (A : Nat → Nat → Int32) (x : Int32) (ρ : Nat → Int32) : (Nat → Int32) × Int32 := sp_it (fl_s A x) 0 100 (ρ, 0)
noncomputable def fl_run (A : Nat → Nat → Int32) (x : Int32) : Nat → (Nat → Int32) → (Nat → Int32)
  | 0, ρ => ρ
  | n + 1, ρ => if (fl_p A x ρ).2 = 0 then (fl_p A x ρ).1 else fl_run A x n (fl_p A x ρ).1
/-- how many are not reached of k .. k + m - 1 -/
def fl_z (ρ : Nat → Int32) : Nat → Nat → Nat
  | _, 0 => 0
  | k, m + 1 => (if ρ k = 0 then 1 else 0) + fl_z ρ (k + 1) m
theorem fl_z_le (ρ : Nat → Int32) : ∀ m k, fl_z ρ k m ≤ m
  | 0, _ => Nat.le_refl _
  | m + 1, k => by
    have := fl_z_le ρ m (k + 1)
    unfold fl_z
    split <;> omega
theorem fl_z_up {ρ : Nat → Int32} {j : Nat} : ∀ m k, (j < k ∨ k + m ≤ j) → fl_z (va_up ρ j 1) k m = fl_z ρ k m
  | 0, _, _ => rfl
  | m + 1, k, hj => by
    unfold fl_z
    rw [fl_z_up m (k + 1) (by omega), va_up_ne _ _ (by omega)]
theorem fl_z_in {ρ : Nat → Int32} {j : Nat} (h0 : ρ j = 0) : ∀ m k, k ≤ j → j < k + m → fl_z (va_up ρ j 1) k m + 1 = fl_z ρ k m
  | 0, _, h1, h2 => by omega
  | m + 1, k, h1, h2 => by
    unfold fl_z
    by_cases e : j = k
    · subst e
      rw [fl_z_up m (j + 1) (by omega), va_up_self, if_pos h0, if_neg (by decide)]
      omega
    · have := fl_z_in h0 m (k + 1) (by omega) (by omega)
      rw [va_up_ne _ _ (by omega)]
      omega
theorem fl_dec (A : Nat → Nat → Int32) (x : Int32) : ∀ m k (S : (Nat → Int32) × Int32), k + m = 100 → fl_z (sp_it (fl_s A x) k m S).1 0 100 ≤ fl_z S.1 0 100 ∧ (S.2 = 0 → ¬ (sp_it (fl_s A x) k m S).2 = 0 → fl_z (sp_it (fl_s A x) k m S).1 0 100 < fl_z S.1 0 100)
  | 0, k, S, _ => ⟨Nat.le_refl _, fun a b => absurd a b⟩
  | m + 1, k, S, hm => by
    rw [sp_it]
    by_cases q : fl_c A x S.1 k
    · rw [fl_y q]
      have h1 := fl_dec A x m (k + 1) (va_up S.1 k 1, 1) (by omega)
      have h2 := fl_z_in q.1.1 100 0 (by omega) (by omega)
      dsimp only at h1
      exact ⟨by omega, fun _ _ => by omega⟩
    · rw [fl_no q]
      exact fl_dec A x m (k + 1) S (by omega)
theorem l_flw (hn : 43 ≤ h.1) {xa xb xw x : Int32} : ∀ (n : Nat) (ρ : Nat → Int32) (mo : Int32) (e6 e7 : Option Value), ¬ mo = 0 → fl_z ρ 0 100 < n → (∀ mo e6 e7, am_ev d z_Model_fills (234, [some (.ref 18), some (.int xa), some (.int xb), some (.int xw), some (.int x), some (.int mo), e6, e7], [], mH h σ t (va_up A 17 (fl_run A x n ρ))) res h') → am_ev d z_Model_fills (70, [some (.ref 18), some (.int xa), some (.int xb), some (.int xw), some (.int x), some (.int mo), e6, e7], [], mH h σ t (va_up A 17 ρ)) res h'
 := by
  intro n
  induction n with
  | zero =>
    intro ρ mo e6 e7 hmo hz K
    exact absurd hz (Nat.not_lt_zero _)
  | succ n ih =>
    intro ρ mo e6 e7 hmo hz K
    refine ev_go 1 (q := 72) rfl ?_
    refine ev_if_eq (t := 234) (q := 75) rfl rfl rfl (fun q => absurd q hmo) (fun _ => ?_)
    refine ev_go 6 (q := 85) (st' := .int 100 :: .int (nI 0) :: _) rfl ?_
    refine l_fps (S := (ρ, 0)) hn 100 0 _ (by omega) (fun e => ?_)
    refine ev_go 1 (q := 70) rfl ?_
    have hdc := fl_dec A x 100 0 (ρ, 0) (by omega)
    by_cases q : (fl_p A x ρ).2 = 0
    · refine ev_go 1 (q := 72) rfl ?_
      refine ev_if_eq (t := 234) (q := 75) rfl rfl rfl (fun _ => ?_) (fun c => absurd q c)
      have K1 := K
      simp only [fl_run, if_pos q] at K1
      exact K1 _ _ _
    · have K1 := K
      simp only [fl_run, if_neg q] at K1
      refine ih _ _ _ _ q ?_ K1
      have := hdc.2 rfl q
      exact Nat.lt_of_lt_of_le this (Nat.le_of_lt_succ hz)
theorem l_fli (hn : 43 ≤ h.1) {a b : Nat} {xw : Int32} {e5 e6 e7 : Option Value} (hab : 10 * a + b < 100) : ∀ (m k : Nat) (A : Nat → Nat → Int32), k + m = 100 → am_ev d z_Model_fills (54, [some (.ref 18), some (.int (nI a)), some (.int (nI b)), some (.int xw), some (.int (nI 100)), e5, e6, e7], [], mH h σ t (sp_it (fun k A => va_up A 17 (va_up (A 17) k (am_b (k = 10 * a + b)))) k m A)) res h' → am_ev d z_Model_fills (22, [some (.ref 18), some (.int (nI a)), some (.int (nI b)), some (.int xw), some (.int (nI k)), e5, e6, e7], [.int 100, .int (nI k)], mH h σ t A) res h'
  | 0, k, A, hm, K => by
    refine ev_icmp_ge (t := 54) (q := 25) rfl rfl rfl (fun _ => ?_) (fun c1 => absurd (nI_end (b := 100) hm (by omega)) c1)
    have hc : k = 100 := hm
    subst hc
    exact K
  | m + 1, k, A, hm, K => by
    refine ev_icmp_ge (t := 54) (q := 25) rfl rfl rfl (fun c1 => absurd c1 (nI_ge (b := 100) (by omega) (by omega))) (fun _ => ?_)
    rw [sp_it] at K
    refine ev_go 1 (q := 26) rfl ?_
    refine ev_get (q := 29) rfl (mH_o hn) rfl rfl rfl ?_
    refine ev_go 7 (q := 39) (st' := .int ((10 * _) + _) :: _ :: _ :: _ :: _) rfl ?_
    refine ev_icmp_ne (t := 46) (q := 42) rfl rfl rfl (fun zc1 => ?_) (fun zc1 => ?_)
    · refine ev_go 1 (q := 47) (st' := .int 0 :: _ :: _ :: _) rfl ?_
      refine ev_mzas (q := 48) hn rfl (by decide) rfl rfl (show k < 100 by omega) rfl ?_
      refine ev_go 4 (q := 22) (st' := .int 100 :: _ :: _) rfl ?_
      have e9 : ((0 : Int32) &&& 1) = am_b (k = 10 * a + b) := (am_bz (fun q => zc1 (by rw [q]; exact (mx_k a b).symm))).symm
      rw [e9, nI_s]
      exact l_fli hn hab m (k + 1) _ (by omega) K
    · refine ev_go 2 (q := 47) (st' := .int 1 :: _ :: _ :: _) rfl ?_
      refine ev_mzas (q := 48) hn rfl (by decide) rfl rfl (show k < 100 by omega) rfl ?_
      refine ev_go 4 (q := 22) (st' := .int 100 :: _ :: _) rfl ?_
      have e9 : ((1 : Int32) &&& 1) = am_b (k = 10 * a + b) := (am_b1 ((nI_eq (by omega) (by omega)).mp (zc1.trans (mx_k a b)))).symm
      rw [e9, nI_s]
      exact l_fli hn hab m (k + 1) _ (by omega) K
def fl_pt (R C u : Nat) (ρ : Nat → Int32) (xw : Int32) (k : Nat) (A : Nat → Nat → Int32) : Nat → Nat → Int32 := if ρ k = 0 then A else ms_paint R C u A (nI (k / 10)) (nI (k % 10)) xw
theorem l_flp (hn : 43 ≤ h.1) (hd : 2 < d) (hR : 1 ≤ R ∧ R ≤ 10) (hC : 1 ≤ C ∧ C ≤ 10) (h1 : σ 1 = nI R) (h2 : σ 2 = nI C) (h5 : σ 5 = nI u) (hu : u < 3) {xa xb xw x mo : Int32} {e : Option Value} {ρ : Nat → Int32} : ∀ (m k : Nat) (A : Nat → Nat → Int32), k + m = 100 → A 17 = ρ → am_ev d z_Model_fills (275, [some (.ref 18), some (.int xa), some (.int xb), some (.int xw), some (.int x), some (.int mo), some (.int (nI 100)), e], [], mH h σ t (sp_it (fl_pt R C u ρ xw) k m A)) res h' → am_ev d z_Model_fills (241, [some (.ref 18), some (.int xa), some (.int xb), some (.int xw), some (.int x), some (.int mo), some (.int (nI k)), e], [.int 100, .int (nI k)], mH h σ t A) res h'
  | 0, k, A, hm, hρ, K => by
    refine ev_icmp_ge (t := 275) (q := 244) rfl rfl rfl (fun _ => ?_) (fun c1 => absurd (nI_end (b := 100) hm (by omega)) c1)
    have hc : k = 100 := hm
    subst hc
    exact K
  | m + 1, k, A, hm, hρ, K => by
    refine ev_icmp_ge (t := 275) (q := 244) rfl rfl rfl (fun c1 => absurd c1 (nI_ge (b := 100) (by omega) (by omega))) (fun _ => ?_)
    rw [sp_it] at K
    refine ev_go 1 (q := 245) rfl ?_
    refine ev_get (q := 248) rfl (mH_o hn) rfl rfl rfl ?_
    refine ev_go 1 (q := 250) rfl ?_
    refine ev_mza (q := 251) hn rfl (by decide) rfl rfl (show k < 100 by omega) rfl ?_
    refine ev_if_eq (t := 269) (q := 254) rfl rfl rfl (fun zc1 => ?_) (fun zc1 => ?_)
    · refine ev_go 4 (q := 241) (st' := .int 100 :: _ :: _) rfl ?_
      rw [hρ] at zc1
      rw [show fl_pt R C u ρ xw k A = A from if_pos zc1] at K
      rw [nI_s]
      exact l_flp hn hd hR hC h1 h2 h5 hu m (k + 1) _ (by omega) hρ K
    · refine ev_go 3 (q := 259) (st' := .int 10 :: _ :: _ :: _) rfl ?_
      refine ev_divn (b := 10) (q := 260) rfl rfl rfl (by decide) (by omega) (by decide) rfl ?_
      refine ev_go 2 (q := 264) (st' := .int 10 :: _ :: _ :: _ :: _) rfl ?_
      refine ev_remn (b := 10) (q := 265) rfl rfl rfl (by decide) (by omega) (by decide) rfl ?_
      refine ev_go 1 (q := 266) rfl ?_
      refine ev_virt (z' := z_Model_paints) (q := 269) rfl rfl (by decide) rfl (by simp [Value.category]) rfl (by omega) rfl rfl (mH_o hn) (m_paint hn (by omega) hR hC h1 h2 h5 hu) ?_
      refine ev_go 4 (q := 241) (st' := .int 100 :: _ :: _) rfl ?_
      rw [hρ] at zc1
      rw [show fl_pt R C u ρ xw k A = ms_paint R C u A (nI (k / 10)) (nI (k % 10)) xw from if_neg zc1] at K
      rw [nI_s]
      exact l_flp hn hd hR hC h1 h2 h5 hu m (k + 1) _ (by omega) ((pt_15 _ _ _ _ _ _ _ _ (by decide)).trans hρ) K
def fl_0 (A : Nat → Nat → Int32) (s k : Nat) : Int32 := if 0 ≤ k ∧ k < 100 then am_b (k = s) else A 17 k
noncomputable def ms_fill (R C u s : Nat) (xw : Int32) (A : Nat → Nat → Int32) : Nat → Nat → Int32 := sp_it (fl_pt R C u (fl_run A (A 16 s) 101 (fl_0 A s)) xw) 0 100 (va_up A 17 (fl_run A (A 16 s) 101 (fl_0 A s)))
theorem m_fills0 (hn : 43 ≤ h.1) {a b : Nat} {xw : Int32} (hab : 10 * a + b < 100) (h0 : A 1 (10 * a + b) = 0) : am_m d z_Model_fills [.ref 18, .int (nI a), .int (nI b), .int xw] (mH h σ t A) none (mH h σ t A) := by
  refine ev_go 1 (q := 1) rfl ?_
  refine ev_get (q := 4) rfl (mH_o hn) rfl rfl rfl ?_
  refine ev_go 5 (q := 10) (st' := .int ((10 * _) + _) :: _ :: _) rfl ?_
  refine ev_mza (q := 11) hn rfl (by decide) rfl (mx_k a b) hab rfl ?_
  refine ev_if_ne (t := 15) (q := 14) rfl rfl rfl (fun c => absurd h0 c) (fun zc1 => ?_)
  exact ev_vret rfl rfl (rfl)
theorem fl_pw {f : Nat → Int32} : ∀ (m k : Nat) (A : Nat → Nat → Int32), k + m = 100 → sp_it (fun k A => va_up A 17 (va_up (A 17) k (f k))) k m A = va_up A 17 (fun j => if k ≤ j ∧ j < 100 then f j else A 17 j)
  | 0, k, A, hm => by
    rw [sp_it]
    funext i j
    by_cases e : i = 17
    · subst e
      rw [va_up_self, if_neg (by omega)]
    · rw [va_up_ne _ _ e]
  | m + 1, k, A, hm => by
    rw [sp_it, fl_pw m (k + 1) _ (by omega), bx_uu]
    congr 1
    funext j
    rw [va_up_self]
    by_cases e : j = k
    · subst e
      rw [if_neg (by omega), if_pos (by omega), va_up_self]
    · rw [va_up_ne _ _ e]
      by_cases q : k + 1 ≤ j ∧ j < 100
      · rw [if_pos q, if_pos (by omega)]
      · rw [if_neg q, if_neg (by omega)]
theorem m_fills (hn : 43 ≤ h.1) (hd : 2 < d) (hR : 1 ≤ R ∧ R ≤ 10) (hC : 1 ≤ C ∧ C ≤ 10) (h1 : σ 1 = nI R) (h2 : σ 2 = nI C) (h5 : σ 5 = nI u) (hu : u < 3) {a b : Nat} {xw : Int32} (hab : 10 * a + b < 100) (h0 : ¬ A 1 (10 * a + b) = 0) : am_m d z_Model_fills [.ref 18, .int (nI a), .int (nI b), .int xw] (mH h σ t A) none (mH h σ t (ms_fill R C u (10 * a + b) xw A)) := by
  refine ev_go 1 (q := 1) rfl ?_
  refine ev_get (q := 4) rfl (mH_o hn) rfl rfl rfl ?_
  refine ev_go 5 (q := 10) (st' := .int ((10 * _) + _) :: _ :: _) rfl ?_
  refine ev_mza (q := 11) hn rfl (by decide) rfl (mx_k a b) hab rfl ?_
  refine ev_if_ne (t := 15) (q := 14) rfl rfl rfl (fun zc1 => ?_) (fun c => absurd c h0)
  refine ev_go 4 (q := 22) (st' := .int 100 :: _ :: _) rfl ?_
  refine l_fli hn hab 100 0 A (by omega) ?_
  rw [fl_pw (f := fun k => am_b (k = 10 * a + b)) 100 0 A (by omega)]
  refine ev_go 1 (q := 55) rfl ?_
  refine ev_get (q := 58) rfl (mH_o hn) rfl rfl rfl ?_
  refine ev_go 5 (q := 64) (st' := .int ((10 * _) + _) :: _ :: _) rfl ?_
  refine ev_mia (q := 65) hn rfl (by decide) rfl (mx_k a b) hab rfl ?_
  refine ev_go 3 (q := 70) rfl ?_
  refine l_flw (A := A) hn 101 (fl_0 A (10 * a + b)) 1 _ _ (by decide) (Nat.lt_succ_of_le (fl_z_le _ _ _)) (fun mo e6 e7 => ?_)
  refine ev_go 4 (q := 241) (st' := .int 100 :: _ :: _) rfl ?_
  refine l_flp hn hd hR hC h1 h2 h5 hu 100 0 _ (by omega) (va_up_self _ _ _) ?_
  exact ev_vret rfl rfl rfl
end M6
end
