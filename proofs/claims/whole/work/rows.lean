section
-- ===== PART A: goes FIRST, ahead of the names: the tables' words, and 'selects' of the private methods out of them =====
/-- a private method of a class that the tables say can be made, by its rows of tables_1 -/
def lw_okq (q : MethodName × Nat) : Prop := (q.1.cls ≠ "java/lang/invoke/MethodHandle" ∧ q.1.cls ≠ "java/lang/invoke/VarHandle") ∧ Cond.instantiable q.1.cls q.2 ∈ tables_1 ∧ Cond.privateMethod q.1 ∈ tables_1 ∧ Cond.instanceMethod q.1 ∈ tables_1
theorem lw_p0 : lw_okq (⟨"BarterRings$History", "rowAt", "(I)LBarterRings$Market;"⟩, 3) := ⟨⟨by decide +kernel, by decide +kernel⟩, List.mem_of_getElem? (i := 105) (by decide +kernel), List.mem_of_getElem? (i := 237) (by decide +kernel), List.mem_of_getElem? (i := 238) (by decide +kernel)⟩
theorem lw_p1 : lw_okq (⟨"BarterRings$Market", "makeWare", "(I)V"⟩, 18) := ⟨⟨by decide +kernel, by decide +kernel⟩, List.mem_of_getElem? (i := 21) (by decide +kernel), List.mem_of_getElem? (i := 255) (by decide +kernel), List.mem_of_getElem? (i := 256) (by decide +kernel)⟩
theorem lw_p2 : lw_okq (⟨"BarterRings$Market", "wantsWareOf", "(II)Z"⟩, 18) := ⟨⟨by decide +kernel, by decide +kernel⟩, List.mem_of_getElem? (i := 21) (by decide +kernel), List.mem_of_getElem? (i := 323) (by decide +kernel), List.mem_of_getElem? (i := 324) (by decide +kernel)⟩
theorem lw_p3 : lw_okq (⟨"BarterRings$Market", "keepWares", "()V"⟩, 18) := ⟨⟨by decide +kernel, by decide +kernel⟩, List.mem_of_getElem? (i := 21) (by decide +kernel), List.mem_of_getElem? (i := 330) (by decide +kernel), List.mem_of_getElem? (i := 331) (by decide +kernel)⟩
theorem lw_p4 : lw_okq (⟨"BarterRings$Market", "takeWare", "(II)V"⟩, 18) := ⟨⟨by decide +kernel, by decide +kernel⟩, List.mem_of_getElem? (i := 21) (by decide +kernel), List.mem_of_getElem? (i := 334) (by decide +kernel), List.mem_of_getElem? (i := 335) (by decide +kernel)⟩
theorem lw_p5 : lw_okq (⟨"BarterRings", "callMarket", "(LBarterRings$Market;)I"⟩, 10) := ⟨⟨by decide +kernel, by decide +kernel⟩, List.mem_of_getElem? (i := 13) (by decide +kernel), List.mem_of_getElem? (i := 342) (by decide +kernel), List.mem_of_getElem? (i := 343) (by decide +kernel)⟩
theorem lw_p6 : lw_okq (⟨"BarterRings$Market", "mayBarter", "(I)Z"⟩, 18) := ⟨⟨by decide +kernel, by decide +kernel⟩, List.mem_of_getElem? (i := 21) (by decide +kernel), List.mem_of_getElem? (i := 360) (by decide +kernel), List.mem_of_getElem? (i := 361) (by decide +kernel)⟩
theorem lw_p7 : lw_okq (⟨"BarterRings$TakerSearch", "chooseGiver", "(III)V"⟩, 6) := ⟨⟨by decide +kernel, by decide +kernel⟩, List.mem_of_getElem? (i := 166) (by decide +kernel), List.mem_of_getElem? (i := 367) (by decide +kernel), List.mem_of_getElem? (i := 368) (by decide +kernel)⟩
theorem lw_p8 : lw_okq (⟨"BarterRings$TakerSearch", "fitsInCircle", "(II)Z"⟩, 6) := ⟨⟨by decide +kernel, by decide +kernel⟩, List.mem_of_getElem? (i := 166) (by decide +kernel), List.mem_of_getElem? (i := 373) (by decide +kernel), List.mem_of_getElem? (i := 374) (by decide +kernel)⟩
theorem lw_p9 : lw_okq (⟨"BarterRings$TakerSearch", "goOn", "(IIII)V"⟩, 6) := ⟨⟨by decide +kernel, by decide +kernel⟩, List.mem_of_getElem? (i := 166) (by decide +kernel), List.mem_of_getElem? (i := 378) (by decide +kernel), List.mem_of_getElem? (i := 379) (by decide +kernel)⟩
theorem lw_p10 : lw_okq (⟨"BarterRings$Market", "renewWare", "(I)V"⟩, 18) := ⟨⟨by decide +kernel, by decide +kernel⟩, List.mem_of_getElem? (i := 21) (by decide +kernel), List.mem_of_getElem? (i := 394) (by decide +kernel), List.mem_of_getElem? (i := 395) (by decide +kernel)⟩
theorem lw_p11 : lw_okq (⟨"BarterRings$Market", "drawLot", "()V"⟩, 18) := ⟨⟨by decide +kernel, by decide +kernel⟩, List.mem_of_getElem? (i := 21) (by decide +kernel), List.mem_of_getElem? (i := 398) (by decide +kernel), List.mem_of_getElem? (i := 399) (by decide +kernel)⟩
theorem lw_p12 : lw_okq (⟨"BarterRings", "doDaysOfPad", "()V"⟩, 10) := ⟨⟨by decide +kernel, by decide +kernel⟩, List.mem_of_getElem? (i := 13) (by decide +kernel), List.mem_of_getElem? (i := 457) (by decide +kernel), List.mem_of_getElem? (i := 458) (by decide +kernel)⟩
theorem lw_p13 : lw_okq (⟨"BarterRings", "doBarterOfPad", "(I)V"⟩, 10) := ⟨⟨by decide +kernel, by decide +kernel⟩, List.mem_of_getElem? (i := 13) (by decide +kernel), List.mem_of_getElem? (i := 461) (by decide +kernel), List.mem_of_getElem? (i := 462) (by decide +kernel)⟩
theorem lw_p14 : lw_okq (⟨"BarterRings", "bestGiver", "(I)I"⟩, 10) := ⟨⟨by decide +kernel, by decide +kernel⟩, List.mem_of_getElem? (i := 13) (by decide +kernel), List.mem_of_getElem? (i := 486) (by decide +kernel), List.mem_of_getElem? (i := 487) (by decide +kernel)⟩
theorem lw_p15 : lw_okq (⟨"BarterRings$CircleSets", "readTakers", "(LBarterRings$Market;)V"⟩, 6) := ⟨⟨by decide +kernel, by decide +kernel⟩, List.mem_of_getElem? (i := 140) (by decide +kernel), List.mem_of_getElem? (i := 508) (by decide +kernel), List.mem_of_getElem? (i := 509) (by decide +kernel)⟩
def lw_privs_1 : List (MethodName × Nat) := [(⟨"BarterRings$History", "rowAt", "(I)LBarterRings$Market;"⟩, 3), (⟨"BarterRings$Market", "makeWare", "(I)V"⟩, 18), (⟨"BarterRings$Market", "wantsWareOf", "(II)Z"⟩, 18), (⟨"BarterRings$Market", "keepWares", "()V"⟩, 18), (⟨"BarterRings$Market", "takeWare", "(II)V"⟩, 18), (⟨"BarterRings", "callMarket", "(LBarterRings$Market;)I"⟩, 10), (⟨"BarterRings$Market", "mayBarter", "(I)Z"⟩, 18), (⟨"BarterRings$TakerSearch", "chooseGiver", "(III)V"⟩, 6), (⟨"BarterRings$TakerSearch", "fitsInCircle", "(II)Z"⟩, 6), (⟨"BarterRings$TakerSearch", "goOn", "(IIII)V"⟩, 6), (⟨"BarterRings$Market", "renewWare", "(I)V"⟩, 18), (⟨"BarterRings$Market", "drawLot", "()V"⟩, 18), (⟨"BarterRings", "doDaysOfPad", "()V"⟩, 10), (⟨"BarterRings", "doBarterOfPad", "(I)V"⟩, 10), (⟨"BarterRings", "bestGiver", "(I)I"⟩, 10), (⟨"BarterRings$CircleSets", "readTakers", "(LBarterRings$Market;)V"⟩, 6)]
theorem lw_r1 : ∀ q ∈ lw_privs_1, lw_okq q := List.forall_mem_cons.mpr ⟨lw_p0, List.forall_mem_cons.mpr ⟨lw_p1, List.forall_mem_cons.mpr ⟨lw_p2, List.forall_mem_cons.mpr ⟨lw_p3, List.forall_mem_cons.mpr ⟨lw_p4, List.forall_mem_cons.mpr ⟨lw_p5, List.forall_mem_cons.mpr ⟨lw_p6, List.forall_mem_cons.mpr ⟨lw_p7, List.forall_mem_cons.mpr ⟨lw_p8, List.forall_mem_cons.mpr ⟨lw_p9, List.forall_mem_cons.mpr ⟨lw_p10, List.forall_mem_cons.mpr ⟨lw_p11, List.forall_mem_cons.mpr ⟨lw_p12, List.forall_mem_cons.mpr ⟨lw_p13, List.forall_mem_cons.mpr ⟨lw_p14, List.forall_mem_cons.mpr ⟨lw_p15, fun _ h => absurd h List.not_mem_nil⟩⟩⟩⟩⟩⟩⟩⟩⟩⟩⟩⟩⟩⟩⟩⟩
theorem lw_p16 : lw_okq (⟨"BarterRings$CircleSets", "findChains", "()V"⟩, 6) := ⟨⟨by decide +kernel, by decide +kernel⟩, List.mem_of_getElem? (i := 140) (by decide +kernel), List.mem_of_getElem? (i := 518) (by decide +kernel), List.mem_of_getElem? (i := 519) (by decide +kernel)⟩
theorem lw_p17 : lw_okq (⟨"BarterRings$CircleSets", "findCircles", "(I)V"⟩, 6) := ⟨⟨by decide +kernel, by decide +kernel⟩, List.mem_of_getElem? (i := 140) (by decide +kernel), List.mem_of_getElem? (i := 525) (by decide +kernel), List.mem_of_getElem? (i := 526) (by decide +kernel)⟩
theorem lw_p18 : lw_okq (⟨"BarterRings$CircleSets", "findBarters", "()I"⟩, 6) := ⟨⟨by decide +kernel, by decide +kernel⟩, List.mem_of_getElem? (i := 140) (by decide +kernel), List.mem_of_getElem? (i := 530) (by decide +kernel), List.mem_of_getElem? (i := 531) (by decide +kernel)⟩
theorem lw_p19 : lw_okq (⟨"BarterRings$CircleSets", "isMadeOfCircles", "(I)Z"⟩, 6) := ⟨⟨by decide +kernel, by decide +kernel⟩, List.mem_of_getElem? (i := 140) (by decide +kernel), List.mem_of_getElem? (i := 534) (by decide +kernel), List.mem_of_getElem? (i := 535) (by decide +kernel)⟩
theorem lw_p20 : lw_okq (⟨"BarterRingsModel", "record", "()V"⟩, 17) := ⟨⟨by decide +kernel, by decide +kernel⟩, List.mem_of_getElem? (i := 619) (by decide +kernel), List.mem_of_getElem? (i := 690) (by decide +kernel), List.mem_of_getElem? (i := 691) (by decide +kernel)⟩
theorem lw_p21 : lw_okq (⟨"BarterRingsModel", "comes", "(II)I"⟩, 17) := ⟨⟨by decide +kernel, by decide +kernel⟩, List.mem_of_getElem? (i := 619) (by decide +kernel), List.mem_of_getElem? (i := 694) (by decide +kernel), List.mem_of_getElem? (i := 695) (by decide +kernel)⟩
theorem lw_p22 : lw_okq (⟨"BarterRingsModel", "isTrader", "(I)Z"⟩, 17) := ⟨⟨by decide +kernel, by decide +kernel⟩, List.mem_of_getElem? (i := 619) (by decide +kernel), List.mem_of_getElem? (i := 705) (by decide +kernel), List.mem_of_getElem? (i := 706) (by decide +kernel)⟩
theorem lw_p23 : lw_okq (⟨"BarterRingsModel", "of", "(II)I"⟩, 17) := ⟨⟨by decide +kernel, by decide +kernel⟩, List.mem_of_getElem? (i := 619) (by decide +kernel), List.mem_of_getElem? (i := 709) (by decide +kernel), List.mem_of_getElem? (i := 710) (by decide +kernel)⟩
theorem lw_p24 : lw_okq (⟨"BarterRingsModel", "lays", "(II)I"⟩, 17) := ⟨⟨by decide +kernel, by decide +kernel⟩, List.mem_of_getElem? (i := 619) (by decide +kernel), List.mem_of_getElem? (i := 717) (by decide +kernel), List.mem_of_getElem? (i := 718) (by decide +kernel)⟩
theorem lw_p25 : lw_okq (⟨"BarterRingsModel", "arePair", "(II)Z"⟩, 17) := ⟨⟨by decide +kernel, by decide +kernel⟩, List.mem_of_getElem? (i := 619) (by decide +kernel), List.mem_of_getElem? (i := 737) (by decide +kernel), List.mem_of_getElem? (i := 738) (by decide +kernel)⟩
theorem lw_p26 : lw_okq (⟨"BarterRingsModel", "barters", "(II)I"⟩, 17) := ⟨⟨by decide +kernel, by decide +kernel⟩, List.mem_of_getElem? (i := 619) (by decide +kernel), List.mem_of_getElem? (i := 741) (by decide +kernel), List.mem_of_getElem? (i := 742) (by decide +kernel)⟩
theorem lw_p27 : lw_okq (⟨"BarterRingsModel", "reason", "(II)I"⟩, 17) := ⟨⟨by decide +kernel, by decide +kernel⟩, List.mem_of_getElem? (i := 619) (by decide +kernel), List.mem_of_getElem? (i := 745) (by decide +kernel), List.mem_of_getElem? (i := 746) (by decide +kernel)⟩
theorem lw_p28 : lw_okq (⟨"BarterRingsModel", "daysLeft", "(I)I"⟩, 17) := ⟨⟨by decide +kernel, by decide +kernel⟩, List.mem_of_getElem? (i := 619) (by decide +kernel), List.mem_of_getElem? (i := 749) (by decide +kernel), List.mem_of_getElem? (i := 750) (by decide +kernel)⟩
theorem lw_p29 : lw_okq (⟨"BarterRingsModel", "wants", "(II)Z"⟩, 17) := ⟨⟨by decide +kernel, by decide +kernel⟩, List.mem_of_getElem? (i := 619) (by decide +kernel), List.mem_of_getElem? (i := 753) (by decide +kernel), List.mem_of_getElem? (i := 754) (by decide +kernel)⟩
theorem lw_p30 : lw_okq (⟨"BarterRingsModel", "looksAtWares", "()V"⟩, 17) := ⟨⟨by decide +kernel, by decide +kernel⟩, List.mem_of_getElem? (i := 619) (by decide +kernel), List.mem_of_getElem? (i := 757) (by decide +kernel), List.mem_of_getElem? (i := 758) (by decide +kernel)⟩
theorem lw_p31 : lw_okq (⟨"BarterRingsModel", "gets", "(III)V"⟩, 17) := ⟨⟨by decide +kernel, by decide +kernel⟩, List.mem_of_getElem? (i := 619) (by decide +kernel), List.mem_of_getElem? (i := 761) (by decide +kernel), List.mem_of_getElem? (i := 762) (by decide +kernel)⟩
def lw_privs_2 : List (MethodName × Nat) := [(⟨"BarterRings$CircleSets", "findChains", "()V"⟩, 6), (⟨"BarterRings$CircleSets", "findCircles", "(I)V"⟩, 6), (⟨"BarterRings$CircleSets", "findBarters", "()I"⟩, 6), (⟨"BarterRings$CircleSets", "isMadeOfCircles", "(I)Z"⟩, 6), (⟨"BarterRingsModel", "record", "()V"⟩, 17), (⟨"BarterRingsModel", "comes", "(II)I"⟩, 17), (⟨"BarterRingsModel", "isTrader", "(I)Z"⟩, 17), (⟨"BarterRingsModel", "of", "(II)I"⟩, 17), (⟨"BarterRingsModel", "lays", "(II)I"⟩, 17), (⟨"BarterRingsModel", "arePair", "(II)Z"⟩, 17), (⟨"BarterRingsModel", "barters", "(II)I"⟩, 17), (⟨"BarterRingsModel", "reason", "(II)I"⟩, 17), (⟨"BarterRingsModel", "daysLeft", "(I)I"⟩, 17), (⟨"BarterRingsModel", "wants", "(II)Z"⟩, 17), (⟨"BarterRingsModel", "looksAtWares", "()V"⟩, 17), (⟨"BarterRingsModel", "gets", "(III)V"⟩, 17)]
theorem lw_r2 : ∀ q ∈ lw_privs_2, lw_okq q := List.forall_mem_cons.mpr ⟨lw_p16, List.forall_mem_cons.mpr ⟨lw_p17, List.forall_mem_cons.mpr ⟨lw_p18, List.forall_mem_cons.mpr ⟨lw_p19, List.forall_mem_cons.mpr ⟨lw_p20, List.forall_mem_cons.mpr ⟨lw_p21, List.forall_mem_cons.mpr ⟨lw_p22, List.forall_mem_cons.mpr ⟨lw_p23, List.forall_mem_cons.mpr ⟨lw_p24, List.forall_mem_cons.mpr ⟨lw_p25, List.forall_mem_cons.mpr ⟨lw_p26, List.forall_mem_cons.mpr ⟨lw_p27, List.forall_mem_cons.mpr ⟨lw_p28, List.forall_mem_cons.mpr ⟨lw_p29, List.forall_mem_cons.mpr ⟨lw_p30, List.forall_mem_cons.mpr ⟨lw_p31, fun _ h => absurd h List.not_mem_nil⟩⟩⟩⟩⟩⟩⟩⟩⟩⟩⟩⟩⟩⟩⟩⟩
theorem lw_p32 : lw_okq (⟨"BarterRingsModel", "calls", "()I"⟩, 17) := ⟨⟨by decide +kernel, by decide +kernel⟩, List.mem_of_getElem? (i := 619) (by decide +kernel), List.mem_of_getElem? (i := 769) (by decide +kernel), List.mem_of_getElem? (i := 770) (by decide +kernel)⟩
theorem lw_p33 : lw_okq (⟨"BarterRingsModel", "layBest", "(I)V"⟩, 17) := ⟨⟨by decide +kernel, by decide +kernel⟩, List.mem_of_getElem? (i := 619) (by decide +kernel), List.mem_of_getElem? (i := 773) (by decide +kernel), List.mem_of_getElem? (i := 774) (by decide +kernel)⟩
theorem lw_p34 : lw_okq (⟨"BarterRingsModel", "keepsBest", "(I)V"⟩, 17) := ⟨⟨by decide +kernel, by decide +kernel⟩, List.mem_of_getElem? (i := 619) (by decide +kernel), List.mem_of_getElem? (i := 777) (by decide +kernel), List.mem_of_getElem? (i := 778) (by decide +kernel)⟩
theorem lw_p35 : lw_okq (⟨"BarterRingsModel", "areCircles", "(I)Z"⟩, 17) := ⟨⟨by decide +kernel, by decide +kernel⟩, List.mem_of_getElem? (i := 619) (by decide +kernel), List.mem_of_getElem? (i := 781) (by decide +kernel), List.mem_of_getElem? (i := 782) (by decide +kernel)⟩
theorem lw_p36 : lw_okq (⟨"BarterRingsModel", "may", "(III)Z"⟩, 17) := ⟨⟨by decide +kernel, by decide +kernel⟩, List.mem_of_getElem? (i := 619) (by decide +kernel), List.mem_of_getElem? (i := 785) (by decide +kernel), List.mem_of_getElem? (i := 786) (by decide +kernel)⟩
theorem lw_p37 : lw_okq (⟨"BarterRingsModel", "takes", "(II)Z"⟩, 17) := ⟨⟨by decide +kernel, by decide +kernel⟩, List.mem_of_getElem? (i := 619) (by decide +kernel), List.mem_of_getElem? (i := 789) (by decide +kernel), List.mem_of_getElem? (i := 790) (by decide +kernel)⟩
theorem lw_p38 : lw_okq (⟨"BarterRingsModel", "passes", "()I"⟩, 17) := ⟨⟨by decide +kernel, by decide +kernel⟩, List.mem_of_getElem? (i := 619) (by decide +kernel), List.mem_of_getElem? (i := 797) (by decide +kernel), List.mem_of_getElem? (i := 798) (by decide +kernel)⟩
theorem lw_p39 : lw_okq (⟨"BarterRingsModel", "faultOfTraders", "()I"⟩, 17) := ⟨⟨by decide +kernel, by decide +kernel⟩, List.mem_of_getElem? (i := 619) (by decide +kernel), List.mem_of_getElem? (i := 813) (by decide +kernel), List.mem_of_getElem? (i := 814) (by decide +kernel)⟩
theorem lw_p40 : lw_okq (⟨"BarterRingsModel", "behindTrader", "(I)I"⟩, 17) := ⟨⟨by decide +kernel, by decide +kernel⟩, List.mem_of_getElem? (i := 619) (by decide +kernel), List.mem_of_getElem? (i := 817) (by decide +kernel), List.mem_of_getElem? (i := 818) (by decide +kernel)⟩
theorem lw_p41 : lw_okq (⟨"BarterRingsModel", "next", "(I)I"⟩, 17) := ⟨⟨by decide +kernel, by decide +kernel⟩, List.mem_of_getElem? (i := 619) (by decide +kernel), List.mem_of_getElem? (i := 821) (by decide +kernel), List.mem_of_getElem? (i := 822) (by decide +kernel)⟩
theorem lw_p42 : lw_okq (⟨"BarterRingsModel", "faultOfDays", "()I"⟩, 17) := ⟨⟨by decide +kernel, by decide +kernel⟩, List.mem_of_getElem? (i := 619) (by decide +kernel), List.mem_of_getElem? (i := 825) (by decide +kernel), List.mem_of_getElem? (i := 826) (by decide +kernel)⟩
theorem lw_p43 : lw_okq (⟨"BarterRingsModel", "isDone", "(I)Z"⟩, 17) := ⟨⟨by decide +kernel, by decide +kernel⟩, List.mem_of_getElem? (i := 619) (by decide +kernel), List.mem_of_getElem? (i := 837) (by decide +kernel), List.mem_of_getElem? (i := 838) (by decide +kernel)⟩
theorem lw_p44 : lw_okq (⟨"BarterRingsModel", "takesFrom", "(I)I"⟩, 17) := ⟨⟨by decide +kernel, by decide +kernel⟩, List.mem_of_getElem? (i := 619) (by decide +kernel), List.mem_of_getElem? (i := 849) (by decide +kernel), List.mem_of_getElem? (i := 850) (by decide +kernel)⟩
theorem lw_p45 : lw_okq (⟨"BarterRingsModel", "givesTo", "(I)I"⟩, 17) := ⟨⟨by decide +kernel, by decide +kernel⟩, List.mem_of_getElem? (i := 619) (by decide +kernel), List.mem_of_getElem? (i := 853) (by decide +kernel), List.mem_of_getElem? (i := 854) (by decide +kernel)⟩
theorem lw_p46 : lw_okq (⟨"BarterRingsModel", "bestFor", "(I)I"⟩, 17) := ⟨⟨by decide +kernel, by decide +kernel⟩, List.mem_of_getElem? (i := 619) (by decide +kernel), List.mem_of_getElem? (i := 857) (by decide +kernel), List.mem_of_getElem? (i := 858) (by decide +kernel)⟩
theorem lw_p47 : lw_okq (⟨"BarterRingsModel", "mostWith", "(I)I"⟩, 17) := ⟨⟨by decide +kernel, by decide +kernel⟩, List.mem_of_getElem? (i := 619) (by decide +kernel), List.mem_of_getElem? (i := 873) (by decide +kernel), List.mem_of_getElem? (i := 874) (by decide +kernel)⟩
def lw_privs_3 : List (MethodName × Nat) := [(⟨"BarterRingsModel", "calls", "()I"⟩, 17), (⟨"BarterRingsModel", "layBest", "(I)V"⟩, 17), (⟨"BarterRingsModel", "keepsBest", "(I)V"⟩, 17), (⟨"BarterRingsModel", "areCircles", "(I)Z"⟩, 17), (⟨"BarterRingsModel", "may", "(III)Z"⟩, 17), (⟨"BarterRingsModel", "takes", "(II)Z"⟩, 17), (⟨"BarterRingsModel", "passes", "()I"⟩, 17), (⟨"BarterRingsModel", "faultOfTraders", "()I"⟩, 17), (⟨"BarterRingsModel", "behindTrader", "(I)I"⟩, 17), (⟨"BarterRingsModel", "next", "(I)I"⟩, 17), (⟨"BarterRingsModel", "faultOfDays", "()I"⟩, 17), (⟨"BarterRingsModel", "isDone", "(I)Z"⟩, 17), (⟨"BarterRingsModel", "takesFrom", "(I)I"⟩, 17), (⟨"BarterRingsModel", "givesTo", "(I)I"⟩, 17), (⟨"BarterRingsModel", "bestFor", "(I)I"⟩, 17), (⟨"BarterRingsModel", "mostWith", "(I)I"⟩, 17)]
theorem lw_r3 : ∀ q ∈ lw_privs_3, lw_okq q := List.forall_mem_cons.mpr ⟨lw_p32, List.forall_mem_cons.mpr ⟨lw_p33, List.forall_mem_cons.mpr ⟨lw_p34, List.forall_mem_cons.mpr ⟨lw_p35, List.forall_mem_cons.mpr ⟨lw_p36, List.forall_mem_cons.mpr ⟨lw_p37, List.forall_mem_cons.mpr ⟨lw_p38, List.forall_mem_cons.mpr ⟨lw_p39, List.forall_mem_cons.mpr ⟨lw_p40, List.forall_mem_cons.mpr ⟨lw_p41, List.forall_mem_cons.mpr ⟨lw_p42, List.forall_mem_cons.mpr ⟨lw_p43, List.forall_mem_cons.mpr ⟨lw_p44, List.forall_mem_cons.mpr ⟨lw_p45, List.forall_mem_cons.mpr ⟨lw_p46, List.forall_mem_cons.mpr ⟨lw_p47, fun _ h => absurd h List.not_mem_nil⟩⟩⟩⟩⟩⟩⟩⟩⟩⟩⟩⟩⟩⟩⟩⟩
theorem lw_p48 : lw_okq (⟨"BarterRingsModel", "sumOf", "(II)I"⟩, 17) := ⟨⟨by decide +kernel, by decide +kernel⟩, List.mem_of_getElem? (i := 619) (by decide +kernel), List.mem_of_getElem? (i := 881) (by decide +kernel), List.mem_of_getElem? (i := 882) (by decide +kernel)⟩
theorem lw_p49 : lw_okq (⟨"BarterRingsModel", "needs", "()I"⟩, 17) := ⟨⟨by decide +kernel, by decide +kernel⟩, List.mem_of_getElem? (i := 619) (by decide +kernel), List.mem_of_getElem? (i := 889) (by decide +kernel), List.mem_of_getElem? (i := 890) (by decide +kernel)⟩
theorem lw_p50 : lw_okq (⟨"BarterRingsModel", "spoilt", "()I"⟩, 17) := ⟨⟨by decide +kernel, by decide +kernel⟩, List.mem_of_getElem? (i := 619) (by decide +kernel), List.mem_of_getElem? (i := 896) (by decide +kernel), List.mem_of_getElem? (i := 897) (by decide +kernel)⟩
theorem lw_p51 : lw_okq (⟨"BarterRingsModel", "stuck", "()I"⟩, 17) := ⟨⟨by decide +kernel, by decide +kernel⟩, List.mem_of_getElem? (i := 619) (by decide +kernel), List.mem_of_getElem? (i := 900) (by decide +kernel), List.mem_of_getElem? (i := 901) (by decide +kernel)⟩
theorem lw_p52 : lw_okq (⟨"BarterRingsModel", "putAside", "()V"⟩, 17) := ⟨⟨by decide +kernel, by decide +kernel⟩, List.mem_of_getElem? (i := 619) (by decide +kernel), List.mem_of_getElem? (i := 916) (by decide +kernel), List.mem_of_getElem? (i := 917) (by decide +kernel)⟩
theorem lw_p53 : lw_okq (⟨"BarterRingsModel", "putBack", "()V"⟩, 17) := ⟨⟨by decide +kernel, by decide +kernel⟩, List.mem_of_getElem? (i := 619) (by decide +kernel), List.mem_of_getElem? (i := 920) (by decide +kernel), List.mem_of_getElem? (i := 921) (by decide +kernel)⟩
def lw_privs_4 : List (MethodName × Nat) := [(⟨"BarterRingsModel", "sumOf", "(II)I"⟩, 17), (⟨"BarterRingsModel", "needs", "()I"⟩, 17), (⟨"BarterRingsModel", "spoilt", "()I"⟩, 17), (⟨"BarterRingsModel", "stuck", "()I"⟩, 17), (⟨"BarterRingsModel", "putAside", "()V"⟩, 17), (⟨"BarterRingsModel", "putBack", "()V"⟩, 17)]
theorem lw_r4 : ∀ q ∈ lw_privs_4, lw_okq q := List.forall_mem_cons.mpr ⟨lw_p48, List.forall_mem_cons.mpr ⟨lw_p49, List.forall_mem_cons.mpr ⟨lw_p50, List.forall_mem_cons.mpr ⟨lw_p51, List.forall_mem_cons.mpr ⟨lw_p52, List.forall_mem_cons.mpr ⟨lw_p53, fun _ h => absurd h List.not_mem_nil⟩⟩⟩⟩⟩⟩
def lw_privs : List (MethodName × Nat) := lw_privs_1 ++ (lw_privs_2 ++ (lw_privs_3 ++ (lw_privs_4)))
def lw_tbl : List Cond := k2_sels lw_privs ++ tables_1
theorem lw_privs_ok : ∀ q ∈ lw_privs, lw_okq q := by
  show ∀ q ∈ lw_privs_1 ++ (lw_privs_2 ++ (lw_privs_3 ++ (lw_privs_4))), lw_okq q
  exact List.forall_mem_append.mpr ⟨lw_r1, List.forall_mem_append.mpr ⟨lw_r2, List.forall_mem_append.mpr ⟨lw_r3, lw_r4⟩⟩⟩
-- ===== end of PART A =====
def RX0 : String := "BarterRings$CircleSets"
def TX0 : u_T := fun k => match k with
  | 0 => ("BarterRings$CircleSets", "takersOf", "[I", true)
  | 1 => ("BarterRings$CircleSets", "lastOnes", "[I", true)
  | 2 => ("BarterRings$CircleSets", "isCircle", "[Z", true)
  | 3 => ("BarterRings$CircleSets", "isBarter", "[Z", true)
  | 4 => ("BarterRings$CircleSets", "size", "I", false)
  | _ => ("BarterRings$CircleSets", "sets", "I", false)
def tyX0 : Nat → FieldType := fun k => match k with
  | 0 => .array .int
  | 1 => .array .int
  | 2 => .array .boolean
  | 3 => .array .boolean
  | 4 => .int
  | _ => .int
theorem nmX0 : ∀ a, a < 6 → ∀ b, b < 6 → a ≠ b → (TX0 a).2.1 ≠ (TX0 b).2.1 := by decide +kernel
theorem tyX0_ok : ∀ k, k < 6 → parseFieldDescriptor (TX0 k).2.2.1 = some (tyX0 k) := by decide +kernel
abbrev cX0_init : ByteArray := prog_2_method_1_code
def yX0_init : MethodName := ⟨RX0, "<init>", "()V"⟩
abbrev cX0_mostTraders : ByteArray := prog_2_method_2_code
def yX0_mostTraders : MethodName := ⟨RX0, "mostTraders", "(LBarterRings$Market;I)I"⟩
abbrev cX0_readTakers : ByteArray := prog_2_method_3_code
def yX0_readTakers : MethodName := ⟨RX0, "readTakers", "(LBarterRings$Market;)V"⟩
abbrev cX0_findChains : ByteArray := prog_2_method_4_code
def yX0_findChains : MethodName := ⟨RX0, "findChains", "()V"⟩
abbrev cX0_findCircles : ByteArray := prog_2_method_5_code
def yX0_findCircles : MethodName := ⟨RX0, "findCircles", "(I)V"⟩
abbrev cX0_findBarters : ByteArray := prog_2_method_6_code
def yX0_findBarters : MethodName := ⟨RX0, "findBarters", "()I"⟩
abbrev cX0_isMadeOfCircles : ByteArray := prog_2_method_7_code
def yX0_isMadeOfCircles : MethodName := ⟨RX0, "isMadeOfCircles", "(I)Z"⟩
abbrev cX0_leastOf : ByteArray := prog_2_method_8_code
def yX0_leastOf : MethodName := ⟨RX0, "leastOf", "(I)I"⟩
def RX1 : String := "BarterRings$History"
def TX1 : u_T := fun k => match k with
  | 0 => ("BarterRings$History", "held", "I", false)
  | 1 => ("BarterRings$History", "rows", "[LBarterRings$Market;", true)
  | _ => ("BarterRings$History", "newest", "I", false)
def tyX1 : Nat → FieldType := fun k => match k with
  | 0 => .int
  | 1 => .array (.object "BarterRings$Market")
  | _ => .int
theorem nmX1 : ∀ a, a < 3 → ∀ b, b < 3 → a ≠ b → (TX1 a).2.1 ≠ (TX1 b).2.1 := by decide +kernel
theorem tyX1_ok : ∀ k, k < 3 → parseFieldDescriptor (TX1 k).2.2.1 = some (tyX1 k) := by decide +kernel
abbrev cX1_init : ByteArray := prog_3_method_1_code
def yX1_init : MethodName := ⟨RX1, "<init>", "()V"⟩
abbrev cX1_record : ByteArray := prog_3_method_2_code
def yX1_record : MethodName := ⟨RX1, "record", "(LBarterRings$Market;)V"⟩
abbrev cX1_takeBack : ByteArray := prog_3_method_3_code
def yX1_takeBack : MethodName := ⟨RX1, "takeBack", "(LBarterRings$Market;)V"⟩
abbrev cX1_rowAt : ByteArray := prog_3_method_4_code
def yX1_rowAt : MethodName := ⟨RX1, "rowAt", "(I)LBarterRings$Market;"⟩
def RX2 : String := "BarterRings$Market"
def TX2 : u_T := fun k => match k with
  | 0 => ("BarterRings$Market", "makes", "[I", true)
  | 1 => ("BarterRings$Market", "wants", "[I", true)
  | 2 => ("BarterRings$Market", "ware", "[I", true)
  | 3 => ("BarterRings$Market", "age", "[I", true)
  | 4 => ("BarterRings$Market", "met", "[I", true)
  | 5 => ("BarterRings$Market", "life", "[I", true)
  | 6 => ("BarterRings$Market", "metOfKind", "[I", true)
  | 7 => ("BarterRings$Market", "size", "I", false)
  | 8 => ("BarterRings$Market", "longestCircle", "I", false)
  | 9 => ("BarterRings$Market", "day", "I", false)
  | 10 => ("BarterRings$Market", "lot", "I", false)
  | 11 => ("BarterRings$Market", "shut", "I", false)
  | 12 => ("BarterRings$Market", "thrownAway", "I", false)
  | 13 => ("BarterRings$Market", "made", "I", false)
  | 14 => ("BarterRings$Market", "calls", "I", false)
  | 15 => ("BarterRings$Market", "refused", "I", false)
  | 16 => ("BarterRings$Market", "wareBefore", "[I", true)
  | _ => ("BarterRings$Market", "ageBefore", "[I", true)
def tyX2 : Nat → FieldType := fun k => match k with
  | 0 => .array .int
  | 1 => .array .int
  | 2 => .array .int
  | 3 => .array .int
  | 4 => .array .int
  | 5 => .array .int
  | 6 => .array .int
  | 7 => .int
  | 8 => .int
  | 9 => .int
  | 10 => .int
  | 11 => .int
  | 12 => .int
  | 13 => .int
  | 14 => .int
  | 15 => .int
  | 16 => .array .int
  | _ => .array .int
theorem nmX2 : ∀ a, a < 18 → ∀ b, b < 18 → a ≠ b → (TX2 a).2.1 ≠ (TX2 b).2.1 := by decide +kernel
theorem tyX2_ok : ∀ k, k < 18 → parseFieldDescriptor (TX2 k).2.2.1 = some (tyX2 k) := by decide +kernel
abbrev cX2_init : ByteArray := prog_4_method_1_code
def yX2_init : MethodName := ⟨RX2, "<init>", "()V"⟩
abbrev cX2_copyFrom : ByteArray := prog_4_method_2_code
def yX2_copyFrom : MethodName := ⟨RX2, "copyFrom", "(LBarterRings$Market;)V"⟩
abbrev cX2_has : ByteArray := prog_4_method_3_code
def yX2_has : MethodName := ⟨RX2, "has", "(I)Z"⟩
abbrev cX2_hasBoth : ByteArray := prog_4_method_4_code
def yX2_hasBoth : MethodName := ⟨RX2, "hasBoth", "(II)Z"⟩
abbrev cX2_add : ByteArray := prog_4_method_5_code
def yX2_add : MethodName := ⟨RX2, "add", "(II)V"⟩
abbrev cX2_remove : ByteArray := prog_4_method_6_code
def yX2_remove : MethodName := ⟨RX2, "remove", "(I)V"⟩
abbrev cX2_makeWare : ByteArray := prog_4_method_7_code
def yX2_makeWare : MethodName := ⟨RX2, "makeWare", "(I)V"⟩
abbrev cX2_hasWare : ByteArray := prog_4_method_8_code
def yX2_hasWare : MethodName := ⟨RX2, "hasWare", "(I)Z"⟩
abbrev cX2_hasSoundWare : ByteArray := prog_4_method_9_code
def yX2_hasSoundWare : MethodName := ⟨RX2, "hasSoundWare", "(I)Z"⟩
abbrev cX2_daysLeft : ByteArray := prog_4_method_10_code
def yX2_daysLeft : MethodName := ⟨RX2, "daysLeft", "(I)I"⟩
abbrev cX2_wantsWareOf : ByteArray := prog_4_method_11_code
def yX2_wantsWareOf : MethodName := ⟨RX2, "wantsWareOf", "(II)Z"⟩
abbrev cX2_mayBarter : ByteArray := prog_4_method_12_code
def yX2_mayBarter : MethodName := ⟨RX2, "mayBarter", "(I)Z"⟩
abbrev cX2_canTake : ByteArray := prog_4_method_13_code
def yX2_canTake : MethodName := ⟨RX2, "canTake", "(II)Z"⟩
abbrev cX2_giversOf : ByteArray := prog_4_method_14_code
def yX2_giversOf : MethodName := ⟨RX2, "giversOf", "(I)I"⟩
abbrev cX2_numberOfTakers : ByteArray := prog_4_method_15_code
def yX2_numberOfTakers : MethodName := ⟨RX2, "numberOfTakers", "(I)I"⟩
abbrev cX2_refusal : ByteArray := prog_4_method_16_code
def yX2_refusal : MethodName := ⟨RX2, "refusal", "(II)I"⟩
abbrev cX2_barterByHand : ByteArray := prog_4_method_17_code
def yX2_barterByHand : MethodName := ⟨RX2, "barterByHand", "(II)I"⟩
abbrev cX2_doBarter : ByteArray := prog_4_method_18_code
def yX2_doBarter : MethodName := ⟨RX2, "doBarter", "([I)V"⟩
abbrev cX2_keepWares : ByteArray := prog_4_method_19_code
def yX2_keepWares : MethodName := ⟨RX2, "keepWares", "()V"⟩
abbrev cX2_takeWare : ByteArray := prog_4_method_20_code
def yX2_takeWare : MethodName := ⟨RX2, "takeWare", "(II)V"⟩
abbrev cX2_passDay : ByteArray := prog_4_method_21_code
def yX2_passDay : MethodName := ⟨RX2, "passDay", "()I"⟩
abbrev cX2_renewWare : ByteArray := prog_4_method_22_code
def yX2_renewWare : MethodName := ⟨RX2, "renewWare", "(I)V"⟩
abbrev cX2_drawLot : ByteArray := prog_4_method_23_code
def yX2_drawLot : MethodName := ⟨RX2, "drawLot", "()V"⟩
abbrev cX2_needs : ByteArray := prog_4_method_24_code
def yX2_needs : MethodName := ⟨RX2, "needs", "()I"⟩
abbrev cX2_needsMet : ByteArray := prog_4_method_25_code
def yX2_needsMet : MethodName := ⟨RX2, "needsMet", "()I"⟩
abbrev cX2_waresOfKind : ByteArray := prog_4_method_26_code
def yX2_waresOfKind : MethodName := ⟨RX2, "waresOfKind", "(I)I"⟩
abbrev cX2_soundWaresOfKind : ByteArray := prog_4_method_27_code
def yX2_soundWaresOfKind : MethodName := ⟨RX2, "soundWaresOfKind", "(I)I"⟩
abbrev cX2_soundWares : ByteArray := prog_4_method_28_code
def yX2_soundWares : MethodName := ⟨RX2, "soundWares", "()I"⟩
abbrev cX2_spoiltWares : ByteArray := prog_4_method_29_code
def yX2_spoiltWares : MethodName := ⟨RX2, "spoiltWares", "()I"⟩
abbrev cX2_daysLeftOfAll : ByteArray := prog_4_method_30_code
def yX2_daysLeftOfAll : MethodName := ⟨RX2, "daysLeftOfAll", "()I"⟩
abbrev cX2_tradersWhoWant : ByteArray := prog_4_method_31_code
def yX2_tradersWhoWant : MethodName := ⟨RX2, "tradersWhoWant", "(I)I"⟩
abbrev cX2_tradersWhoMake : ByteArray := prog_4_method_32_code
def yX2_tradersWhoMake : MethodName := ⟨RX2, "tradersWhoMake", "(I)I"⟩
abbrev cX2_stuckTraders : ByteArray := prog_4_method_33_code
def yX2_stuckTraders : MethodName := ⟨RX2, "stuckTraders", "()I"⟩
def RX3 : String := "BarterRings$Pad"
def TX3 : u_T := fun k => match k with
  | 0 => ("BarterRings$Pad", "length", "I", false)
  | _ => ("BarterRings$Pad", "signs", "[C", true)
def tyX3 : Nat → FieldType := fun k => match k with
  | 0 => .int
  | _ => .array .char
theorem nmX3 : ∀ a, a < 2 → ∀ b, b < 2 → a ≠ b → (TX3 a).2.1 ≠ (TX3 b).2.1 := by decide +kernel
theorem tyX3_ok : ∀ k, k < 2 → parseFieldDescriptor (TX3 k).2.2.1 = some (tyX3 k) := by decide +kernel
abbrev cX3_init : ByteArray := prog_5_method_1_code
def yX3_init : MethodName := ⟨RX3, "<init>", "()V"⟩
abbrev cX3_put : ByteArray := prog_5_method_2_code
def yX3_put : MethodName := ⟨RX3, "put", "(C)V"⟩
abbrev cX3_signAt : ByteArray := prog_5_method_3_code
def yX3_signAt : MethodName := ⟨RX3, "signAt", "(I)C"⟩
abbrev cX3_digitAt : ByteArray := prog_5_method_4_code
def yX3_digitAt : MethodName := ⟨RX3, "digitAt", "(I)I"⟩
abbrev cX3_faultAsTraders : ByteArray := prog_5_method_5_code
def yX3_faultAsTraders : MethodName := ⟨RX3, "faultAsTraders", "()I"⟩
abbrev cX3_faultAsDays : ByteArray := prog_5_method_6_code
def yX3_faultAsDays : MethodName := ⟨RX3, "faultAsDays", "()I"⟩
abbrev cX3_numberOfTraders : ByteArray := prog_5_method_7_code
def yX3_numberOfTraders : MethodName := ⟨RX3, "numberOfTraders", "()I"⟩
abbrev cX3_wantsBehind : ByteArray := prog_5_method_8_code
def yX3_wantsBehind : MethodName := ⟨RX3, "wantsBehind", "(I)I"⟩
def RX4 : String := "BarterRings$TakerSearch"
def TX4 : u_T := fun k => match k with
  | 0 => ("BarterRings$TakerSearch", "bestGiverOf", "[I", true)
  | 1 => ("BarterRings$TakerSearch", "giversOf", "[I", true)
  | 2 => ("BarterRings$TakerSearch", "giverOf", "[I", true)
  | 3 => ("BarterRings$TakerSearch", "size", "I", false)
  | 4 => ("BarterRings$TakerSearch", "longestCircle", "I", false)
  | _ => ("BarterRings$TakerSearch", "most", "I", false)
def tyX4 : Nat → FieldType := fun k => match k with
  | 0 => .array .int
  | 1 => .array .int
  | 2 => .array .int
  | 3 => .int
  | 4 => .int
  | _ => .int
theorem nmX4 : ∀ a, a < 6 → ∀ b, b < 6 → a ≠ b → (TX4 a).2.1 ≠ (TX4 b).2.1 := by decide +kernel
theorem tyX4_ok : ∀ k, k < 6 → parseFieldDescriptor (TX4 k).2.2.1 = some (tyX4 k) := by decide +kernel
abbrev cX4_init : ByteArray := prog_6_method_1_code
def yX4_init : MethodName := ⟨RX4, "<init>", "()V"⟩
abbrev cX4_findBest : ByteArray := prog_6_method_2_code
def yX4_findBest : MethodName := ⟨RX4, "findBest", "(LBarterRings$Market;)I"⟩
abbrev cX4_chooseGiver : ByteArray := prog_6_method_3_code
def yX4_chooseGiver : MethodName := ⟨RX4, "chooseGiver", "(III)V"⟩
abbrev cX4_goOn : ByteArray := prog_6_method_4_code
def yX4_goOn : MethodName := ⟨RX4, "goOn", "(IIII)V"⟩
abbrev cX4_fitsInCircle : ByteArray := prog_6_method_5_code
def yX4_fitsInCircle : MethodName := ⟨RX4, "fitsInCircle", "(II)Z"⟩
def RX5 : String := "BarterRings"
def TX5 : u_T := fun k => match k with
  | 0 => ("BarterRings", "market", "LBarterRings$Market;", true)
  | 1 => ("BarterRings", "trial", "LBarterRings$Market;", true)
  | 2 => ("BarterRings", "snapshot", "LBarterRings$Market;", true)
  | 3 => ("BarterRings", "history", "LBarterRings$History;", true)
  | 4 => ("BarterRings", "pad", "LBarterRings$Pad;", true)
  | 5 => ("BarterRings", "circleSets", "LBarterRings$CircleSets;", true)
  | 6 => ("BarterRings", "takerSearch", "LBarterRings$TakerSearch;", true)
  | 7 => ("BarterRings", "hasSnapshot", "Z", false)
  | 8 => ("BarterRings", "stopReason", "I", false)
  | _ => ("BarterRings", "stopPlace", "I", false)
def tyX5 : Nat → FieldType := fun k => match k with
  | 0 => .object "BarterRings$Market"
  | 1 => .object "BarterRings$Market"
  | 2 => .object "BarterRings$Market"
  | 3 => .object "BarterRings$History"
  | 4 => .object "BarterRings$Pad"
  | 5 => .object "BarterRings$CircleSets"
  | 6 => .object "BarterRings$TakerSearch"
  | 7 => .boolean
  | 8 => .int
  | _ => .int
theorem nmX5 : ∀ a, a < 10 → ∀ b, b < 10 → a ≠ b → (TX5 a).2.1 ≠ (TX5 b).2.1 := by decide +kernel
theorem tyX5_ok : ∀ k, k < 10 → parseFieldDescriptor (TX5 k).2.2.1 = some (tyX5 k) := by decide +kernel
abbrev cX5_init : ByteArray := prog_1_method_1_code
def yX5_init : MethodName := ⟨RX5, "<init>", "()V"⟩
abbrev cX5_come : ByteArray := prog_1_method_2_code
def yX5_come : MethodName := ⟨RX5, "come", "(II)I"⟩
abbrev cX5_go : ByteArray := prog_1_method_3_code
def yX5_go : MethodName := ⟨RX5, "go", "(I)I"⟩
abbrev cX5_want : ByteArray := prog_1_method_4_code
def yX5_want : MethodName := ⟨RX5, "want", "(II)I"⟩
abbrev cX5_life : ByteArray := prog_1_method_5_code
def yX5_life : MethodName := ⟨RX5, "life", "(II)I"⟩
abbrev cX5_circle : ByteArray := prog_1_method_6_code
def yX5_circle : MethodName := ⟨RX5, "circle", "(I)I"⟩
abbrev cX5_lot : ByteArray := prog_1_method_7_code
def yX5_lot : MethodName := ⟨RX5, "lot", "(I)I"⟩
abbrev cX5_barter : ByteArray := prog_1_method_8_code
def yX5_barter : MethodName := ⟨RX5, "barter", "(II)I"⟩
abbrev cX5_call : ByteArray := prog_1_method_9_code
def yX5_call : MethodName := ⟨RX5, "call", "()I"⟩
abbrev cX5_day : ByteArray := prog_1_method_10_code
def yX5_day : MethodName := ⟨RX5, "day", "()I"⟩
abbrev cX5_append : ByteArray := prog_1_method_11_code
def yX5_append : MethodName := ⟨RX5, "append", "(I)I"⟩
abbrev cX5_clear : ByteArray := prog_1_method_12_code
def yX5_clear : MethodName := ⟨RX5, "clear", "()I"⟩
abbrev cX5_fault : ByteArray := prog_1_method_13_code
def yX5_fault : MethodName := ⟨RX5, "fault", "(I)I"⟩
abbrev cX5_traders : ByteArray := prog_1_method_14_code
def yX5_traders : MethodName := ⟨RX5, "traders", "()I"⟩
abbrev cX5_days : ByteArray := prog_1_method_15_code
def yX5_days : MethodName := ⟨RX5, "days", "()I"⟩
abbrev cX5_why : ByteArray := prog_1_method_16_code
def yX5_why : MethodName := ⟨RX5, "why", "(I)I"⟩
abbrev cX5_trader : ByteArray := prog_1_method_17_code
def yX5_trader : MethodName := ⟨RX5, "trader", "(II)I"⟩
abbrev cX5_can : ByteArray := prog_1_method_18_code
def yX5_can : MethodName := ⟨RX5, "can", "(II)I"⟩
abbrev cX5_whyNot : ByteArray := prog_1_method_19_code
def yX5_whyNot : MethodName := ⟨RX5, "whyNot", "(II)I"⟩
abbrev cX5_most : ByteArray := prog_1_method_20_code
def yX5_most : MethodName := ⟨RX5, "most", "(I)I"⟩
abbrev cX5_kind : ByteArray := prog_1_method_21_code
def yX5_kind : MethodName := ⟨RX5, "kind", "(II)I"⟩
abbrev cX5_count : ByteArray := prog_1_method_22_code
def yX5_count : MethodName := ⟨RX5, "count", "(I)I"⟩
abbrev cX5_freshness : ByteArray := prog_1_method_23_code
def yX5_freshness : MethodName := ⟨RX5, "freshness", "()D"⟩
abbrev cX5_ifCircle : ByteArray := prog_1_method_24_code
def yX5_ifCircle : MethodName := ⟨RX5, "ifCircle", "(I)I"⟩
abbrev cX5_ifDays : ByteArray := prog_1_method_25_code
def yX5_ifDays : MethodName := ⟨RX5, "ifDays", "(II)I"⟩
abbrev cX5_bestWant : ByteArray := prog_1_method_26_code
def yX5_bestWant : MethodName := ⟨RX5, "bestWant", "(I)I"⟩
abbrev cX5_undo : ByteArray := prog_1_method_27_code
def yX5_undo : MethodName := ⟨RX5, "undo", "()I"⟩
abbrev cX5_save : ByteArray := prog_1_method_28_code
def yX5_save : MethodName := ⟨RX5, "save", "()I"⟩
abbrev cX5_restore : ByteArray := prog_1_method_29_code
def yX5_restore : MethodName := ⟨RX5, "restore", "()I"⟩
abbrev cX5_isKind : ByteArray := prog_1_method_30_code
def yX5_isKind : MethodName := ⟨RX5, "isKind", "(I)Z"⟩
abbrev cX5_isSetOfKinds : ByteArray := prog_1_method_31_code
def yX5_isSetOfKinds : MethodName := ⟨RX5, "isSetOfKinds", "(I)Z"⟩
abbrev cX5_isCircleLength : ByteArray := prog_1_method_32_code
def yX5_isCircleLength : MethodName := ⟨RX5, "isCircleLength", "(I)Z"⟩
abbrev cX5_holds : ByteArray := prog_1_method_33_code
def yX5_holds : MethodName := ⟨RX5, "holds", "(II)Z"⟩
abbrev cX5_with : ByteArray := prog_1_method_34_code
def yX5_with : MethodName := ⟨RX5, "with", "(II)I"⟩
abbrev cX5_callMarket : ByteArray := prog_1_method_35_code
def yX5_callMarket : MethodName := ⟨RX5, "callMarket", "(LBarterRings$Market;)I"⟩
abbrev cX5_bestGiver : ByteArray := prog_1_method_36_code
def yX5_bestGiver : MethodName := ⟨RX5, "bestGiver", "(I)I"⟩
abbrev cX5_doDaysOfPad : ByteArray := prog_1_method_37_code
def yX5_doDaysOfPad : MethodName := ⟨RX5, "doDaysOfPad", "()V"⟩
abbrev cX5_doBarterOfPad : ByteArray := prog_1_method_38_code
def yX5_doBarterOfPad : MethodName := ⟨RX5, "doBarterOfPad", "(I)V"⟩
def RX6 : String := "BarterRingsModel"
def TX6 : u_T := fun k => match k with
  | 0 => ("BarterRingsModel", "s", "[I", true)
  | 1 => ("BarterRingsModel", "aside", "[I", true)
  | 2 => ("BarterRingsModel", "history", "[I", true)
  | 3 => ("BarterRingsModel", "kept", "I", false)
  | 4 => ("BarterRingsModel", "snapshot", "[I", true)
  | 5 => ("BarterRingsModel", "isSaved", "Z", false)
  | 6 => ("BarterRingsModel", "pad", "[I", true)
  | 7 => ("BarterRingsModel", "length", "I", false)
  | 8 => ("BarterRingsModel", "stopBy", "I", false)
  | 9 => ("BarterRingsModel", "stopAt", "I", false)
  | 10 => ("BarterRingsModel", "best", "[I", true)
  | 11 => ("BarterRingsModel", "bestMany", "I", false)
  | 12 => ("BarterRingsModel", "tried", "[I", true)
  | 13 => ("BarterRingsModel", "begin", "[I", true)
  | 14 => ("BarterRingsModel", "wares", "[I", true)
  | 15 => ("BarterRingsModel", "ages", "[I", true)
  | _ => ("BarterRingsModel", "told", "I", false)
def tyX6 : Nat → FieldType := fun k => match k with
  | 0 => .array .int
  | 1 => .array .int
  | 2 => .array .int
  | 3 => .int
  | 4 => .array .int
  | 5 => .boolean
  | 6 => .array .int
  | 7 => .int
  | 8 => .int
  | 9 => .int
  | 10 => .array .int
  | 11 => .int
  | 12 => .array .int
  | 13 => .array .int
  | 14 => .array .int
  | 15 => .array .int
  | _ => .int
theorem nmX6 : ∀ a, a < 17 → ∀ b, b < 17 → a ≠ b → (TX6 a).2.1 ≠ (TX6 b).2.1 := by decide +kernel
theorem tyX6_ok : ∀ k, k < 17 → parseFieldDescriptor (TX6 k).2.2.1 = some (tyX6 k) := by decide +kernel
abbrev cX6_init : ByteArray := prog_8_method_1_code
def yX6_init : MethodName := ⟨RX6, "<init>", "()V"⟩
abbrev cX6_in : ByteArray := prog_8_method_3_code
def yX6_in : MethodName := ⟨RX6, "in", "(III)Z"⟩
abbrev cX6_isTrader : ByteArray := prog_8_method_4_code
def yX6_isTrader : MethodName := ⟨RX6, "isTrader", "(I)Z"⟩
abbrev cX6_arePair : ByteArray := prog_8_method_5_code
def yX6_arePair : MethodName := ⟨RX6, "arePair", "(II)Z"⟩
abbrev cX6_isKind : ByteArray := prog_8_method_6_code
def yX6_isKind : MethodName := ⟨RX6, "isKind", "(I)Z"⟩
abbrev cX6_ofKind : ByteArray := prog_8_method_7_code
def yX6_ofKind : MethodName := ⟨RX6, "ofKind", "(II)I"⟩
abbrev cX6_at : ByteArray := prog_8_method_8_code
def yX6_at : MethodName := ⟨RX6, "at", "(II)I"⟩
abbrev cX6_of : ByteArray := prog_8_method_9_code
def yX6_of : MethodName := ⟨RX6, "of", "(II)I"⟩
abbrev cX6_bits : ByteArray := prog_8_method_10_code
def yX6_bits : MethodName := ⟨RX6, "bits", "(I)I"⟩
abbrev cX6_record : ByteArray := prog_8_method_11_code
def yX6_record : MethodName := ⟨RX6, "record", "()V"⟩
abbrev cX6_putAside : ByteArray := prog_8_method_12_code
def yX6_putAside : MethodName := ⟨RX6, "putAside", "()V"⟩
abbrev cX6_putBack : ByteArray := prog_8_method_13_code
def yX6_putBack : MethodName := ⟨RX6, "putBack", "()V"⟩
abbrev cX6_daysLeft : ByteArray := prog_8_method_14_code
def yX6_daysLeft : MethodName := ⟨RX6, "daysLeft", "(I)I"⟩
abbrev cX6_wants : ByteArray := prog_8_method_15_code
def yX6_wants : MethodName := ⟨RX6, "wants", "(II)Z"⟩
abbrev cX6_takes : ByteArray := prog_8_method_16_code
def yX6_takes : MethodName := ⟨RX6, "takes", "(II)Z"⟩
abbrev cX6_areCircles : ByteArray := prog_8_method_17_code
def yX6_areCircles : MethodName := ⟨RX6, "areCircles", "(I)Z"⟩
abbrev cX6_keepsBest : ByteArray := prog_8_method_18_code
def yX6_keepsBest : MethodName := ⟨RX6, "keepsBest", "(I)V"⟩
abbrev cX6_may : ByteArray := prog_8_method_19_code
def yX6_may : MethodName := ⟨RX6, "may", "(III)Z"⟩
abbrev cX6_layBest : ByteArray := prog_8_method_20_code
def yX6_layBest : MethodName := ⟨RX6, "layBest", "(I)V"⟩
abbrev cX6_gets : ByteArray := prog_8_method_21_code
def yX6_gets : MethodName := ⟨RX6, "gets", "(III)V"⟩
abbrev cX6_looksAtWares : ByteArray := prog_8_method_22_code
def yX6_looksAtWares : MethodName := ⟨RX6, "looksAtWares", "()V"⟩
abbrev cX6_calls : ByteArray := prog_8_method_23_code
def yX6_calls : MethodName := ⟨RX6, "calls", "()I"⟩
abbrev cX6_reason : ByteArray := prog_8_method_24_code
def yX6_reason : MethodName := ⟨RX6, "reason", "(II)I"⟩
abbrev cX6_barters : ByteArray := prog_8_method_25_code
def yX6_barters : MethodName := ⟨RX6, "barters", "(II)I"⟩
abbrev cX6_passes : ByteArray := prog_8_method_26_code
def yX6_passes : MethodName := ⟨RX6, "passes", "()I"⟩
abbrev cX6_comes : ByteArray := prog_8_method_27_code
def yX6_comes : MethodName := ⟨RX6, "comes", "(II)I"⟩
abbrev cX6_come : ByteArray := prog_8_method_28_code
def yX6_come : MethodName := ⟨RX6, "come", "(II)I"⟩
abbrev cX6_go : ByteArray := prog_8_method_29_code
def yX6_go : MethodName := ⟨RX6, "go", "(I)I"⟩
abbrev cX6_lays : ByteArray := prog_8_method_30_code
def yX6_lays : MethodName := ⟨RX6, "lays", "(II)I"⟩
abbrev cX6_want : ByteArray := prog_8_method_31_code
def yX6_want : MethodName := ⟨RX6, "want", "(II)I"⟩
abbrev cX6_life : ByteArray := prog_8_method_32_code
def yX6_life : MethodName := ⟨RX6, "life", "(II)I"⟩
abbrev cX6_circle : ByteArray := prog_8_method_33_code
def yX6_circle : MethodName := ⟨RX6, "circle", "(I)I"⟩
abbrev cX6_lot : ByteArray := prog_8_method_34_code
def yX6_lot : MethodName := ⟨RX6, "lot", "(I)I"⟩
abbrev cX6_barter : ByteArray := prog_8_method_35_code
def yX6_barter : MethodName := ⟨RX6, "barter", "(II)I"⟩
abbrev cX6_call : ByteArray := prog_8_method_36_code
def yX6_call : MethodName := ⟨RX6, "call", "()I"⟩
abbrev cX6_day : ByteArray := prog_8_method_37_code
def yX6_day : MethodName := ⟨RX6, "day", "()I"⟩
abbrev cX6_append : ByteArray := prog_8_method_38_code
def yX6_append : MethodName := ⟨RX6, "append", "(I)I"⟩
abbrev cX6_clear : ByteArray := prog_8_method_39_code
def yX6_clear : MethodName := ⟨RX6, "clear", "()I"⟩
abbrev cX6_next : ByteArray := prog_8_method_40_code
def yX6_next : MethodName := ⟨RX6, "next", "(I)I"⟩
abbrev cX6_behindTrader : ByteArray := prog_8_method_41_code
def yX6_behindTrader : MethodName := ⟨RX6, "behindTrader", "(I)I"⟩
abbrev cX6_faultOfTraders : ByteArray := prog_8_method_42_code
def yX6_faultOfTraders : MethodName := ⟨RX6, "faultOfTraders", "()I"⟩
abbrev cX6_faultOfDays : ByteArray := prog_8_method_43_code
def yX6_faultOfDays : MethodName := ⟨RX6, "faultOfDays", "()I"⟩
abbrev cX6_fault : ByteArray := prog_8_method_44_code
def yX6_fault : MethodName := ⟨RX6, "fault", "(I)I"⟩
abbrev cX6_traders : ByteArray := prog_8_method_45_code
def yX6_traders : MethodName := ⟨RX6, "traders", "()I"⟩
abbrev cX6_isDone : ByteArray := prog_8_method_46_code
def yX6_isDone : MethodName := ⟨RX6, "isDone", "(I)Z"⟩
abbrev cX6_days : ByteArray := prog_8_method_47_code
def yX6_days : MethodName := ⟨RX6, "days", "()I"⟩
abbrev cX6_why : ByteArray := prog_8_method_48_code
def yX6_why : MethodName := ⟨RX6, "why", "(I)I"⟩
abbrev cX6_takesFrom : ByteArray := prog_8_method_49_code
def yX6_takesFrom : MethodName := ⟨RX6, "takesFrom", "(I)I"⟩
abbrev cX6_givesTo : ByteArray := prog_8_method_50_code
def yX6_givesTo : MethodName := ⟨RX6, "givesTo", "(I)I"⟩
abbrev cX6_bestFor : ByteArray := prog_8_method_51_code
def yX6_bestFor : MethodName := ⟨RX6, "bestFor", "(I)I"⟩
abbrev cX6_trader : ByteArray := prog_8_method_52_code
def yX6_trader : MethodName := ⟨RX6, "trader", "(II)I"⟩
abbrev cX6_can : ByteArray := prog_8_method_53_code
def yX6_can : MethodName := ⟨RX6, "can", "(II)I"⟩
abbrev cX6_whyNot : ByteArray := prog_8_method_54_code
def yX6_whyNot : MethodName := ⟨RX6, "whyNot", "(II)I"⟩
abbrev cX6_mostWith : ByteArray := prog_8_method_55_code
def yX6_mostWith : MethodName := ⟨RX6, "mostWith", "(I)I"⟩
abbrev cX6_most : ByteArray := prog_8_method_56_code
def yX6_most : MethodName := ⟨RX6, "most", "(I)I"⟩
abbrev cX6_sumOf : ByteArray := prog_8_method_57_code
def yX6_sumOf : MethodName := ⟨RX6, "sumOf", "(II)I"⟩
abbrev cX6_kind : ByteArray := prog_8_method_58_code
def yX6_kind : MethodName := ⟨RX6, "kind", "(II)I"⟩
abbrev cX6_needs : ByteArray := prog_8_method_59_code
def yX6_needs : MethodName := ⟨RX6, "needs", "()I"⟩
abbrev cX6_spoilt : ByteArray := prog_8_method_60_code
def yX6_spoilt : MethodName := ⟨RX6, "spoilt", "()I"⟩
abbrev cX6_stuck : ByteArray := prog_8_method_61_code
def yX6_stuck : MethodName := ⟨RX6, "stuck", "()I"⟩
abbrev cX6_count : ByteArray := prog_8_method_62_code
def yX6_count : MethodName := ⟨RX6, "count", "(I)I"⟩
abbrev cX6_freshness : ByteArray := prog_8_method_63_code
def yX6_freshness : MethodName := ⟨RX6, "freshness", "()D"⟩
abbrev cX6_ifCircle : ByteArray := prog_8_method_64_code
def yX6_ifCircle : MethodName := ⟨RX6, "ifCircle", "(I)I"⟩
abbrev cX6_ifDays : ByteArray := prog_8_method_65_code
def yX6_ifDays : MethodName := ⟨RX6, "ifDays", "(II)I"⟩
abbrev cX6_bestWant : ByteArray := prog_8_method_66_code
def yX6_bestWant : MethodName := ⟨RX6, "bestWant", "(I)I"⟩
abbrev cX6_undo : ByteArray := prog_8_method_67_code
def yX6_undo : MethodName := ⟨RX6, "undo", "()I"⟩
abbrev cX6_save : ByteArray := prog_8_method_68_code
def yX6_save : MethodName := ⟨RX6, "save", "()I"⟩
abbrev cX6_restore : ByteArray := prog_8_method_69_code
def yX6_restore : MethodName := ⟨RX6, "restore", "()I"⟩
def RJ6 : String := "java/lang/Integer"
abbrev cJ6_bitCount_0f7a4 : ByteArray := prog_9_method_49_code
def yJ6_bitCount_0f7a4 : MethodName := ⟨RJ6, "bitCount", "(I)I"⟩
def RJ9 : String := "java/lang/Math"
abbrev cJ9_max_7cf53 : ByteArray := prog_10_method_65_code
def yJ9_max_7cf53 : MethodName := ⟨RJ9, "max", "(II)I"⟩
abbrev cJ9_min_7cf53 : ByteArray := prog_10_method_69_code
def yJ9_min_7cf53 : MethodName := ⟨RJ9, "min", "(II)I"⟩
def RJ10 : String := "java/lang/System"
def RJ7 : String := "java/util/Arrays"
abbrev cJ7_fill_53178 : ByteArray := prog_12_method_103_code
def yJ7_fill_53178 : MethodName := ⟨RJ7, "fill", "([II)V"⟩
def RL : String := "BarterRingsLaw"
abbrev cL_law : ByteArray := code
def yL_law : MethodName := ⟨RL, "law", "([I)Z"⟩
abbrev vwCl : List vw_C := [(RX0, TX0, 6), (RX1, TX1, 3), (RX2, TX2, 18), (RX3, TX3, 2), (RX4, TX4, 6), (RX5, TX5, 10), (RX6, TX6, 17)]
end
section
def WA : List Cond := lw_tbl.filter goodWord
/-! the abstract machine: cells by number, references as numbers; X says that the machine goes from here to the method's end -/
abbrev cG : Type := (Nat → ClassId) × (Nat → Nat → Nat) × (Nat → ClassId)
abbrev Md : Type := ByteArray × MethodName × Nat × Option FieldType
abbrev AC : Type := (Nat × List Value) ⊕ ((Nat × List Int32) ⊕ List (Option Nat))
def scrId : Nat := 4294967296
def cv (b : Nat) (ad : List Nat) : Value → Value
  | .ref k => .ref (if k = scrId then b else ad.getD k 0)
  | v => v
def cvc (G : cG) (b : Nat) (ad : List Nat) : AC → va_E
  | .inl (ci, fs) => .inr (ci, fs.map (cv b ad))
  | .inr (.inl (t, xs)) => .inl (G.2.2 t, xs.length, .inl (fun j => xs.getD j 0))
  | .inr (.inr rs) => .inl (G.2.2 3, rs.length, .inr (.inr (.inr (.inr (fun j => (rs.getD j none).map (fun k => ad.getD k 0))))))
def csize : AC → Nat
  | .inl (_, fs) => fs.length
  | .inr (.inl (_, xs)) => xs.length
  | .inr (.inr rs) => rs.length
def csz (AH : List AC) : Nat := (AH.map csize).sum
def wsl (G : cG) (b : Nat) (ad : List Nat) (AH : List AC) : va_W := AH.mapIdx (fun k c => (ad.getD k 0, cvc G b ad c))
def tysG (G : cG) : List (ClassId × FieldType) := [(G.2.2 0, .int), (G.2.2 1, .boolean), (G.2.2 2, .char), (G.2.2 3, .object "BarterRings$Market")]
def tyN : Nat → FieldType
  | 0 => .int
  | 1 => .boolean
  | 2 => .char
  | _ => .object "BarterRings$Market"
def nests : List (String × Nat × MethodName) := [(RX5, 31, yX3_init), (RX5, 38, yX0_init), (RX5, 45, yX4_init), (RX2, 87, yX5_isKind), (RX2, 103, yX5_holds), (RX2, 119, yX5_with), (RX4, 57, yX5_holds), (RX4, 64, yX5_with), (RX3, 27, yX5_with), (RX0, 69, yX5_holds), (RX0, 73, yX5_with)]
def aK (G : cG) (U : State) : Prop := va_K (G.1, G.2.1) vwCl (tysG G) U ∧ (∀ q ∈ nests, va_Nw (.methodLinkNest q.1 q.2.1 q.2.2 "BarterRings") U) ∧ va_AO "BarterRings$Market" U
def aW (G : cG) (b : Nat) (ad : List Nat) (AH : List AC) (H : Heap) : Prop := ad.length = AH.length ∧ va_P (G.1, G.2.1) vwCl (wsl G b ad AH) H ∧ va_D (fun _ => True) (wsl G b ad AH)
def okv (n : Nat) : Value → Bool
  | .ref k => decide (k < n) || decide (k = scrId)
  | _ => true
def okc (n : Nat) : AC → Bool
  | .inl (_, fs) => fs.all (okv n)
  | .inr (.inl _) => true
  | .inr (.inr rs) => rs.all (fun o => match o with | some k => decide (k < n) | none => true)
def okH (AH : List AC) : Bool := AH.all (okc AH.length)
def okL (n : Nat) (ls : List (Option Value)) : Bool := ls.all (fun o => match o with | some v => okv n v | none => true)
def lsOK (lsA : Array Slot) (nL b : Nat) (ad : List Nat) (ls : List (Option Value)) : Prop := lsA.size = nL ∧ lv_wf lsA ∧ ∀ (i : Nat) (v : Value), ls[i]? = some (some v) → lsA[i]? = some (.val (cv b ad v))
def lent (n : Nat) (as : List Value) : List (Option Value) := as.map some ++ List.replicate (n - as.length) none
def Ends (μ : Md) (pc : Nat) (st : List Value) (r : Option Value) : Prop :=
  (decode μ.1 pc = .ok (.return_, 1) ∧ st = [] ∧ r = none ∧ μ.2.2.2 = none) ∨
  (∃ (v : Int32) (ty : FieldType), decode μ.1 pc = .ok (.ireturn, 1) ∧ st = [.int v] ∧ r = some (.int v) ∧ μ.2.2.2 = some ty ∧ narrow ty (.int v) = .int v) ∨
  (∃ v : UInt64, decode μ.1 pc = .ok (.dreturn, 1) ∧ st = [.double v] ∧ r = some (.double v) ∧ μ.2.2.2 = some .double) ∨
  (∃ (k : Nat) (C : String), decode μ.1 pc = .ok (.areturn, 1) ∧ st = [.ref k] ∧ r = some (.ref k) ∧ μ.2.2.2 = some (.object C))
abbrev cS : Type := Option (Nat × (Nat → Int32))
def scOK (sc : cS) (b : Nat) (s : State) (A : Nat → Prop) (H0 : Heap) : Prop := match sc with
  | none => True
  | some (L, xs) => va_X b L xs s H0 ∧ b < H0.size ∧ ¬ A b
def Cx (sc : cS) (G : cG) (μ : Md) (d : Nat) (ls : List (Option Value)) (AH : List AC) (r : Option Value) (AH' : List AC) (p : Program) (l : Launch) (e : Env) (R : Room) (s : State) (m : MethodId) (args : Array Value) (below : List Frame) (meth : Method) (c : Code) (H : Heap) (locs : List Loc) (cells slots : Nat) (Q : State → Prop) (lsA : Array Slot) (b : Nat) (ad : List Nat) (A : Nat → Prop) (H0 : Heap) (n0 s0 : Nat) : Prop :=
  (p.tables.exec = Jvm.exec ∧ c.code = μ.1 ∧ c.maxLocals = μ.2.2.1 ∧ s.vm.findClass μ.2.1.cls = some m.cls ∧ (∀ w ∈ WA, w.before args s = true) ∧ (μ.2.1.name = "<init>" → meth.name = "<init>")) ∧
  lsOK lsA μ.2.2.1 b ad ls ∧ aW G b ad AH H ∧ (aK G s ∧ scOK sc b s A H0) ∧ (va_S A H0 H locs ∧ (∀ q, H0.size ≤ q → A q) ∧ ∀ x ∈ ad, A x) ∧
  (d ≤ R.frames ∧ 40 * d ≤ R.locals) ∧ (cells + n0 = AH.length ∧ slots + s0 = csz AH ∧ AH'.length ≤ R.cells + n0 ∧ csz AH' ≤ R.slots + s0) ∧
  (∀ (pc : Nat) (lsB : Array Slot) (st : List Value) (ex : List Nat) (H' : Heap) (locs' : List Loc) (cells' slots' : Nat), Ends μ pc st r → aW G b (ad ++ ex) AH' H' → va_S A H0 H' locs' → (∀ x ∈ ad ++ ex, A x) → cells' + n0 = AH'.length → slots' + s0 = csz AH' →
    W p l e R s m args below meth c H' locs' cells' slots' Q (F0 m pc lsB (st.map (cv b (ad ++ ex)))))
def X (sc : cS) (d : Nat) (μ : Md) (pc : Nat) (ls : List (Option Value)) (st : List Value) (AH : List AC) (r : Option Value) (AH' : List AC) : Prop :=
  (AH.length ≤ AH'.length ∧ csz AH ≤ csz AH') ∧
  ∀ (G : cG) (p : Program) (l : Launch) (e : Env) (R : Room) (s : State) (m : MethodId) (args : Array Value) (below : List Frame) (meth : Method) (c : Code) (H : Heap) (locs : List Loc) (cells slots : Nat) (Q : State → Prop) (lsA : Array Slot) (b : Nat) (ad : List Nat) (A : Nat → Prop) (H0 : Heap) (n0 s0 : Nat),
    Cx sc G μ d ls AH r AH' p l e R s m args below meth c H locs cells slots Q lsA b ad A H0 n0 s0 → W p l e R s m args below meth c H locs cells slots Q (F0 m pc lsA (st.map (cv b ad)))
/-! worlds -/
theorem wsl_len {G : cG} {b : Nat} {ad : List Nat} {AH : List AC} : (wsl G b ad AH).length = AH.length := by simp [wsl]
theorem wsl_get {G : cG} {b : Nat} {ad : List Nat} {AH : List AC} {k : Nat} {c : AC} (h : AH[k]? = some c) : (wsl G b ad AH)[k]? = some (ad.getD k 0, cvc G b ad c) := by simp [wsl, h]
theorem wsl_inv {G : cG} {b : Nat} {ad : List Nat} {AH : List AC} {k : Nat} {q : Nat × va_E} (h : (wsl G b ad AH)[k]? = some q) : ∃ c, AH[k]? = some c ∧ q = (ad.getD k 0, cvc G b ad c) := by
  simp only [wsl, List.getElem?_mapIdx] at h
  cases hc : AH[k]? with
  | none => rw [hc] at h; cases h
  | some c => rw [hc] at h; exact ⟨c, rfl, (Option.some.inj h).symm⟩
theorem wsl_set {G : cG} {b : Nat} {ad : List Nat} {AH : List AC} {k : Nat} {c : AC} : (wsl G b ad AH).set k (ad.getD k 0, cvc G b ad c) = wsl G b ad (AH.set k c) := by
  apply List.ext_getElem?
  intro i
  simp only [wsl, List.getElem?_set, List.getElem?_mapIdx, List.length_mapIdx]
  by_cases h : k = i
  · subst h
    by_cases hl : k < AH.length
    · simp [hl]
    · simp [hl]
  · simp [h]
theorem cv_cat {b : Nat} {ad : List Nat} (v : Value) : (cv b ad v).category = v.category := by cases v <;> rfl
theorem cv_ext {b : Nat} {ad ex : List Nat} {v : Value} (h : okv ad.length v = true) : cv b (ad ++ ex) v = cv b ad v := by
  cases v <;> try rfl
  rename_i k
  simp only [okv, Bool.or_eq_true, decide_eq_true_eq] at h
  simp only [cv]
  by_cases hk : k = scrId
  · simp [hk]
  · have hl : k < ad.length := by
      rcases h with h | h
      · exact h
      · exact absurd h hk
    simp [hk, List.getD_eq_getElem?_getD, List.getElem?_append_left hl]
theorem cvc_ext {G : cG} {b : Nat} {ad ex : List Nat} {c : AC} (h : okc ad.length c = true) : cvc G b (ad ++ ex) c = cvc G b ad c := by
  rcases c with ⟨ci, fs⟩ | ⟨t, xs⟩ | rs
  · simp only [cvc]
    congr 2
    apply List.map_congr_left
    intro v hv
    exact cv_ext (List.all_eq_true.mp h v hv)
  · rfl
  · simp only [cvc]
    have e : (fun j : Nat => (rs.getD j none).map (fun k => (ad ++ ex).getD k 0)) = (fun j : Nat => (rs.getD j none).map (fun k => ad.getD k 0)) := by
      funext j
      cases hj : rs.getD j none with
      | none => rfl
      | some k =>
        have hm : some k ∈ rs := by
          rw [List.getD_eq_getElem?_getD] at hj
          cases hq : rs[j]? with
          | none => rw [hq] at hj; cases hj
          | some o => rw [hq] at hj; simp at hj; exact hj ▸ List.mem_of_getElem? hq
        have hl : k < ad.length := by simpa using List.all_eq_true.mp h _ hm
        simp [List.getD_eq_getElem?_getD, List.getElem?_append_left hl]
    rw [e]
theorem wsl_ext {G : cG} {b : Nat} {ad ex : List Nat} {AH : List AC} (hl : ad.length = AH.length) (h : okH AH = true) : wsl G b (ad ++ ex) AH = wsl G b ad AH := by
  apply List.ext_getElem?
  intro i
  simp only [wsl, List.getElem?_mapIdx]
  cases hc : AH[i]? with
  | none => rfl
  | some c =>
    have hi : i < ad.length := by rw [hl]; exact (List.getElem?_eq_some_iff.mp hc).1
    have ho : okc ad.length c = true := by rw [hl]; exact List.all_eq_true.mp h c (List.mem_of_getElem? hc)
    simp [cvc_ext ho, List.getD_eq_getElem?_getD, List.getElem?_append_left hi]
theorem wsl_push {G : cG} {b q : Nat} {ad : List Nat} {AH : List AC} {c : AC} (hl : ad.length = AH.length) (h : okH AH = true) : wsl G b ad AH ++ [(q, cvc G b (ad ++ [q]) c)] = wsl G b (ad ++ [q]) (AH ++ [c]) := by
  have e : wsl G b (ad ++ [q]) (AH ++ [c]) = wsl G b (ad ++ [q]) AH ++ [((ad ++ [q]).getD AH.length 0, cvc G b (ad ++ [q]) c)] := by simp [wsl, List.mapIdx_append]
  rw [e, wsl_ext hl h]
  simp [List.getD_eq_getElem?_getD, ← hl]
theorem st_ext {b : Nat} {ad ex : List Nat} {st : List Value} (h : st.all (okv ad.length) = true) : st.map (cv b (ad ++ ex)) = st.map (cv b ad) := by
  apply List.map_congr_left
  intro v hv
  exact cv_ext (List.all_eq_true.mp h v hv)
theorem lsOK_ext {lsA : Array Slot} {nL b : Nat} {ad ex : List Nat} {ls : List (Option Value)} (h : lsOK lsA nL b ad ls) (ho : okL ad.length ls = true) : lsOK lsA nL b (ad ++ ex) ls := by
  refine ⟨h.1, h.2.1, fun i v hv => ?_⟩
  rw [h.2.2 i v hv]
  have h1 : okv ad.length v = true := by simpa using List.all_eq_true.mp ho _ (List.mem_of_getElem? hv)
  rw [cv_ext h1]
theorem wsl_addr {G : cG} {b : Nat} {ad : List Nat} {AH : List AC} (hl : ad.length = AH.length) {A : Nat → Prop} (h : ∀ x ∈ ad, A x) {k : Nat} {q : Nat × va_E} (hq : (wsl G b ad AH)[k]? = some q) : A q.1 := by
  obtain ⟨c, hc, rfl⟩ := wsl_inv hq
  have hi : k < ad.length := by rw [hl]; exact (List.getElem?_eq_some_iff.mp hc).1
  apply h
  simp [List.getD_eq_getElem?_getD, hi]
theorem aW_D {G : cG} {b : Nat} {ad : List Nat} {AH : List AC} {H : Heap} {A : Nat → Prop} (h : aW G b ad AH H) (hA : ∀ x ∈ ad, A x) : va_D A (wsl G b ad AH) := ⟨h.2.2.1, fun k q hq => wsl_addr h.1 hA hq⟩
theorem aW_of {G : cG} {b : Nat} {ad : List Nat} {AH : List AC} {H : Heap} {A : Nat → Prop} (hl : ad.length = AH.length) (hP : va_P (G.1, G.2.1) vwCl (wsl G b ad AH) H) (hD : va_D A (wsl G b ad AH)) : aW G b ad AH H := ⟨hl, hP, hD.weaken (fun _ _ _ _ => trivial)⟩
theorem csz_set {AH : List AC} {k : Nat} {c c0 : AC} (h : AH[k]? = some c0) (hc : csize c = csize c0) : csz (AH.set k c) = csz AH := by
  have : (AH.set k c).map csize = AH.map csize := by
    rw [List.map_set]
    apply List.ext_getElem?
    intro i
    rw [List.getElem?_set]
    by_cases hi : k = i
    · subst hi
      obtain ⟨hl, he⟩ := List.getElem?_eq_some_iff.mp h
      simp [hl, hc, he]
    · simp [hi]
  rw [csz, csz, this]
theorem csz_push {AH : List AC} {c : AC} : csz (AH ++ [c]) = csz AH + csize c := by simp [csz]
theorem wa_good : GoodIn WA WA := fun _ hw => ⟨hw, good_of_word (List.mem_filter.mp hw).2⟩
theorem wa_t {w : Cond} (i : Nat) (h : tables_1[i]? = some w) (hg : goodWord w = true) : w ∈ WA := List.mem_filter.mpr ⟨List.mem_append_right _ (List.mem_of_getElem? h), hg⟩
theorem wa_s {w : Cond} (i : Nat) (h : (k2_sels lw_privs)[i]? = some w) (hg : goodWord w = true) : w ∈ WA := List.mem_filter.mpr ⟨List.mem_append_left _ (List.mem_of_getElem? h), hg⟩
theorem wa_cp1 : Cond.native arraycopyName ∈ WA := wa_t 246 rfl rfl
theorem wa_cp2 : Cond.static arraycopyName ∈ WA := wa_t 245 rfl rfl
theorem wa_cp3 : Cond.initialized "java/lang/System" ∈ WA := wa_t 9 rfl rfl
theorem wa_oi1 : Cond.instanceMethod Lib.objectInit ∈ WA := wa_t 18 rfl rfl
theorem wa_oi2 : Cond.code Lib.objectInit ⟨#[0xb1]⟩ 1 none ∈ WA := wa_t 19 rfl rfl
end
section
theorem x_iconst {sc : cS} {d : Nat} {μ : Md} {pc : Nat} {ls : List (Option Value)} {st : List Value} {AH AH' : List AC} {r : Option Value} {n : Int} (hd : decode μ.1 pc = .ok (.iconst n, 1)) (k : X sc d μ (pc + 1) ls (.int (Int32.ofInt n) :: st) AH r AH') : X sc d μ pc ls (st) AH r AH' := ⟨k.1, fun G p l e R s m args below meth c H locs cells slots Q lsA b ad A H0 n0 s0 hC => lv_iconst hC.1.1 hC.1.2.1 hd rfl (k.2 G p l e R s m args below meth c H locs cells slots Q lsA b ad A H0 n0 s0 hC)⟩
theorem x_bipush {sc : cS} {d : Nat} {μ : Md} {pc : Nat} {ls : List (Option Value)} {st : List Value} {AH AH' : List AC} {r : Option Value} {n : Int} (hd : decode μ.1 pc = .ok (.bipush n, 2)) (k : X sc d μ (pc + 2) ls (.int (Int8.ofInt n).toInt32 :: st) AH r AH') : X sc d μ pc ls (st) AH r AH' := ⟨k.1, fun G p l e R s m args below meth c H locs cells slots Q lsA b ad A H0 n0 s0 hC => lv_bipush hC.1.1 hC.1.2.1 hd rfl (k.2 G p l e R s m args below meth c H locs cells slots Q lsA b ad A H0 n0 s0 hC)⟩
theorem x_sipush {sc : cS} {d : Nat} {μ : Md} {pc : Nat} {ls : List (Option Value)} {st : List Value} {AH AH' : List AC} {r : Option Value} {n : Int} (hd : decode μ.1 pc = .ok (.sipush n, 3)) (k : X sc d μ (pc + 3) ls (.int (Int16.ofInt n).toInt32 :: st) AH r AH') : X sc d μ pc ls (st) AH r AH' := ⟨k.1, fun G p l e R s m args below meth c H locs cells slots Q lsA b ad A H0 n0 s0 hC => lv_sipush hC.1.1 hC.1.2.1 hd rfl (k.2 G p l e R s m args below meth c H locs cells slots Q lsA b ad A H0 n0 s0 hC)⟩
theorem x_iadd {sc : cS} {d : Nat} {μ : Md} {pc : Nat} {ls : List (Option Value)} {st : List Value} {AH AH' : List AC} {r : Option Value} {x y : Int32} (hd : decode μ.1 pc = .ok (.iadd, 1)) (k : X sc d μ (pc + 1) ls (.int (x + y) :: st) AH r AH') : X sc d μ pc ls (.int y :: .int x :: st) AH r AH' := ⟨k.1, fun G p l e R s m args below meth c H locs cells slots Q lsA b ad A H0 n0 s0 hC => lv_iadd hC.1.1 hC.1.2.1 hd (k.2 G p l e R s m args below meth c H locs cells slots Q lsA b ad A H0 n0 s0 hC)⟩
theorem x_isub {sc : cS} {d : Nat} {μ : Md} {pc : Nat} {ls : List (Option Value)} {st : List Value} {AH AH' : List AC} {r : Option Value} {x y : Int32} (hd : decode μ.1 pc = .ok (.isub, 1)) (k : X sc d μ (pc + 1) ls (.int (x - y) :: st) AH r AH') : X sc d μ pc ls (.int y :: .int x :: st) AH r AH' := ⟨k.1, fun G p l e R s m args below meth c H locs cells slots Q lsA b ad A H0 n0 s0 hC => lv_isub hC.1.1 hC.1.2.1 hd (k.2 G p l e R s m args below meth c H locs cells slots Q lsA b ad A H0 n0 s0 hC)⟩
theorem x_imul {sc : cS} {d : Nat} {μ : Md} {pc : Nat} {ls : List (Option Value)} {st : List Value} {AH AH' : List AC} {r : Option Value} {x y : Int32} (hd : decode μ.1 pc = .ok (.imul, 1)) (k : X sc d μ (pc + 1) ls (.int (x * y) :: st) AH r AH') : X sc d μ pc ls (.int y :: .int x :: st) AH r AH' := ⟨k.1, fun G p l e R s m args below meth c H locs cells slots Q lsA b ad A H0 n0 s0 hC => lv_imul hC.1.1 hC.1.2.1 hd (k.2 G p l e R s m args below meth c H locs cells slots Q lsA b ad A H0 n0 s0 hC)⟩
theorem x_iand {sc : cS} {d : Nat} {μ : Md} {pc : Nat} {ls : List (Option Value)} {st : List Value} {AH AH' : List AC} {r : Option Value} {x y : Int32} (hd : decode μ.1 pc = .ok (.iand, 1)) (k : X sc d μ (pc + 1) ls (.int (x &&& y) :: st) AH r AH') : X sc d μ pc ls (.int y :: .int x :: st) AH r AH' := ⟨k.1, fun G p l e R s m args below meth c H locs cells slots Q lsA b ad A H0 n0 s0 hC => lv_iand hC.1.1 hC.1.2.1 hd (k.2 G p l e R s m args below meth c H locs cells slots Q lsA b ad A H0 n0 s0 hC)⟩
theorem x_ior {sc : cS} {d : Nat} {μ : Md} {pc : Nat} {ls : List (Option Value)} {st : List Value} {AH AH' : List AC} {r : Option Value} {x y : Int32} (hd : decode μ.1 pc = .ok (.ior, 1)) (k : X sc d μ (pc + 1) ls (.int (x ||| y) :: st) AH r AH') : X sc d μ pc ls (.int y :: .int x :: st) AH r AH' := ⟨k.1, fun G p l e R s m args below meth c H locs cells slots Q lsA b ad A H0 n0 s0 hC => lv_ior hC.1.1 hC.1.2.1 hd (k.2 G p l e R s m args below meth c H locs cells slots Q lsA b ad A H0 n0 s0 hC)⟩
theorem x_ixor {sc : cS} {d : Nat} {μ : Md} {pc : Nat} {ls : List (Option Value)} {st : List Value} {AH AH' : List AC} {r : Option Value} {x y : Int32} (hd : decode μ.1 pc = .ok (.ixor, 1)) (k : X sc d μ (pc + 1) ls (.int (x ^^^ y) :: st) AH r AH') : X sc d μ pc ls (.int y :: .int x :: st) AH r AH' := ⟨k.1, fun G p l e R s m args below meth c H locs cells slots Q lsA b ad A H0 n0 s0 hC => lv_ixor hC.1.1 hC.1.2.1 hd (k.2 G p l e R s m args below meth c H locs cells slots Q lsA b ad A H0 n0 s0 hC)⟩
theorem x_ishl {sc : cS} {d : Nat} {μ : Md} {pc : Nat} {ls : List (Option Value)} {st : List Value} {AH AH' : List AC} {r : Option Value} {x y : Int32} (hd : decode μ.1 pc = .ok (.ishl, 1)) (k : X sc d μ (pc + 1) ls (.int (x <<< (y &&& 31)) :: st) AH r AH') : X sc d μ pc ls (.int y :: .int x :: st) AH r AH' := ⟨k.1, fun G p l e R s m args below meth c H locs cells slots Q lsA b ad A H0 n0 s0 hC => lv_ishl hC.1.1 hC.1.2.1 hd (k.2 G p l e R s m args below meth c H locs cells slots Q lsA b ad A H0 n0 s0 hC)⟩
theorem x_ishr {sc : cS} {d : Nat} {μ : Md} {pc : Nat} {ls : List (Option Value)} {st : List Value} {AH AH' : List AC} {r : Option Value} {x y : Int32} (hd : decode μ.1 pc = .ok (.ishr, 1)) (k : X sc d μ (pc + 1) ls (.int (x >>> (y &&& 31)) :: st) AH r AH') : X sc d μ pc ls (.int y :: .int x :: st) AH r AH' := ⟨k.1, fun G p l e R s m args below meth c H locs cells slots Q lsA b ad A H0 n0 s0 hC => lv_ishr hC.1.1 hC.1.2.1 hd (k.2 G p l e R s m args below meth c H locs cells slots Q lsA b ad A H0 n0 s0 hC)⟩
theorem x_iushr {sc : cS} {d : Nat} {μ : Md} {pc : Nat} {ls : List (Option Value)} {st : List Value} {AH AH' : List AC} {r : Option Value} {x y : Int32} (hd : decode μ.1 pc = .ok (.iushr, 1)) (k : X sc d μ (pc + 1) ls (.int (x.toUInt32 >>> (y.toUInt32 &&& Int32.toUInt32 31)).toInt32 :: st) AH r AH') : X sc d μ pc ls (.int y :: .int x :: st) AH r AH' := ⟨k.1, fun G p l e R s m args below meth c H locs cells slots Q lsA b ad A H0 n0 s0 hC => lv_iushr hC.1.1 hC.1.2.1 hd rfl (k.2 G p l e R s m args below meth c H locs cells slots Q lsA b ad A H0 n0 s0 hC)⟩
theorem x_irem {sc : cS} {d : Nat} {μ : Md} {pc : Nat} {ls : List (Option Value)} {st : List Value} {AH AH' : List AC} {r : Option Value} {x y : Int32} (hy : ¬ y = 0) (hd : decode μ.1 pc = .ok (.irem, 1)) (k : X sc d μ (pc + 1) ls (.int (x - x / y * y) :: st) AH r AH') : X sc d μ pc ls (.int y :: .int x :: st) AH r AH' := ⟨k.1, fun G p l e R s m args below meth c H locs cells slots Q lsA b ad A H0 n0 s0 hC => lv_irem hC.1.1 hC.1.2.1 hd hy (k.2 G p l e R s m args below meth c H locs cells slots Q lsA b ad A H0 n0 s0 hC)⟩
theorem x_i2c {sc : cS} {d : Nat} {μ : Md} {pc : Nat} {ls : List (Option Value)} {st : List Value} {AH AH' : List AC} {r : Option Value} {x : Int32} (hd : decode μ.1 pc = .ok (.i2c, 1)) (k : X sc d μ (pc + 1) ls (.int (x.toUInt32 % 65536).toInt32 :: st) AH r AH') : X sc d μ pc ls (.int x :: st) AH r AH' := ⟨k.1, fun G p l e R s m args below meth c H locs cells slots Q lsA b ad A H0 n0 s0 hC => lv_i2c hC.1.1 hC.1.2.1 hd rfl (k.2 G p l e R s m args below meth c H locs cells slots Q lsA b ad A H0 n0 s0 hC)⟩
theorem x_i2d {sc : cS} {d : Nat} {μ : Md} {pc : Nat} {ls : List (Option Value)} {st : List Value} {AH AH' : List AC} {r : Option Value} {x : Int32} (hd : decode μ.1 pc = .ok (.i2d, 1)) (k : X sc d μ (pc + 1) ls (.double (FP.i2d x) :: st) AH r AH') : X sc d μ pc ls (.int x :: st) AH r AH' := ⟨k.1, fun G p l e R s m args below meth c H locs cells slots Q lsA b ad A H0 n0 s0 hC => lv_i2d hC.1.1 hC.1.2.1 hd (k.2 G p l e R s m args below meth c H locs cells slots Q lsA b ad A H0 n0 s0 hC)⟩
theorem x_ddiv {sc : cS} {d : Nat} {μ : Md} {pc : Nat} {ls : List (Option Value)} {st : List Value} {AH AH' : List AC} {r : Option Value} {x y : UInt64} (hn : vf_n64 (FP.ddiv x y)) (hd : decode μ.1 pc = .ok (.ddiv, 1)) (k : X sc d μ (pc + 1) ls (.double (FP.ddiv x y) :: st) AH r AH') : X sc d μ pc ls (.double y :: .double x :: st) AH r AH' := ⟨k.1, fun G p l e R s m args below meth c H locs cells slots Q lsA b ad A H0 n0 s0 hC => lv_ddiv hC.1.1 hC.1.2.1 hd hn (k.2 G p l e R s m args below meth c H locs cells slots Q lsA b ad A H0 n0 s0 hC)⟩
theorem x_dcmp {sc : cS} {d : Nat} {μ : Md} {pc : Nat} {ls : List (Option Value)} {st : List Value} {AH AH' : List AC} {r : Option Value} {x y : UInt64} {op : CmpOp} (hd : decode μ.1 pc = .ok (.dcmp op, 1)) (k : X sc d μ (pc + 1) ls (.int (Op.cmpValue (FP.dcmp x y) op) :: st) AH r AH') : X sc d μ pc ls (.double y :: .double x :: st) AH r AH' := ⟨k.1, fun G p l e R s m args below meth c H locs cells slots Q lsA b ad A H0 n0 s0 hC => lv_dcmp hC.1.1 hC.1.2.1 hd (k.2 G p l e R s m args below meth c H locs cells slots Q lsA b ad A H0 n0 s0 hC)⟩
theorem x_dup_i {sc : cS} {d : Nat} {μ : Md} {pc : Nat} {ls : List (Option Value)} {st : List Value} {AH AH' : List AC} {r : Option Value} {x : Int32} (hd : decode μ.1 pc = .ok (.dup, 1)) (k : X sc d μ (pc + 1) ls (.int x :: .int x :: st) AH r AH') : X sc d μ pc ls (.int x :: st) AH r AH' := ⟨k.1, fun G p l e R s m args below meth c H locs cells slots Q lsA b ad A H0 n0 s0 hC => lv_dup hC.1.1 hC.1.2.1 hd rfl (k.2 G p l e R s m args below meth c H locs cells slots Q lsA b ad A H0 n0 s0 hC)⟩
theorem x_dup_r {sc : cS} {d : Nat} {μ : Md} {pc : Nat} {ls : List (Option Value)} {st : List Value} {AH AH' : List AC} {r : Option Value} {o : Nat} (hd : decode μ.1 pc = .ok (.dup, 1)) (k : X sc d μ (pc + 1) ls (.ref o :: .ref o :: st) AH r AH') : X sc d μ pc ls (.ref o :: st) AH r AH' := ⟨k.1, fun G p l e R s m args below meth c H locs cells slots Q lsA b ad A H0 n0 s0 hC => lv_dup hC.1.1 hC.1.2.1 hd rfl (k.2 G p l e R s m args below meth c H locs cells slots Q lsA b ad A H0 n0 s0 hC)⟩
theorem x_dup2_ir {sc : cS} {d : Nat} {μ : Md} {pc : Nat} {ls : List (Option Value)} {st : List Value} {AH AH' : List AC} {r : Option Value} {x : Int32} {o : Nat} (hd : decode μ.1 pc = .ok (.dup2, 1)) (k : X sc d μ (pc + 1) ls (.int x :: .ref o :: .int x :: .ref o :: st) AH r AH') : X sc d μ pc ls (.int x :: .ref o :: st) AH r AH' := ⟨k.1, fun G p l e R s m args below meth c H locs cells slots Q lsA b ad A H0 n0 s0 hC => lv_dup2_11 hC.1.1 hC.1.2.1 hd rfl rfl (k.2 G p l e R s m args below meth c H locs cells slots Q lsA b ad A H0 n0 s0 hC)⟩
theorem x_pop_i {sc : cS} {d : Nat} {μ : Md} {pc : Nat} {ls : List (Option Value)} {st : List Value} {AH AH' : List AC} {r : Option Value} {x : Int32} (hd : decode μ.1 pc = .ok (.pop, 1)) (k : X sc d μ (pc + 1) ls (st) AH r AH') : X sc d μ pc ls (.int x :: st) AH r AH' := ⟨k.1, fun G p l e R s m args below meth c H locs cells slots Q lsA b ad A H0 n0 s0 hC => lv_pop hC.1.1 hC.1.2.1 hd rfl (k.2 G p l e R s m args below meth c H locs cells slots Q lsA b ad A H0 n0 s0 hC)⟩
theorem x_aconst_null {sc : cS} {d : Nat} {μ : Md} {pc : Nat} {ls : List (Option Value)} {st : List Value} {AH AH' : List AC} {r : Option Value}  (hd : decode μ.1 pc = .ok (.aconst_null, 1)) (k : X sc d μ (pc + 1) ls (.null :: st) AH r AH') : X sc d μ pc ls (st) AH r AH' := ⟨k.1, fun G p l e R s m args below meth c H locs cells slots Q lsA b ad A H0 n0 s0 hC => lv_null hC.1.1 hC.1.2.1 hd (k.2 G p l e R s m args below meth c H locs cells slots Q lsA b ad A H0 n0 s0 hC)⟩
theorem x_iload_n {sc : cS} {d : Nat} {μ : Md} {pc : Nat} {ls : List (Option Value)} {st : List Value} {AH AH' : List AC} {r : Option Value} {i : Fin 4} {x : Int32} (hd : decode μ.1 pc = .ok (.iload_n i, 1)) (hv : ls[(i : Nat)]? = some (some (.int x))) (k : X sc d μ (pc + 1) ls (.int x :: st) AH r AH') : X sc d μ pc ls st AH r AH' := ⟨k.1, fun G p l e R s m args below meth c H locs cells slots Q lsA b ad A H0 n0 s0 hC => lv_iload_n hC.1.1 hC.1.2.1 hd rfl (hC.2.1.2.2 _ _ hv) (k.2 G p l e R s m args below meth c H locs cells slots Q lsA b ad A H0 n0 s0 hC)⟩
theorem x_iload {sc : cS} {d : Nat} {μ : Md} {pc : Nat} {ls : List (Option Value)} {st : List Value} {AH AH' : List AC} {r : Option Value} {i : Nat} {x : Int32} (hd : decode μ.1 pc = .ok (.iload i, 2)) (hv : ls[i]? = some (some (.int x))) (k : X sc d μ (pc + 2) ls (.int x :: st) AH r AH') : X sc d μ pc ls st AH r AH' := ⟨k.1, fun G p l e R s m args below meth c H locs cells slots Q lsA b ad A H0 n0 s0 hC => lv_iload hC.1.1 hC.1.2.1 hd (hC.2.1.2.2 _ _ hv) (k.2 G p l e R s m args below meth c H locs cells slots Q lsA b ad A H0 n0 s0 hC)⟩
theorem x_dload {sc : cS} {d : Nat} {μ : Md} {pc : Nat} {ls : List (Option Value)} {st : List Value} {AH AH' : List AC} {r : Option Value} {i : Nat} {x : UInt64} (hd : decode μ.1 pc = .ok (.dload i, 2)) (hv : ls[i]? = some (some (.double x))) (k : X sc d μ (pc + 2) ls (.double x :: st) AH r AH') : X sc d μ pc ls st AH r AH' := ⟨k.1, fun G p l e R s m args below meth c H locs cells slots Q lsA b ad A H0 n0 s0 hC => lv_dload hC.1.1 hC.1.2.1 hd (hC.2.1.2.2 _ _ hv) (k.2 G p l e R s m args below meth c H locs cells slots Q lsA b ad A H0 n0 s0 hC)⟩
theorem x_aload_n {sc : cS} {d : Nat} {μ : Md} {pc : Nat} {ls : List (Option Value)} {st : List Value} {AH AH' : List AC} {r : Option Value} {i : Fin 4} {o : Nat} (hd : decode μ.1 pc = .ok (.aload_n i, 1)) (hv : ls[(i : Nat)]? = some (some (.ref o))) (k : X sc d μ (pc + 1) ls (.ref o :: st) AH r AH') : X sc d μ pc ls st AH r AH' := ⟨k.1, fun G p l e R s m args below meth c H locs cells slots Q lsA b ad A H0 n0 s0 hC => lv_aload_n hC.1.1 hC.1.2.1 hd rfl (hC.2.1.2.2 _ _ hv) (k.2 G p l e R s m args below meth c H locs cells slots Q lsA b ad A H0 n0 s0 hC)⟩
def noD (ls : List (Option Value)) (i : Nat) : Bool := match i with
  | 0 => true
  | j + 1 => match ls[j]? with
    | some (some v) => v.category != 2
    | _ => true
def asl (b : Nat) (ad : List Nat) (ls : List (Option Value)) : List (Nat × Value) := ls.zipIdx.filterMap (fun q => q.1.map (fun v => (q.2, cv b ad v)))
theorem asl_mem {b : Nat} {ad : List Nat} {ls : List (Option Value)} {j : Nat} {w : Value} : (j, w) ∈ asl b ad ls ↔ ∃ v, ls[j]? = some (some v) ∧ w = cv b ad v := by
  simp only [asl, List.mem_filterMap]
  constructor
  · rintro ⟨⟨o, i⟩, h1, h2⟩
    have h3 := List.mem_zipIdx_iff_getElem?.mp h1
    cases o with
    | none => cases h2
    | some v =>
      simp only [Option.map_some, Option.some.injEq, Prod.mk.injEq] at h2
      obtain ⟨rfl, rfl⟩ := h2
      exact ⟨v, h3, rfl⟩
  · rintro ⟨v, h1, rfl⟩
    exact ⟨(some v, j), List.mem_zipIdx_iff_getElem?.mpr h1, rfl⟩
theorem lsOK_has {lsA : Array Slot} {nL b : Nat} {ad : List Nat} {ls : List (Option Value)} (h : lsOK lsA nL b ad ls) : lv_has lsA nL (asl b ad ls) := by
  refine ⟨h.1, h.2.1, fun q hq => ?_⟩
  obtain ⟨j, w⟩ := q
  obtain ⟨v, h1, rfl⟩ := asl_mem.mp hq
  exact h.2.2 j v h1
theorem lsOK_set {ls' : Array Slot} {nL b i : Nat} {ad : List Nat} {ls : List (Option Value)} {v w : Value} (hw : cv b ad v = w) (hn : noD ls i = true) (h : lv_has ls' nL ((i, w) :: (asl b ad ls).filter (fun q => !(q.1 == i) && !(q.1 + 1 == i && q.2.category == 2)))) : lsOK ls' nL b ad (ls.set i (some v)) := by
  refine ⟨h.1, h.2.1, fun j u hu => ?_⟩
  subst hw
  rw [List.getElem?_set] at hu
  by_cases hj : i = j
  · subst hj
    rw [if_pos rfl] at hu
    split at hu
    · cases hu
      exact h.2.2 (i, cv b ad v) List.mem_cons_self
    · cases hu
  · rw [if_neg hj] at hu
    refine h.2.2 (j, cv b ad u) (List.mem_cons_of_mem _ (List.mem_filter.mpr ⟨asl_mem.mpr ⟨u, hu, rfl⟩, ?_⟩))
    have h1 : (j == i) = false := by simp [Ne.symm hj]
    by_cases h2 : j + 1 = i
    · subst h2
      simp only [noD, hu, bne_iff_ne, ne_eq] at hn
      simp [h1, cv_cat, hn]
    · simp [h1, h2]
theorem lsOK_set2 {ls' : Array Slot} {nL b i : Nat} {ad : List Nat} {ls : List (Option Value)} {v w : Value} (hw : cv b ad v = w) (hn : noD ls i = true) (h : lv_has ls' nL ((i, w) :: (asl b ad ls).filter (fun q => !(q.1 == i) && (!(q.1 == i + 1) && !(q.1 + 1 == i && q.2.category == 2))))) : lsOK ls' nL b ad ((ls.set i (some v)).set (i + 1) none) := by
  refine ⟨h.1, h.2.1, fun j u hu => ?_⟩
  subst hw
  rw [List.getElem?_set] at hu
  by_cases hj1 : i + 1 = j
  · rw [if_pos hj1] at hu
    split at hu <;> cases hu
  rw [if_neg hj1, List.getElem?_set] at hu
  by_cases hj : i = j
  · subst hj
    rw [if_pos rfl] at hu
    split at hu
    · cases hu
      exact h.2.2 (i, cv b ad v) List.mem_cons_self
    · cases hu
  · rw [if_neg hj] at hu
    refine h.2.2 (j, cv b ad u) (List.mem_cons_of_mem _ (List.mem_filter.mpr ⟨asl_mem.mpr ⟨u, hu, rfl⟩, ?_⟩))
    have h1 : (j == i) = false := by simp [Ne.symm hj]
    have h3 : (j == i + 1) = false := by simp [Ne.symm hj1]
    by_cases h2 : j + 1 = i
    · subst h2
      have h4 : ¬ j = j + 1 + 1 := by omega
      simp only [noD, hu, bne_iff_ne, ne_eq] at hn
      simp [h1, h3, h4, cv_cat, hn]
    · simp [h1, h2, h3]
theorem Cx_ls {sc : cS} {G : cG} {μ : Md} {d : Nat} {ls ls' : List (Option Value)} {AH : List AC} {r : Option Value} {AH' : List AC} {p : Program} {l : Launch} {e : Env} {R : Room} {s : State} {m : MethodId} {args : Array Value} {below : List Frame} {meth : Method} {c : Code} {H : Heap} {locs : List Loc} {cells slots : Nat} {Q : State → Prop} {lsA lsB : Array Slot} {b : Nat} {ad : List Nat} {A : Nat → Prop} {H0 : Heap} {n0 s0 : Nat} (hC : Cx sc G μ d ls AH r AH' p l e R s m args below meth c H locs cells slots Q lsA b ad A H0 n0 s0) (h : lsOK lsB μ.2.2.1 b ad ls') : Cx sc G μ d ls' AH r AH' p l e R s m args below meth c H locs cells slots Q lsB b ad A H0 n0 s0 := ⟨hC.1, h, hC.2.2⟩
theorem x_istore_n {sc : cS} {d : Nat} {μ : Md} {pc : Nat} {ls : List (Option Value)} {st : List Value} {AH AH' : List AC} {r : Option Value} {i : Fin 4} {x : Int32} (hd : decode μ.1 pc = .ok (.istore_n i, 1)) (hi : (i : Nat) < μ.2.2.1) (hn : noD ls (i : Nat) = true) (k : X sc d μ (pc + 1) (ls.set (i : Nat) (some (.int x))) st AH r AH') : X sc d μ pc ls (.int x :: st) AH r AH' := ⟨k.1, fun G p l e R s m args below meth c H locs cells slots Q lsA b ad A H0 n0 s0 hC => lv_istore_n hC.1.1 hC.1.2.1 hd rfl (lsOK_has hC.2.1) hi rfl (fun ls2 h2 => k.2 G p l e R s m args below meth c H locs cells slots Q ls2 b ad A H0 n0 s0 (Cx_ls hC (lsOK_set rfl hn h2)))⟩
theorem x_istore {sc : cS} {d : Nat} {μ : Md} {pc : Nat} {ls : List (Option Value)} {st : List Value} {AH AH' : List AC} {r : Option Value} {i : Nat} {x : Int32} (hd : decode μ.1 pc = .ok (.istore i, 2)) (hi : i < μ.2.2.1) (hn : noD ls i = true) (k : X sc d μ (pc + 2) (ls.set i (some (.int x))) st AH r AH') : X sc d μ pc ls (.int x :: st) AH r AH' := ⟨k.1, fun G p l e R s m args below meth c H locs cells slots Q lsA b ad A H0 n0 s0 hC => lv_istore hC.1.1 hC.1.2.1 hd (lsOK_has hC.2.1) hi rfl (fun ls2 h2 => k.2 G p l e R s m args below meth c H locs cells slots Q ls2 b ad A H0 n0 s0 (Cx_ls hC (lsOK_set rfl hn h2)))⟩
theorem x_astore_n {sc : cS} {d : Nat} {μ : Md} {pc : Nat} {ls : List (Option Value)} {st : List Value} {AH AH' : List AC} {r : Option Value} {i : Fin 4} {x : Nat} (hd : decode μ.1 pc = .ok (.astore_n i, 1)) (hi : (i : Nat) < μ.2.2.1) (hn : noD ls (i : Nat) = true) (k : X sc d μ (pc + 1) (ls.set (i : Nat) (some (.ref x))) st AH r AH') : X sc d μ pc ls (.ref x :: st) AH r AH' := ⟨k.1, fun G p l e R s m args below meth c H locs cells slots Q lsA b ad A H0 n0 s0 hC => lv_astore_n hC.1.1 hC.1.2.1 hd rfl (lsOK_has hC.2.1) hi rfl (fun ls2 h2 => k.2 G p l e R s m args below meth c H locs cells slots Q ls2 b ad A H0 n0 s0 (Cx_ls hC (lsOK_set rfl hn h2)))⟩
theorem x_dstore {sc : cS} {d : Nat} {μ : Md} {pc : Nat} {ls : List (Option Value)} {st : List Value} {AH AH' : List AC} {r : Option Value} {i : Nat} {x : UInt64} (hd : decode μ.1 pc = .ok (.dstore i, 2)) (hi : i + 1 < μ.2.2.1) (hn : noD ls i = true) (k : X sc d μ (pc + 2) ((ls.set i (some (.double x))).set (i + 1) none) st AH r AH') : X sc d μ pc ls (.double x :: st) AH r AH' := ⟨k.1, fun G p l e R s m args below meth c H locs cells slots Q lsA b ad A H0 n0 s0 hC => lv_dstore hC.1.1 hC.1.2.1 hd (lsOK_has hC.2.1) hi rfl (fun ls2 h2 => k.2 G p l e R s m args below meth c H locs cells slots Q ls2 b ad A H0 n0 s0 (Cx_ls hC (lsOK_set2 rfl hn h2)))⟩
theorem x_iinc {sc : cS} {d : Nat} {μ : Md} {pc : Nat} {ls : List (Option Value)} {st : List Value} {AH AH' : List AC} {r : Option Value} {i : Nat} {n : Int} {x : Int32} (hd : decode μ.1 pc = .ok (.iinc i n, 3)) (hv : ls[i]? = some (some (.int x))) (hi : i < μ.2.2.1) (hn : noD ls i = true) (k : X sc d μ (pc + 3) (ls.set i (some (.int (x + Int32.ofInt n)))) st AH r AH') : X sc d μ pc ls st AH r AH' := by
  refine ⟨k.1, fun G p l e R s m args below meth c H locs cells slots Q lsA b ad A H0 n0 s0 hC => ?_⟩
  have hm : (i, Value.int x) ∈ asl b ad ls := asl_mem.mpr ⟨_, hv, rfl⟩
  obtain ⟨q, hq⟩ := List.getElem?_of_mem hm
  exact lv_iinc hC.1.1 hC.1.2.1 hd (lsOK_has hC.2.1) (k := q) hq rfl hi rfl (fun ls2 h2 => k.2 G p l e R s m args below meth c H locs cells slots Q ls2 b ad A H0 n0 s0 (Cx_ls hC (lsOK_set rfl hn h2)))
theorem x_if_eq {sc : cS} {d : Nat} {μ : Md} {pc : Nat} {ls : List (Option Value)} {st : List Value} {AH AH' : List AC} {r : Option Value} {x : Int32} {off : Int} (tgt : Nat) (hd : decode μ.1 pc = .ok (.ifCond .eq off, 3)) (ht : (pc : Int) + off = (tgt : Int)) (kt : x = 0 → X sc d μ tgt ls st AH r AH') (kf : ¬ x = 0 → X sc d μ (pc + 3) ls st AH r AH') : X sc d μ pc ls (.int x :: st) AH r AH' := by
  refine ⟨?_, fun G p l e R s m args below meth c H locs cells slots Q lsA b ad A H0 n0 s0 hC => lv_if_eq hC.1.1 hC.1.2.1 hd ht (fun q => (kt q).2 G p l e R s m args below meth c H locs cells slots Q lsA b ad A H0 n0 s0 hC) (fun q => (kf q).2 G p l e R s m args below meth c H locs cells slots Q lsA b ad A H0 n0 s0 hC)⟩
  by_cases q : x = 0
  · exact (kt q).1
  · exact (kf q).1
theorem x_icmp_eq {sc : cS} {d : Nat} {μ : Md} {pc : Nat} {ls : List (Option Value)} {st : List Value} {AH AH' : List AC} {r : Option Value} {x y : Int32} {off : Int} (tgt : Nat) (hd : decode μ.1 pc = .ok (.if_icmp .eq off, 3)) (ht : (pc : Int) + off = (tgt : Int)) (kt : x = y → X sc d μ tgt ls st AH r AH') (kf : ¬ x = y → X sc d μ (pc + 3) ls st AH r AH') : X sc d μ pc ls (.int y :: .int x :: st) AH r AH' := by
  refine ⟨?_, fun G p l e R s m args below meth c H locs cells slots Q lsA b ad A H0 n0 s0 hC => lv_icmp_eq hC.1.1 hC.1.2.1 hd ht (fun q => (kt q).2 G p l e R s m args below meth c H locs cells slots Q lsA b ad A H0 n0 s0 hC) (fun q => (kf q).2 G p l e R s m args below meth c H locs cells slots Q lsA b ad A H0 n0 s0 hC)⟩
  by_cases q : x = y
  · exact (kt q).1
  · exact (kf q).1
theorem x_if_ne {sc : cS} {d : Nat} {μ : Md} {pc : Nat} {ls : List (Option Value)} {st : List Value} {AH AH' : List AC} {r : Option Value} {x : Int32} {off : Int} (tgt : Nat) (hd : decode μ.1 pc = .ok (.ifCond .ne off, 3)) (ht : (pc : Int) + off = (tgt : Int)) (kt : ¬ x = 0 → X sc d μ tgt ls st AH r AH') (kf : x = 0 → X sc d μ (pc + 3) ls st AH r AH') : X sc d μ pc ls (.int x :: st) AH r AH' := by
  refine ⟨?_, fun G p l e R s m args below meth c H locs cells slots Q lsA b ad A H0 n0 s0 hC => lv_if_ne hC.1.1 hC.1.2.1 hd ht (fun q => (kt q).2 G p l e R s m args below meth c H locs cells slots Q lsA b ad A H0 n0 s0 hC) (fun q => (kf q).2 G p l e R s m args below meth c H locs cells slots Q lsA b ad A H0 n0 s0 hC)⟩
  by_cases q : x = 0
  · exact (kf q).1
  · exact (kt q).1
theorem x_icmp_ne {sc : cS} {d : Nat} {μ : Md} {pc : Nat} {ls : List (Option Value)} {st : List Value} {AH AH' : List AC} {r : Option Value} {x y : Int32} {off : Int} (tgt : Nat) (hd : decode μ.1 pc = .ok (.if_icmp .ne off, 3)) (ht : (pc : Int) + off = (tgt : Int)) (kt : ¬ x = y → X sc d μ tgt ls st AH r AH') (kf : x = y → X sc d μ (pc + 3) ls st AH r AH') : X sc d μ pc ls (.int y :: .int x :: st) AH r AH' := by
  refine ⟨?_, fun G p l e R s m args below meth c H locs cells slots Q lsA b ad A H0 n0 s0 hC => lv_icmp_ne hC.1.1 hC.1.2.1 hd ht (fun q => (kt q).2 G p l e R s m args below meth c H locs cells slots Q lsA b ad A H0 n0 s0 hC) (fun q => (kf q).2 G p l e R s m args below meth c H locs cells slots Q lsA b ad A H0 n0 s0 hC)⟩
  by_cases q : x = y
  · exact (kf q).1
  · exact (kt q).1
theorem x_if_lt {sc : cS} {d : Nat} {μ : Md} {pc : Nat} {ls : List (Option Value)} {st : List Value} {AH AH' : List AC} {r : Option Value} {x : Int32} {off : Int} (tgt : Nat) (hd : decode μ.1 pc = .ok (.ifCond .lt off, 3)) (ht : (pc : Int) + off = (tgt : Int)) (kt : x < 0 → X sc d μ tgt ls st AH r AH') (kf : ¬ x < 0 → X sc d μ (pc + 3) ls st AH r AH') : X sc d μ pc ls (.int x :: st) AH r AH' := by
  refine ⟨?_, fun G p l e R s m args below meth c H locs cells slots Q lsA b ad A H0 n0 s0 hC => lv_if_lt hC.1.1 hC.1.2.1 hd ht (fun q => (kt q).2 G p l e R s m args below meth c H locs cells slots Q lsA b ad A H0 n0 s0 hC) (fun q => (kf q).2 G p l e R s m args below meth c H locs cells slots Q lsA b ad A H0 n0 s0 hC)⟩
  by_cases q : x < 0
  · exact (kt q).1
  · exact (kf q).1
theorem x_icmp_lt {sc : cS} {d : Nat} {μ : Md} {pc : Nat} {ls : List (Option Value)} {st : List Value} {AH AH' : List AC} {r : Option Value} {x y : Int32} {off : Int} (tgt : Nat) (hd : decode μ.1 pc = .ok (.if_icmp .lt off, 3)) (ht : (pc : Int) + off = (tgt : Int)) (kt : x < y → X sc d μ tgt ls st AH r AH') (kf : ¬ x < y → X sc d μ (pc + 3) ls st AH r AH') : X sc d μ pc ls (.int y :: .int x :: st) AH r AH' := by
  refine ⟨?_, fun G p l e R s m args below meth c H locs cells slots Q lsA b ad A H0 n0 s0 hC => lv_icmp_lt hC.1.1 hC.1.2.1 hd ht (fun q => (kt q).2 G p l e R s m args below meth c H locs cells slots Q lsA b ad A H0 n0 s0 hC) (fun q => (kf q).2 G p l e R s m args below meth c H locs cells slots Q lsA b ad A H0 n0 s0 hC)⟩
  by_cases q : x < y
  · exact (kt q).1
  · exact (kf q).1
theorem x_if_ge {sc : cS} {d : Nat} {μ : Md} {pc : Nat} {ls : List (Option Value)} {st : List Value} {AH AH' : List AC} {r : Option Value} {x : Int32} {off : Int} (tgt : Nat) (hd : decode μ.1 pc = .ok (.ifCond .ge off, 3)) (ht : (pc : Int) + off = (tgt : Int)) (kt : 0 ≤ x → X sc d μ tgt ls st AH r AH') (kf : ¬ 0 ≤ x → X sc d μ (pc + 3) ls st AH r AH') : X sc d μ pc ls (.int x :: st) AH r AH' := by
  refine ⟨?_, fun G p l e R s m args below meth c H locs cells slots Q lsA b ad A H0 n0 s0 hC => lv_if_ge hC.1.1 hC.1.2.1 hd ht (fun q => (kt q).2 G p l e R s m args below meth c H locs cells slots Q lsA b ad A H0 n0 s0 hC) (fun q => (kf q).2 G p l e R s m args below meth c H locs cells slots Q lsA b ad A H0 n0 s0 hC)⟩
  by_cases q : 0 ≤ x
  · exact (kt q).1
  · exact (kf q).1
theorem x_icmp_ge {sc : cS} {d : Nat} {μ : Md} {pc : Nat} {ls : List (Option Value)} {st : List Value} {AH AH' : List AC} {r : Option Value} {x y : Int32} {off : Int} (tgt : Nat) (hd : decode μ.1 pc = .ok (.if_icmp .ge off, 3)) (ht : (pc : Int) + off = (tgt : Int)) (kt : y ≤ x → X sc d μ tgt ls st AH r AH') (kf : ¬ y ≤ x → X sc d μ (pc + 3) ls st AH r AH') : X sc d μ pc ls (.int y :: .int x :: st) AH r AH' := by
  refine ⟨?_, fun G p l e R s m args below meth c H locs cells slots Q lsA b ad A H0 n0 s0 hC => lv_icmp_ge hC.1.1 hC.1.2.1 hd ht (fun q => (kt q).2 G p l e R s m args below meth c H locs cells slots Q lsA b ad A H0 n0 s0 hC) (fun q => (kf q).2 G p l e R s m args below meth c H locs cells slots Q lsA b ad A H0 n0 s0 hC)⟩
  by_cases q : y ≤ x
  · exact (kt q).1
  · exact (kf q).1
theorem x_if_gt {sc : cS} {d : Nat} {μ : Md} {pc : Nat} {ls : List (Option Value)} {st : List Value} {AH AH' : List AC} {r : Option Value} {x : Int32} {off : Int} (tgt : Nat) (hd : decode μ.1 pc = .ok (.ifCond .gt off, 3)) (ht : (pc : Int) + off = (tgt : Int)) (kt : 0 < x → X sc d μ tgt ls st AH r AH') (kf : ¬ 0 < x → X sc d μ (pc + 3) ls st AH r AH') : X sc d μ pc ls (.int x :: st) AH r AH' := by
  refine ⟨?_, fun G p l e R s m args below meth c H locs cells slots Q lsA b ad A H0 n0 s0 hC => lv_if_gt hC.1.1 hC.1.2.1 hd ht (fun q => (kt q).2 G p l e R s m args below meth c H locs cells slots Q lsA b ad A H0 n0 s0 hC) (fun q => (kf q).2 G p l e R s m args below meth c H locs cells slots Q lsA b ad A H0 n0 s0 hC)⟩
  by_cases q : 0 < x
  · exact (kt q).1
  · exact (kf q).1
theorem x_icmp_gt {sc : cS} {d : Nat} {μ : Md} {pc : Nat} {ls : List (Option Value)} {st : List Value} {AH AH' : List AC} {r : Option Value} {x y : Int32} {off : Int} (tgt : Nat) (hd : decode μ.1 pc = .ok (.if_icmp .gt off, 3)) (ht : (pc : Int) + off = (tgt : Int)) (kt : y < x → X sc d μ tgt ls st AH r AH') (kf : ¬ y < x → X sc d μ (pc + 3) ls st AH r AH') : X sc d μ pc ls (.int y :: .int x :: st) AH r AH' := by
  refine ⟨?_, fun G p l e R s m args below meth c H locs cells slots Q lsA b ad A H0 n0 s0 hC => lv_icmp_gt hC.1.1 hC.1.2.1 hd ht (fun q => (kt q).2 G p l e R s m args below meth c H locs cells slots Q lsA b ad A H0 n0 s0 hC) (fun q => (kf q).2 G p l e R s m args below meth c H locs cells slots Q lsA b ad A H0 n0 s0 hC)⟩
  by_cases q : y < x
  · exact (kt q).1
  · exact (kf q).1
theorem x_if_le {sc : cS} {d : Nat} {μ : Md} {pc : Nat} {ls : List (Option Value)} {st : List Value} {AH AH' : List AC} {r : Option Value} {x : Int32} {off : Int} (tgt : Nat) (hd : decode μ.1 pc = .ok (.ifCond .le off, 3)) (ht : (pc : Int) + off = (tgt : Int)) (kt : x ≤ 0 → X sc d μ tgt ls st AH r AH') (kf : ¬ x ≤ 0 → X sc d μ (pc + 3) ls st AH r AH') : X sc d μ pc ls (.int x :: st) AH r AH' := by
  refine ⟨?_, fun G p l e R s m args below meth c H locs cells slots Q lsA b ad A H0 n0 s0 hC => lv_if_le hC.1.1 hC.1.2.1 hd ht (fun q => (kt q).2 G p l e R s m args below meth c H locs cells slots Q lsA b ad A H0 n0 s0 hC) (fun q => (kf q).2 G p l e R s m args below meth c H locs cells slots Q lsA b ad A H0 n0 s0 hC)⟩
  by_cases q : x ≤ 0
  · exact (kt q).1
  · exact (kf q).1
theorem x_icmp_le {sc : cS} {d : Nat} {μ : Md} {pc : Nat} {ls : List (Option Value)} {st : List Value} {AH AH' : List AC} {r : Option Value} {x y : Int32} {off : Int} (tgt : Nat) (hd : decode μ.1 pc = .ok (.if_icmp .le off, 3)) (ht : (pc : Int) + off = (tgt : Int)) (kt : x ≤ y → X sc d μ tgt ls st AH r AH') (kf : ¬ x ≤ y → X sc d μ (pc + 3) ls st AH r AH') : X sc d μ pc ls (.int y :: .int x :: st) AH r AH' := by
  refine ⟨?_, fun G p l e R s m args below meth c H locs cells slots Q lsA b ad A H0 n0 s0 hC => lv_icmp_le hC.1.1 hC.1.2.1 hd ht (fun q => (kt q).2 G p l e R s m args below meth c H locs cells slots Q lsA b ad A H0 n0 s0 hC) (fun q => (kf q).2 G p l e R s m args below meth c H locs cells slots Q lsA b ad A H0 n0 s0 hC)⟩
  by_cases q : x ≤ y
  · exact (kt q).1
  · exact (kf q).1
theorem x_goto {sc : cS} {d : Nat} {μ : Md} {pc : Nat} {ls : List (Option Value)} {st : List Value} {AH AH' : List AC} {r : Option Value} {off : Int} (tgt : Nat) (hd : decode μ.1 pc = .ok (.goto off, 3)) (ht : (pc : Int) + off = (tgt : Int)) (k : X sc d μ tgt ls st AH r AH') : X sc d μ pc ls st AH r AH' := ⟨k.1, fun G p l e R s m args below meth c H locs cells slots Q lsA b ad A H0 n0 s0 hC => lv_goto hC.1.1 hC.1.2.1 hd ht (k.2 G p l e R s m args below meth c H locs cells slots Q lsA b ad A H0 n0 s0 hC)⟩
theorem x_ifnull {sc : cS} {d : Nat} {μ : Md} {pc : Nat} {ls : List (Option Value)} {st : List Value} {AH AH' : List AC} {r : Option Value} {o : Nat} {off : Int} (hd : decode μ.1 pc = .ok (.ifnull off, 3)) (k : X sc d μ (pc + 3) ls st AH r AH') : X sc d μ pc ls (.ref o :: st) AH r AH' := ⟨k.1, fun G p l e R s m args below meth c H locs cells slots Q lsA b ad A H0 n0 s0 hC => lv_ifnull hC.1.1 hC.1.2.1 hd (k.2 G p l e R s m args below meth c H locs cells slots Q lsA b ad A H0 n0 s0 hC)⟩
theorem x_tableIn {sc : cS} {d : Nat} {μ : Md} {pc : Nat} {ls : List (Option Value)} {st : List Value} {AH AH' : List AC} {r : Option Value} {x : Int32} {dflt lo hi off : Int} {offs : Array Int} {len : Nat} (tgt : Nat) (hd : decode μ.1 pc = .ok (.tableswitch dflt lo hi offs, len)) (h1 : ¬ x.toInt < lo) (h2 : ¬ hi < x.toInt) (ho : offs[(x.toInt - lo).toNat]? = some off) (ht : (pc : Int) + off = (tgt : Int)) (k : X sc d μ tgt ls st AH r AH') : X sc d μ pc ls (.int x :: st) AH r AH' := ⟨k.1, fun G p l e R s m args below meth c H locs cells slots Q lsA b ad A H0 n0 s0 hC => lv_tableIn hC.1.1 hC.1.2.1 hd h1 h2 ho ht (k.2 G p l e R s m args below meth c H locs cells slots Q lsA b ad A H0 n0 s0 hC)⟩
theorem x_tableOut {sc : cS} {d : Nat} {μ : Md} {pc : Nat} {ls : List (Option Value)} {st : List Value} {AH AH' : List AC} {r : Option Value} {x : Int32} {dflt lo hi : Int} {offs : Array Int} {len : Nat} (tgt : Nat) (hd : decode μ.1 pc = .ok (.tableswitch dflt lo hi offs, len)) (h : x.toInt < lo ∨ hi < x.toInt) (ht : (pc : Int) + dflt = (tgt : Int)) (k : X sc d μ tgt ls st AH r AH') : X sc d μ pc ls (.int x :: st) AH r AH' := ⟨k.1, fun G p l e R s m args below meth c H locs cells slots Q lsA b ad A H0 n0 s0 hC => lv_tableOut hC.1.1 hC.1.2.1 hd h ht (k.2 G p l e R s m args below meth c H locs cells slots Q lsA b ad A H0 n0 s0 hC)⟩
theorem x_lookup {sc : cS} {d : Nat} {μ : Md} {pc : Nat} {ls : List (Option Value)} {st : List Value} {AH AH' : List AC} {r : Option Value} {x : Int32} {dflt off : Int} {ps : Array (Int × Int)} {len : Nat} (tgt : Nat) (hd : decode μ.1 pc = .ok (.lookupswitch dflt ps, len)) (hp : (ps.toList.zip (ps.toList.drop 1)).all (fun (a, next) => a.1 < next.1) = true) (ho : Op.lookupswitch.offset ps.toList dflt x.toInt = off) (ht : (pc : Int) + off = (tgt : Int)) (k : X sc d μ tgt ls st AH r AH') : X sc d μ pc ls (.int x :: st) AH r AH' := ⟨k.1, fun G p l e R s m args below meth c H locs cells slots Q lsA b ad A H0 n0 s0 hC => lv_lookup hC.1.1 hC.1.2.1 hd hp ho ht (k.2 G p l e R s m args below meth c H locs cells slots Q lsA b ad A H0 n0 s0 hC)⟩
theorem x_ldcw {sc : cS} {d : Nat} {μ : Md} {pc : Nat} {ls : List (Option Value)} {st : List Value} {AH AH' : List AC} {r : Option Value} {idx : Nat} {v : Int32} (hd : decode μ.1 pc = .ok (.ldc_w idx, 3)) (hw : Cond.constant μ.2.1.cls idx v ∈ WA) (k : X sc d μ (pc + 3) ls (.int v :: st) AH r AH') : X sc d μ pc ls st AH r AH' := ⟨k.1, fun G p l e R s m args below meth c H locs cells slots Q lsA b ad A H0 n0 s0 hC => lv_ldcw hC.1.1 hC.1.2.1 hC.1.2.2.2.1 (hC.1.2.2.2.2.1 _ hw) hd (k.2 G p l e R s m args below meth c H locs cells slots Q lsA b ad A H0 n0 s0 hC)⟩
theorem x_end {sc : cS} {d : Nat} {μ : Md} {pc : Nat} {ls : List (Option Value)} {st : List Value} {AH : List AC} {r : Option Value} (h : Ends μ pc st r) : X sc d μ pc ls st AH r AH := by
  refine ⟨⟨Nat.le_refl _, Nat.le_refl _⟩, fun G p l e R s m args below meth c H locs cells slots Q lsA b ad A H0 n0 s0 hC => ?_⟩
  obtain ⟨-, -, hW, -, ⟨hS, -, hAd⟩, -, ⟨h1, h2, -, -⟩, hE⟩ := hC
  have h3 := hE pc lsA st [] H locs cells slots h (by rw [List.append_nil]; exact hW) hS (by rw [List.append_nil]; exact hAd) h1 h2
  rw [List.append_nil] at h3
  exact h3
theorem x_return {sc : cS} {d : Nat} {μ : Md} {pc : Nat} {ls : List (Option Value)} {AH : List AC} (hd : decode μ.1 pc = .ok (.return_, 1)) (hr : μ.2.2.2 = none) : X sc d μ pc ls [] AH none AH := x_end (Or.inl ⟨hd, rfl, rfl, hr⟩)
theorem x_ireturn {sc : cS} {d : Nat} {μ : Md} {pc : Nat} {ls : List (Option Value)} {AH : List AC} {v : Int32} {ty : FieldType} (hd : decode μ.1 pc = .ok (.ireturn, 1)) (hr : μ.2.2.2 = some ty) (hn : narrow ty (.int v) = .int v) : X sc d μ pc ls [.int v] AH (some (.int v)) AH := x_end (Or.inr (Or.inl ⟨v, ty, hd, rfl, rfl, hr, hn⟩))
theorem x_dreturn {sc : cS} {d : Nat} {μ : Md} {pc : Nat} {ls : List (Option Value)} {AH : List AC} {v : UInt64} (hd : decode μ.1 pc = .ok (.dreturn, 1)) (hr : μ.2.2.2 = some .double) : X sc d μ pc ls [.double v] AH (some (.double v)) AH := x_end (Or.inr (Or.inr (Or.inl ⟨v, hd, rfl, rfl, hr⟩)))
theorem x_areturn {sc : cS} {d : Nat} {μ : Md} {pc : Nat} {ls : List (Option Value)} {AH : List AC} {k : Nat} {C : String} (hd : decode μ.1 pc = .ok (.areturn, 1)) (hr : μ.2.2.2 = some (.object C)) : X sc d μ pc ls [.ref k] AH (some (.ref k)) AH := x_end (Or.inr (Or.inr (Or.inr ⟨k, C, hd, rfl, rfl, hr⟩)))
theorem x_dconst0 {sc : cS} {d : Nat} {μ : Md} {pc : Nat} {ls : List (Option Value)} {st : List Value} {AH AH' : List AC} {r : Option Value} (hd : decode μ.1 pc = .ok (.dconst 0, 1)) (k : X sc d μ (pc + 1) ls (.double FP.dconst0 :: st) AH r AH') : X sc d μ pc ls st AH r AH' := ⟨k.1, fun G p l e R s m args below meth c H locs cells slots Q lsA b ad A H0 n0 s0 hC => lv_dconst0 hC.1.1 hC.1.2.1 hd (k.2 G p l e R s m args below meth c H locs cells slots Q lsA b ad A H0 n0 s0 hC)⟩
end
section
def cty : Nat → Nat → FieldType
  | 0 => tyX0
  | 1 => tyX1
  | 2 => tyX2
  | 3 => tyX3
  | 4 => tyX4
  | 5 => tyX5
  | _ => tyX6
def clsOK (ci : Nat) (q : vw_C) : Prop := (∀ k, k < q.2.2 → parseFieldDescriptor (q.2.1 k).2.2.1 = some (cty ci k)) ∧ (∀ a, a < q.2.2 → ∀ b, b < q.2.2 → a ≠ b → (q.2.1 a).2.1 ≠ (q.2.1 b).2.1) ∧ (∀ w ∈ u_ws q.1 q.2.1 q.2.2, w ∈ WA) ∧ ∀ k, k < q.2.2 → (q.2.1 k).1 = q.1
theorem cls_w {ws : List Cond} (h : ∀ w ∈ ws, w ∈ tables_1 ∧ goodWord w = true) : ∀ w ∈ ws, w ∈ WA := fun w hw => List.mem_filter.mpr ⟨List.mem_append_right _ (h w hw).1, (h w hw).2⟩
theorem cls_ok0 : clsOK 0 (RX0, TX0, 6) := ⟨tyX0_ok, nmX0, cls_w (by decide +kernel), by decide +kernel⟩
theorem cls_ok1 : clsOK 1 (RX1, TX1, 3) := ⟨tyX1_ok, nmX1, cls_w (by decide +kernel), by decide +kernel⟩
theorem cls_ok2 : clsOK 2 (RX2, TX2, 18) := ⟨tyX2_ok, nmX2, cls_w (by decide +kernel), by decide +kernel⟩
theorem cls_ok3 : clsOK 3 (RX3, TX3, 2) := ⟨tyX3_ok, nmX3, cls_w (by decide +kernel), by decide +kernel⟩
theorem cls_ok4 : clsOK 4 (RX4, TX4, 6) := ⟨tyX4_ok, nmX4, cls_w (by decide +kernel), by decide +kernel⟩
theorem cls_ok5 : clsOK 5 (RX5, TX5, 10) := ⟨tyX5_ok, nmX5, cls_w (by decide +kernel), by decide +kernel⟩
theorem cls_ok6 : clsOK 6 (RX6, TX6, 17) := ⟨tyX6_ok, nmX6, cls_w (by decide +kernel), by decide +kernel⟩
theorem cls_ok {ci : Nat} {q : vw_C} (h : vwCl[ci]? = some q) : clsOK ci q := by
  match ci, h with
  | 0, h => cases h; exact cls_ok0
  | 1, h => cases h; exact cls_ok1
  | 2, h => cases h; exact cls_ok2
  | 3, h => cases h; exact cls_ok3
  | 4, h => cases h; exact cls_ok4
  | 5, h => cases h; exact cls_ok5
  | 6, h => cases h; exact cls_ok6
  | n + 7, h => simp [vwCl] at h
def LkF (own : String) (idx ci j : Nat) (q : vw_C) : Prop := vwCl[ci]? = some q ∧ j < q.2.2 ∧ Cond.fieldLink own idx q.1 (q.2.1 j).2.1 (q.2.1 j).2.2.1 ∈ WA
theorem cv_ref {b o : Nat} {ad : List Nat} (h : o ≠ scrId) : cv b ad (.ref o) = .ref (ad.getD o 0) := by simp [cv, h]
section HP
variable {sc : cS} {d : Nat} {μ : Md} {pc : Nat} {ls : List (Option Value)} {st : List Value} {AH AH' : List AC} {r : Option Value}
theorem Cx_set {G : cG} {p : Program} {l : Launch} {e : Env} {R : Room} {s : State} {m : MethodId} {args : Array Value} {below : List Frame} {meth : Method} {c : Code} {H H1 : Heap} {locs locs1 : List Loc} {cells slots : Nat} {Q : State → Prop} {lsA : Array Slot} {b : Nat} {ad : List Nat} {A : Nat → Prop} {H0 : Heap} {n0 s0 : Nat} (hC : Cx sc G μ d ls AH r AH' p l e R s m args below meth c H locs cells slots Q lsA b ad A H0 n0 s0) {o : Nat} {c0 c1 : AC} (h0 : AH[o]? = some c0) (hc : csize c1 = csize c0)
    (hP1 : va_P (G.1, G.2.1) vwCl ((wsl G b ad AH).set o (ad.getD o 0, cvc G b ad c1)) H1) (hD1 : va_D A ((wsl G b ad AH).set o (ad.getD o 0, cvc G b ad c1))) (hS1 : va_S A H0 H1 locs1) : Cx sc G μ d ls (AH.set o c1) r AH' p l e R s m args below meth c H1 locs1 cells slots Q lsA b ad A H0 n0 s0 := by
  obtain ⟨h1, h2, h3, h4, ⟨h5, h6, h7⟩, h8, ⟨h9, h10, h11, h12⟩, h13⟩ := hC
  rw [wsl_set] at hP1 hD1
  exact ⟨h1, h2, aW_of (by rw [h3.1, List.length_set]) hP1 hD1, h4, ⟨hS1, h6, h7⟩, h8, ⟨by rw [List.length_set]; exact h9, by rw [csz_set h0 hc]; exact h10, h11, h12⟩, h13⟩
theorem X_set_mono {o : Nat} {c0 c1 : AC} (h0 : AH[o]? = some c0) (hc : csize c1 = csize c0) (h : (AH.set o c1).length ≤ AH'.length ∧ csz (AH.set o c1) ≤ csz AH') : AH.length ≤ AH'.length ∧ csz AH ≤ csz AH' := by
  rw [List.length_set, csz_set h0 hc] at h
  exact h
theorem x_getf {idx ci j o : Nat} {q : vw_C} {fs : List Value} {v : Value} (hl : LkF μ.2.1.cls idx ci j q) (hd : decode μ.1 pc = .ok (.getfield idx, 3)) (hn : o ≠ scrId) (ho : AH[o]? = some (.inl (ci, fs))) (hv : fs[j]? = some v) (k : X sc d μ (pc + 3) ls (v :: st) AH r AH') : X sc d μ pc ls (.ref o :: st) AH r AH' := by
  refine ⟨k.1, fun G p l e R s m args below meth c H locs cells slots Q lsA b ad A H0 n0 s0 hC => ?_⟩
  rw [List.map_cons, cv_ref hn]
  obtain ⟨hq, hj, hw⟩ := hl
  have hk := cls_ok hq
  exact va_get hC.1.1 hC.1.2.1 hC.1.2.2.2.2.1 hk.2.2.1 hC.1.2.2.2.1 hC.2.2.2.1.1.1 hC.2.2.1.2.1 o (wsl_get ho) hq j hj (hC.1.2.2.2.2.1 _ hw) (fun x h => by rw [hk.2.2.2 j hj] at h; exact h) (v := cv b ad v) (by simp [hv]) hd (k.2 G p l e R s m args below meth c H locs cells slots Q lsA b ad A H0 n0 s0 hC)
theorem x_putI {idx ci j o : Nat} {q : vw_C} {fs : List Value} {x : Int32} (hl : LkF μ.2.1.cls idx ci j q) (hd : decode μ.1 pc = .ok (.putfield idx, 3)) (hn : o ≠ scrId) (ho : AH[o]? = some (.inl (ci, fs))) (hj : j < fs.length) (hfin : (q.2.1 j).2.2.2 = false) (h1 : narrow (cty ci j) (.int x) = .int x) (h2 : fits (cty ci j) (.int x) = true) (k : X sc d μ (pc + 3) ls st (AH.set o (.inl (ci, fs.set j (.int x)))) r AH') : X sc d μ pc ls (.int x :: .ref o :: st) AH r AH' := by
  have hcs : csize (.inl (ci, fs.set j (.int x))) = csize (.inl (ci, fs)) := by simp [csize]
  refine ⟨X_set_mono ho hcs k.1, fun G p l e R s m args below meth c H locs cells slots Q lsA b ad A H0 n0 s0 hC => ?_⟩
  rw [List.map_cons, List.map_cons, cv_ref hn]
  obtain ⟨hq, hjN, hw⟩ := hl
  have hk := cls_ok hq
  refine va_put (v := .int x) hC.1.1 hC.1.2.1 hC.1.2.2.2.2.1 hk.2.2.1 (cty ci) hk.1 hk.2.1 hC.1.2.2.2.1 hC.2.2.2.1.1.1 hC.2.2.1.2.1 (aW_D hC.2.2.1 hC.2.2.2.2.1.2.2) hC.2.2.2.2.1.1 o (wsl_get ho) hq j hjN (hC.1.2.2.2.2.1 _ hw) (fun x h => by rw [hk.2.2.2 j hjN] at h; exact h) hfin (hk.1 j hjN) h1 h2 (by simpa using hj) hd (fun H1 locs1 hP1 hD1 hS1 => ?_)
  have ee : (Sum.inr (ci, (fs.map (cv b ad)).set j (.int x)) : va_E) = cvc G b ad (.inl (ci, fs.set j (.int x))) := by simp [cvc, cv, List.map_set]
  exact k.2 G p l e R s m args below meth c H1 locs1 cells slots Q lsA b ad A H0 n0 s0 (Cx_set hC ho hcs (by rw [← ee]; exact hP1) (by rw [← ee]; exact hD1) hS1)
theorem x_putR {idx ci j o k0 : Nat} {q : vw_C} {fs : List Value} (hl : LkF μ.2.1.cls idx ci j q) (hd : decode μ.1 pc = .ok (.putfield idx, 3)) (hn : o ≠ scrId) (hn0 : k0 ≠ scrId) (hin : μ.2.1.name = "<init>") (hcl : μ.2.1.cls = q.1) (ho : AH[o]? = some (.inl (ci, fs))) (hj : j < fs.length) (hfin : (q.2.1 j).2.2.2 = true) (h1 : ∀ a, narrow (cty ci j) (.ref a) = .ref a) (h2 : ∀ a, fits (cty ci j) (.ref a) = true) (k : X sc d μ (pc + 3) ls st (AH.set o (.inl (ci, fs.set j (.ref k0)))) r AH') : X sc d μ pc ls (.ref k0 :: .ref o :: st) AH r AH' := by
  have hcs : csize (.inl (ci, fs.set j (.ref k0))) = csize (.inl (ci, fs)) := by simp [csize]
  refine ⟨X_set_mono ho hcs k.1, fun G p l e R s m args below meth c H locs cells slots Q lsA b ad A H0 n0 s0 hC => ?_⟩
  rw [List.map_cons, List.map_cons, cv_ref hn, cv_ref hn0]
  obtain ⟨hq, hjN, hw⟩ := hl
  have hk := cls_ok hq
  refine va_putF (v := .ref (ad.getD k0 0)) hC.1.1 hC.1.2.1 hC.1.2.2.2.2.1 hk.2.2.1 (cty ci) hk.1 hk.2.1 hC.1.2.2.2.1 hC.2.2.2.1.1.1 hC.2.2.1.2.1 (aW_D hC.2.2.1 hC.2.2.2.2.1.2.2) hC.2.2.2.2.1.1 o (wsl_get ho) hq j hjN (hC.1.2.2.2.2.1 _ hw) (fun x h => by rw [hk.2.2.2 j hjN] at h; exact h) hfin (hC.1.2.2.2.2.2 hin) ((hk.2.2.2 j hjN).trans hcl.symm) (hk.1 j hjN) (h1 _) (h2 _) (by simpa using hj) hd (fun H1 locs1 hP1 hD1 hS1 => ?_)
  have ee : (Sum.inr (ci, (fs.map (cv b ad)).set j (.ref (ad.getD k0 0))) : va_E) = cvc G b ad (.inl (ci, fs.set j (.ref k0))) := by simp [cvc, cv, List.map_set, hn0]
  exact k.2 G p l e R s m args below meth c H1 locs1 cells slots Q lsA b ad A H0 n0 s0 (Cx_set hC ho hcs (by rw [← ee]; exact hP1) (by rw [← ee]; exact hD1) hS1)
theorem getD_set {xs : List Int32} {i : Nat} {x : Int32} (h : i < xs.length) : (fun j => (xs.set i x).getD j 0) = upd (fun j => xs.getD j 0) i x := by
  funext j
  by_cases hj : j = i
  · subst hj
    simp [upd, List.getD_eq_getElem?_getD, h]
  · simp [upd, hj, List.getD_eq_getElem?_getD, List.getElem?_set_ne (Ne.symm hj)]
theorem x_iaload {a : Nat} {i : Int32} {xs : List Int32} (hd : decode μ.1 pc = .ok (.iaload, 1)) (hn : a ≠ scrId) (ha : AH[a]? = some (.inr (.inl (0, xs)))) (hi : vp_in i xs.length) (k : X sc d μ (pc + 1) ls (.int (xs.getD i.toNatClampNeg 0) :: st) AH r AH') : X sc d μ pc ls (.int i :: .ref a :: st) AH r AH' := by
  refine ⟨k.1, fun G p l e R s m args below meth c H locs cells slots Q lsA b ad A H0 n0 s0 hC => ?_⟩
  rw [List.map_cons, List.map_cons, cv_ref hn]
  exact va_iald hC.1.1 hC.1.2.1 hC.2.2.2.1.1.1 hC.2.2.1.2.1 a 0 (wsl_get ha) rfl hi hd (k.2 G p l e R s m args below meth c H locs cells slots Q lsA b ad A H0 n0 s0 hC)
theorem x_baload {a : Nat} {i : Int32} {xs : List Int32} (hd : decode μ.1 pc = .ok (.baload, 1)) (hn : a ≠ scrId) (ha : AH[a]? = some (.inr (.inl (1, xs)))) (hi : vp_in i xs.length) (k : X sc d μ (pc + 1) ls (.int (xs.getD i.toNatClampNeg 0) :: st) AH r AH') : X sc d μ pc ls (.int i :: .ref a :: st) AH r AH' := by
  refine ⟨k.1, fun G p l e R s m args below meth c H locs cells slots Q lsA b ad A H0 n0 s0 hC => ?_⟩
  rw [List.map_cons, List.map_cons, cv_ref hn]
  exact va_zald hC.1.1 hC.1.2.1 hC.2.2.2.1.1.1 hC.2.2.1.2.1 a 1 (wsl_get ha) rfl hi hd (k.2 G p l e R s m args below meth c H locs cells slots Q lsA b ad A H0 n0 s0 hC)
theorem x_caload {a : Nat} {i : Int32} {xs : List Int32} (hd : decode μ.1 pc = .ok (.caload, 1)) (hn : a ≠ scrId) (ha : AH[a]? = some (.inr (.inl (2, xs)))) (hi : vp_in i xs.length) (k : X sc d μ (pc + 1) ls (.int (xs.getD i.toNatClampNeg 0) :: st) AH r AH') : X sc d μ pc ls (.int i :: .ref a :: st) AH r AH' := by
  refine ⟨k.1, fun G p l e R s m args below meth c H locs cells slots Q lsA b ad A H0 n0 s0 hC => ?_⟩
  rw [List.map_cons, List.map_cons, cv_ref hn]
  exact va_cald hC.1.1 hC.1.2.1 hC.2.2.2.1.1.1 hC.2.2.1.2.1 a 2 (wsl_get ha) rfl hi hd (k.2 G p l e R s m args below meth c H locs cells slots Q lsA b ad A H0 n0 s0 hC)
theorem vp_in_lt {i : Int32} {n : Nat} (h : vp_in i n) : i.toNatClampNeg < n := Nat.not_le.mp fun q => h (Or.inr q)
theorem x_iastore {a : Nat} {i x : Int32} {xs : List Int32} (hd : decode μ.1 pc = .ok (.iastore, 1)) (hn : a ≠ scrId) (ha : AH[a]? = some (.inr (.inl (0, xs)))) (hi : vp_in i xs.length) (k : X sc d μ (pc + 1) ls st (AH.set a (.inr (.inl (0, xs.set i.toNatClampNeg x)))) r AH') : X sc d μ pc ls (.int x :: .int i :: .ref a :: st) AH r AH' := by
  have hcs : csize (.inr (.inl (0, xs.set i.toNatClampNeg x))) = csize (.inr (.inl (0, xs))) := by simp [csize]
  refine ⟨X_set_mono ha hcs k.1, fun G p l e R s m args below meth c H locs cells slots Q lsA b ad A H0 n0 s0 hC => ?_⟩
  rw [List.map_cons, List.map_cons, List.map_cons, cv_ref hn]
  refine va_iast hC.1.1 hC.1.2.1 hC.2.2.2.1.1.1 hC.2.2.1.2.1 (aW_D hC.2.2.1 hC.2.2.2.2.1.2.2) hC.2.2.2.2.1.1 a 0 (wsl_get ha) rfl hi hd (fun H1 locs1 hP1 hD1 hS1 => ?_)
  have ee : cvc G b ad (.inr (.inl (0, xs.set i.toNatClampNeg x))) = .inl (G.2.2 0, xs.length, .inl (upd (fun j => xs.getD j 0) i.toNatClampNeg x)) := by simp only [cvc, List.length_set, getD_set (vp_in_lt hi)]
  exact k.2 G p l e R s m args below meth c H1 locs1 cells slots Q lsA b ad A H0 n0 s0 (Cx_set hC ha hcs (by rw [ee]; exact hP1) (by rw [ee]; exact hD1) hS1)
theorem x_bastore {a : Nat} {i x : Int32} {xs : List Int32} (hd : decode μ.1 pc = .ok (.bastore, 1)) (hn : a ≠ scrId) (ha : AH[a]? = some (.inr (.inl (1, xs)))) (hi : vp_in i xs.length) (k : X sc d μ (pc + 1) ls st (AH.set a (.inr (.inl (1, xs.set i.toNatClampNeg (vp_nar .boolean x))))) r AH') : X sc d μ pc ls (.int x :: .int i :: .ref a :: st) AH r AH' := by
  have hcs : csize (.inr (.inl (1, xs.set i.toNatClampNeg (vp_nar .boolean x)))) = csize (.inr (.inl (1, xs))) := by simp [csize]
  refine ⟨X_set_mono ha hcs k.1, fun G p l e R s m args below meth c H locs cells slots Q lsA b ad A H0 n0 s0 hC => ?_⟩
  rw [List.map_cons, List.map_cons, List.map_cons, cv_ref hn]
  refine va_zast hC.1.1 hC.1.2.1 hC.2.2.2.1.1.1 hC.2.2.1.2.1 (aW_D hC.2.2.1 hC.2.2.2.2.1.2.2) hC.2.2.2.2.1.1 a 1 (wsl_get ha) rfl hi hd (fun H1 locs1 hP1 hD1 hS1 => ?_)
  have ee : cvc G b ad (.inr (.inl (1, xs.set i.toNatClampNeg (vp_nar .boolean x)))) = .inl (G.2.2 1, xs.length, .inl (upd (fun j => xs.getD j 0) i.toNatClampNeg (vp_nar .boolean x))) := by simp only [cvc, List.length_set, getD_set (vp_in_lt hi)]
  exact k.2 G p l e R s m args below meth c H1 locs1 cells slots Q lsA b ad A H0 n0 s0 (Cx_set hC ha hcs (by rw [ee]; exact hP1) (by rw [ee]; exact hD1) hS1)
theorem x_castore {a : Nat} {i x : Int32} {xs : List Int32} (hd : decode μ.1 pc = .ok (.castore, 1)) (hn : a ≠ scrId) (ha : AH[a]? = some (.inr (.inl (2, xs)))) (hi : vp_in i xs.length) (k : X sc d μ (pc + 1) ls st (AH.set a (.inr (.inl (2, xs.set i.toNatClampNeg (vp_nar .char x))))) r AH') : X sc d μ pc ls (.int x :: .int i :: .ref a :: st) AH r AH' := by
  have hcs : csize (.inr (.inl (2, xs.set i.toNatClampNeg (vp_nar .char x)))) = csize (.inr (.inl (2, xs))) := by simp [csize]
  refine ⟨X_set_mono ha hcs k.1, fun G p l e R s m args below meth c H locs cells slots Q lsA b ad A H0 n0 s0 hC => ?_⟩
  rw [List.map_cons, List.map_cons, List.map_cons, cv_ref hn]
  refine va_cast hC.1.1 hC.1.2.1 hC.2.2.2.1.1.1 hC.2.2.1.2.1 (aW_D hC.2.2.1 hC.2.2.2.2.1.2.2) hC.2.2.2.2.1.1 a 2 (wsl_get ha) rfl hi hd (fun H1 locs1 hP1 hD1 hS1 => ?_)
  have ee : cvc G b ad (.inr (.inl (2, xs.set i.toNatClampNeg (vp_nar .char x)))) = .inl (G.2.2 2, xs.length, .inl (upd (fun j => xs.getD j 0) i.toNatClampNeg (vp_nar .char x))) := by simp only [cvc, List.length_set, getD_set (vp_in_lt hi)]
  exact k.2 G p l e R s m args below meth c H1 locs1 cells slots Q lsA b ad A H0 n0 s0 (Cx_set hC ha hcs (by rw [ee]; exact hP1) (by rw [ee]; exact hD1) hS1)
theorem x_alen {a : Nat} {t : Nat} {xs : List Int32} (ht : t < 3) (hd : decode μ.1 pc = .ok (.arraylength, 1)) (hn : a ≠ scrId) (ha : AH[a]? = some (.inr (.inl (t, xs)))) (k : X sc d μ (pc + 1) ls (.int (Int32.ofNat xs.length) :: st) AH r AH') : X sc d μ pc ls (.ref a :: st) AH r AH' := by
  refine ⟨k.1, fun G p l e R s m args below meth c H locs cells slots Q lsA b ad A H0 n0 s0 hC => ?_⟩
  rw [List.map_cons, cv_ref hn]
  rcases (show t = 0 ∨ t = 1 ∨ t = 2 by omega) with rfl | rfl | rfl
  · exact va_alen hC.1.1 hC.1.2.1 hC.2.2.2.1.1.1 hC.2.2.1.2.1 a 0 (wsl_get ha) (ty := .int) rfl rfl hd (k.2 G p l e R s m args below meth c H locs cells slots Q lsA b ad A H0 n0 s0 hC)
  · exact va_alen hC.1.1 hC.1.2.1 hC.2.2.2.1.1.1 hC.2.2.1.2.1 a 1 (wsl_get ha) (ty := .boolean) rfl rfl hd (k.2 G p l e R s m args below meth c H locs cells slots Q lsA b ad A H0 n0 s0 hC)
  · exact va_alen hC.1.1 hC.1.2.1 hC.2.2.2.1.1.1 hC.2.2.1.2.1 a 2 (wsl_get ha) (ty := .char) rfl rfl hd (k.2 G p l e R s m args below meth c H locs cells slots Q lsA b ad A H0 n0 s0 hC)
theorem x_aaload {a k0 : Nat} {i : Int32} {rs : List (Option Nat)} (hd : decode μ.1 pc = .ok (.aaload, 1)) (hn : a ≠ scrId) (hn0 : k0 ≠ scrId) (ha : AH[a]? = some (.inr (.inr rs))) (hi : vp_in i rs.length) (hk : rs.getD i.toNatClampNeg none = some k0) (k : X sc d μ (pc + 1) ls (.ref k0 :: st) AH r AH') : X sc d μ pc ls (.int i :: .ref a :: st) AH r AH' := by
  refine ⟨k.1, fun G p l e R s m args below meth c H locs cells slots Q lsA b ad A H0 n0 s0 hC => ?_⟩
  rw [List.map_cons, List.map_cons, cv_ref hn]
  refine va_aldq hC.1.1 hC.1.2.1 hC.2.2.2.1.1.1 hC.2.2.1.2.1 a 3 (wsl_get ha) (C := "BarterRings$Market") rfl hi hd ?_
  have h := k.2 G p l e R s m args below meth c H locs cells slots Q lsA b ad A H0 n0 s0 hC
  rw [List.map_cons, cv_ref hn0] at h
  have ee : va_rf ((rs.getD i.toNatClampNeg none).map (fun k => ad.getD k 0)) = .ref (ad.getD k0 0) := by rw [hk]; rfl
  show W p l e R s m args below meth c H locs cells slots Q (F0 m (pc + 1) lsA (va_rf ((rs.getD i.toNatClampNeg none).map (fun k => ad.getD k 0)) :: st.map (cv b ad)))
  rw [ee]
  exact h
theorem x_aastore {a k0 : Nat} {i : Int32} {rs : List (Option Nat)} {vs : List Value} (hd : decode μ.1 pc = .ok (.aastore, 1)) (hn : a ≠ scrId) (hn0 : k0 ≠ scrId) (ha : AH[a]? = some (.inr (.inr rs))) (hv : AH[k0]? = some (.inl (2, vs))) (hi : vp_in i rs.length) (k : X sc d μ (pc + 1) ls st (AH.set a (.inr (.inr (rs.set i.toNatClampNeg (some k0))))) r AH') : X sc d μ pc ls (.ref k0 :: .int i :: .ref a :: st) AH r AH' := by
  have hcs : csize (.inr (.inr (rs.set i.toNatClampNeg (some k0)))) = csize (.inr (.inr rs)) := by simp [csize]
  refine ⟨X_set_mono ha hcs k.1, fun G p l e R s m args below meth c H locs cells slots Q lsA b ad A H0 n0 s0 hC => ?_⟩
  rw [List.map_cons, List.map_cons, List.map_cons, cv_ref hn, cv_ref hn0]
  refine va_astq hC.1.1 hC.1.2.1 hC.2.2.2.1.1.1 hC.2.2.1.2.1 (aW_D hC.2.2.1 hC.2.2.2.2.1.2.2) hC.2.2.2.2.1.1 a 3 k0 2 (r := (RX2, TX2, 18)) (wsl_get ha) rfl (wsl_get hv) rfl hi hd (fun H1 locs1 hP1 hD1 hS1 => ?_)
  have ee : cvc G b ad (.inr (.inr (rs.set i.toNatClampNeg (some k0)))) = .inl (G.2.2 3, rs.length, .inr (.inr (.inr (.inr (va_up (fun j => (rs.getD j none).map (fun k => ad.getD k 0)) i.toNatClampNeg (some (ad.getD k0 0))))))) := by
    simp only [cvc, List.length_set]
    congr 7
    funext j
    by_cases hj : j = i.toNatClampNeg
    · subst hj
      simp [va_up, List.getD_eq_getElem?_getD, vp_in_lt hi]
    · simp [va_up, hj, List.getD_eq_getElem?_getD, List.getElem?_set_ne (Ne.symm hj)]
  exact k.2 G p l e R s m args below meth c H1 locs1 cells slots Q lsA b ad A H0 n0 s0 (Cx_set hC ha hcs (by rw [ee]; exact hP1) (by rw [ee]; exact hD1) hS1)
def cpL (xs ys : List Int32) (sp dp n : Nat) : List Int32 := (List.range ys.length).map (fun k => if dp ≤ k ∧ k < dp + n then xs.getD (sp + (k - dp)) 0 else ys.getD k 0)
theorem x_copy {idx a0 a : Nat} {sp dp n : Int32} {xs ys : List Int32} (hd : decode μ.1 pc = .ok (.invokestatic idx, 3)) (hw : Cond.methodLink μ.2.1.cls idx arraycopyName ∈ WA) (hdd : 1 ≤ d) (hn0 : a0 ≠ scrId) (hn : a ≠ scrId) (ha0 : AH[a0]? = some (.inr (.inl (0, xs)))) (ha : AH[a]? = some (.inr (.inl (0, ys)))) (h1 : ¬ sp < 0) (h2 : ¬ dp < 0) (h3 : ¬ n < 0) (h4 : sp.toNatClampNeg + n.toNatClampNeg ≤ xs.length) (h5 : dp.toNatClampNeg + n.toNatClampNeg ≤ ys.length) (hst : (st.map fun v => v.category).sum ≤ 8)
    (k : X sc d μ (pc + 3) ls st (AH.set a (.inr (.inl (0, cpL xs ys sp.toNatClampNeg dp.toNatClampNeg n.toNatClampNeg)))) r AH') : X sc d μ pc ls (.int n :: .int dp :: .ref a :: .int sp :: .ref a0 :: st) AH r AH' := by
  have hcs : csize (.inr (.inl (0, cpL xs ys sp.toNatClampNeg dp.toNatClampNeg n.toNatClampNeg))) = csize (.inr (.inl (0, ys))) := by simp [csize, cpL]
  refine ⟨X_set_mono ha hcs k.1, fun G p l e R s m args below meth c H locs cells slots Q lsA b ad A H0 n0 s0 hC => ?_⟩
  simp only [List.map_cons, cv_ref hn, cv_ref hn0]
  have hts := hC.1.2.2.2.2.1
  have hcat : ((st.map (cv b ad)).map fun v => v.category).sum = (st.map fun v => v.category).sum := by
    rw [List.map_map]
    congr 1
    exact List.map_congr_left (fun v _ => cv_cat v)
  have hnf : nativeFrameWords "java/lang/System" "arraycopy" 5 = 7 := by decide
  refine va_copyi hC.1.1 hC.1.2.1 (hC.1.2.2.1.trans hC.2.1.1.symm) hC.1.2.2.2.1 (hts _ hw) (hts (.native arraycopyName) wa_cp1) (hts (.static arraycopyName) wa_cp2) (hts (.initialized "java/lang/System") wa_cp3) hC.2.2.2.1.1.1 hC.2.2.1.2.1 (aW_D hC.2.2.1 hC.2.2.2.2.1.2.2) hC.2.2.2.2.1.1 a0 a 0 0 (wsl_get ha0) (wsl_get ha) rfl rfl rfl h1 h2 h3 h4 h5 (fun i _ => rfl) (Nat.le_trans hdd hC.2.2.2.2.2.1.1) (by rw [hcat, hnf]; have := hC.2.2.2.2.2.1.2; omega) hd (fun H1 locs1 hP1 hD1 hS1 => ?_)
  have ee : cvc G b ad (.inr (.inl (0, cpL xs ys sp.toNatClampNeg dp.toNatClampNeg n.toNatClampNeg))) = .inl (G.2.2 0, ys.length, .inl (va_cpy (fun j => xs.getD j 0) (fun j => ys.getD j 0) sp.toNatClampNeg dp.toNatClampNeg n.toNatClampNeg)) := by
    simp only [cvc]
    have e1 : (cpL xs ys sp.toNatClampNeg dp.toNatClampNeg n.toNatClampNeg).length = ys.length := by simp [cpL]
    have e2 : (fun j => (cpL xs ys sp.toNatClampNeg dp.toNatClampNeg n.toNatClampNeg).getD j 0) = va_cpy (fun j => xs.getD j 0) (fun j => ys.getD j 0) sp.toNatClampNeg dp.toNatClampNeg n.toNatClampNeg := by
      funext j
      by_cases hj : j < ys.length
      · simp [cpL, va_cpy, List.getD_eq_getElem?_getD, hj]
      · have h6 : ¬ (dp.toNatClampNeg ≤ j ∧ j < dp.toNatClampNeg + n.toNatClampNeg) := by omega
        simp only [va_cpy, if_neg h6]
        simp [cpL, List.getD_eq_getElem?_getD, hj]
    rw [e1, e2]
  exact k.2 G p l e R s m args below meth c H1 locs1 cells slots Q lsA b ad A H0 n0 s0 (Cx_set hC ha hcs (by rw [ee]; exact hP1) (by rw [ee]; exact hD1) hS1)
end HP
end
section
section NW
variable {sc : cS} {d : Nat} {μ : Md} {pc : Nat} {ls : List (Option Value)} {st : List Value} {AH AH' : List AC} {r : Option Value}
def okS (AH : List AC) (ls : List (Option Value)) (st : List Value) : Bool := okH AH && okL AH.length ls && st.all (okv AH.length) && decide (AH.length ≠ scrId)
theorem okS_spec (h : okS AH ls st = true) : okH AH = true ∧ okL AH.length ls = true ∧ st.all (okv AH.length) = true ∧ AH.length ≠ scrId := by
  simp only [okS, Bool.and_eq_true, decide_eq_true_eq] at h
  exact ⟨h.1.1.1, h.1.1.2, h.1.2, h.2⟩
theorem Cx_push {G : cG} {p : Program} {l : Launch} {e : Env} {R : Room} {s : State} {m : MethodId} {args : Array Value} {below : List Frame} {meth : Method} {c : Code} {H H1 : Heap} {locs locs1 : List Loc} {cells slots : Nat} {Q : State → Prop} {lsA : Array Slot} {b q : Nat} {ad : List Nat} {A : Nat → Prop} {H0 : Heap} {n0 s0 n : Nat} (hC : Cx sc G μ d ls AH r AH' p l e R s m args below meth c H locs cells slots Q lsA b ad A H0 n0 s0) {c1 : AC} (hc : csize c1 = n) (ho : okS AH ls st = true)
    (hP1 : va_P (G.1, G.2.1) vwCl (wsl G b ad AH ++ [(q, cvc G b (ad ++ [q]) c1)]) H1) (hD1 : va_D A (wsl G b ad AH ++ [(q, cvc G b (ad ++ [q]) c1)])) (hS1 : va_S A H0 H1 locs1) : Cx sc G μ d ls (AH ++ [c1]) r AH' p l e R s m args below meth c H1 locs1 (cells + 1) (slots + n) Q lsA b (ad ++ [q]) A H0 n0 s0 := by
  obtain ⟨o1, o2, -, -⟩ := okS_spec ho
  obtain ⟨h1, h2, h3, h4, ⟨h5, h6, h7⟩, h8, ⟨h9, h10, h11, h12⟩, h13⟩ := hC
  have hq : A q := hD1.2 AH.length (q, cvc G b (ad ++ [q]) c1) (by rw [List.getElem?_append_right (by rw [wsl_len]; exact Nat.le_refl _), wsl_len, Nat.sub_self]; rfl)
  rw [wsl_push h3.1 o1] at hP1 hD1
  rw [← h3.1] at o2
  refine ⟨h1, lsOK_ext h2 o2, aW_of (by simp [h3.1]) hP1 hD1, h4, ⟨hS1, h6, fun x hx => ?_⟩, h8, ⟨by simp; omega, by rw [csz_push, hc]; omega, h11, h12⟩, fun pc' lsB st' ex H' locs' c' s' e1 e2 e3 e6 e4 e5 => ?_⟩
  · rcases List.mem_append.mp hx with h | h
    · exact h7 x h
    · rw [List.mem_singleton.mp h]; exact hq
  · rw [List.append_assoc] at e2 e6 ⊢
    exact h13 pc' lsB st' ([q] ++ ex) H' locs' c' s' e1 e2 e3 e6 e4 e5
theorem push_st {b q : Nat} {ad : List Nat} (hl : ad.length = AH.length) (ho : okS AH ls st = true) : (Value.ref AH.length :: st).map (cv b (ad ++ [q])) = .ref q :: st.map (cv b ad) := by
  obtain ⟨-, -, o3, o4⟩ := okS_spec ho
  rw [List.map_cons, cv_ref o4, st_ext (by rw [hl]; exact o3)]
  simp [List.getD_eq_getElem?_getD, ← hl]
theorem X_push_mono {c1 : AC} (h : (AH ++ [c1]).length ≤ AH'.length ∧ csz (AH ++ [c1]) ≤ csz AH') : AH.length + 1 ≤ AH'.length ∧ csz AH + csize c1 ≤ csz AH' := by
  rw [csz_push] at h
  exact ⟨by simpa using h.1, h.2⟩
def dfl (ci N : Nat) : List Value := (List.range N).map (fun j => defaultValue (cty ci j))
theorem cv_dfl {b : Nat} {ad : List Nat} (ty : FieldType) : cv b ad (defaultValue ty) = defaultValue ty := by cases ty <;> rfl
theorem x_new {idx ci : Nat} {q : vw_C} (hd : decode μ.1 pc = .ok (.new idx, 3)) (hq : vwCl[ci]? = some q) (hw1 : Cond.classLink μ.2.1.cls idx q.1 ∈ WA) (hw2 : Cond.instantiable q.1 q.2.2 ∈ WA) (hw3 : Cond.initialized q.1 ∈ WA) (ho : okS AH ls st = true) (k : X sc d μ (pc + 3) ls (.ref AH.length :: st) (AH ++ [.inl (ci, dfl ci q.2.2)]) r AH') : X sc d μ pc ls st AH r AH' := by
  have hm := X_push_mono k.1
  refine ⟨⟨by omega, by omega⟩, fun G p l e R s m args below meth c H locs cells slots Q lsA b ad A H0 n0 s0 hC => ?_⟩
  have hk := cls_ok hq
  have hts := hC.1.2.2.2.2.1
  obtain ⟨r1, r2, r3, r4⟩ := hC.2.2.2.2.2.2.1
  have hsz : csize (.inl (ci, dfl ci q.2.2)) = q.2.2 := by simp [csize, dfl]
  rw [hsz] at hm
  have ev : cvc G b (ad ++ [0]) (.inl (ci, dfl ci q.2.2)) = .inr (ci, dfl ci q.2.2) := by
    simp only [cvc, dfl, List.map_map]
    congr 2
    exact List.map_congr_left (fun j _ => cv_dfl _)
  refine va_new (ci := ci) (fs := dfl ci q.2.2) (C := q.1) (T := q.2.1) (N := q.2.2) hC.1.1 hC.1.2.1 hts hk.2.2.1 (cty ci) hk.1 hC.1.2.2.2.1 (hts _ hw1) (hts _ hw2) (hts _ hw3) hC.2.2.2.1.1.1 hC.2.2.1.2.1 (aW_D hC.2.2.1 hC.2.2.2.2.1.2.2) hC.2.2.2.2.1.1 hC.2.2.2.2.1.2.1 hq (fun j hj => by simp [vp_V, dfl, List.getD_eq_getElem?_getD, hj]) (by omega) (by omega) hd (fun q1 H1 hP1 hD1 hS1 => ?_)
  have ev1 : cvc G b (ad ++ [q1]) (.inl (ci, dfl ci q.2.2)) = .inr (ci, dfl ci q.2.2) := by
    simp only [cvc, dfl, List.map_map]
    congr 2
    exact List.map_congr_left (fun j _ => cv_dfl _)
  rw [← push_st (b := b) hC.2.2.1.1 ho]
  exact k.2 G p l e R s m args below meth c H1 locs (cells + 1) (slots + q.2.2) Q lsA b (ad ++ [q1]) A H0 n0 s0 (Cx_push hC hsz ho (by rw [ev1]; exact hP1) (by rw [ev1]; exact hD1) hS1)
theorem arr_uniq {G : cG} {s : State} {cA : ClassId} {ty : FieldType} (t : Nat) (ht : t < 4) (hty : ty = tyN t) (hK : va_K (G.1, G.2.1) vwCl (tysG G ++ [(cA, ty)]) s) : cA = G.2.2 t := by
  subst hty
  have h1 := (hK.2 4 (cA, tyN t) rfl).2
  rcases (show t = 0 ∨ t = 1 ∨ t = 2 ∨ t = 3 by omega) with rfl | rfl | rfl | rfl
  · have h2 := (hK.2 0 (G.2.2 0, .int) rfl).2
    exact Option.some.inj (h1.symm.trans h2)
  · have h2 := (hK.2 1 (G.2.2 1, .boolean) rfl).2
    exact Option.some.inj (h1.symm.trans h2)
  · have h2 := (hK.2 2 (G.2.2 2, .char) rfl).2
    exact Option.some.inj (h1.symm.trans h2)
  · have h2 := (hK.2 3 (G.2.2 3, .object "BarterRings$Market") rfl).2
    obtain ⟨-, -, -, -, -, g1⟩ := h1
    obtain ⟨-, -, -, -, -, g2⟩ := h2
    exact Option.some.inj (g1.symm.trans g2)
theorem x_newarray {atype : ArrayType} {n : Int32} (t : Nat) (ht : t < 3) (hat : newarray.typeOf atype = tyN t) (hdv : defaultValue (tyN t) = .int 0) (hw : Cond.arrayClass (newarray.typeOf atype) ∈ WA) (hd : decode μ.1 pc = .ok (.newarray atype, 2)) (hn : ¬ n < 0) (hN : n.toNatClampNeg ≤ 1000) (hcb : componentBytes (newarray.typeOf atype) ≤ 8) (ho : okS AH ls st = true) (k : X sc d μ (pc + 2) ls (.ref AH.length :: st) (AH ++ [.inr (.inl (t, List.replicate n.toNatClampNeg 0))]) r AH') : X sc d μ pc ls (.int n :: st) AH r AH' := by
  have hm := X_push_mono k.1
  refine ⟨⟨by omega, by omega⟩, fun G p l e R s m args below meth c H locs cells slots Q lsA b ad A H0 n0 s0 hC => ?_⟩
  have hts := hC.1.2.2.2.2.1
  obtain ⟨r1, r2, r3, r4⟩ := hC.2.2.2.2.2.2.1
  have hsz : csize (.inr (.inl (t, List.replicate n.toNatClampNeg 0))) = n.toNatClampNeg := by simp [csize]
  rw [hsz] at hm
  have hb : n.toNatClampNeg * componentBytes (newarray.typeOf atype) ≤ 536870912 := Nat.le_trans (Nat.mul_le_mul hN hcb) (by decide)
  refine va_newa hC.1.1 hC.1.2.1 (atype := atype) (hts _ hw) rfl hC.2.2.2.1.1.1 hC.2.2.1.2.1 (aW_D hC.2.2.1 hC.2.2.2.2.1.2.2) hC.2.2.2.2.1.1 hC.2.2.2.2.1.2.1 (a0 := (n.toNatClampNeg, .inl (fun j => (List.replicate n.toNatClampNeg 0).getD j 0))) (fun cA => ?_) hn rfl hb (by omega) (by omega) hd (fun q1 cA H1 hK1 hP1 hD1 hS1 => ?_)
  · rw [vp_cell_i, hat, hdv]
    congr 1
    funext j
    simp only [List.getD_eq_getElem?_getD, List.getElem?_replicate]
    split <;> rfl
  have hu := arr_uniq t (by omega) hat hK1
  have ev1 : cvc G b (ad ++ [q1]) (.inr (.inl (t, List.replicate n.toNatClampNeg 0))) = .inl (cA, n.toNatClampNeg, .inl (fun j => (List.replicate n.toNatClampNeg 0).getD j 0)) := by
    simp only [cvc, List.length_replicate, hu]
  rw [← push_st (b := b) hC.2.2.1.1 ho]
  exact k.2 G p l e R s m args below meth c H1 locs (cells + 1) (slots + n.toNatClampNeg) Q lsA b (ad ++ [q1]) A H0 n0 s0 (Cx_push hC hsz ho (by rw [ev1]; exact hP1) (by rw [ev1]; exact hD1) hS1)
theorem x_anewarray {idx : Nat} {n : Int32} (hd : decode μ.1 pc = .ok (.anewarray idx, 3)) (hw : Cond.classLink μ.2.1.cls idx "BarterRings$Market" ∈ WA) (hn : ¬ n < 0) (hN : n.toNatClampNeg ≤ 1000) (ho : okS AH ls st = true) (k : X sc d μ (pc + 3) ls (.ref AH.length :: st) (AH ++ [.inr (.inr (List.replicate n.toNatClampNeg none))]) r AH') : X sc d μ pc ls (.int n :: st) AH r AH' := by
  have hm := X_push_mono k.1
  refine ⟨⟨by omega, by omega⟩, fun G p l e R s m args below meth c H locs cells slots Q lsA b ad A H0 n0 s0 hC => ?_⟩
  have hts := hC.1.2.2.2.2.1
  obtain ⟨r1, r2, r3, r4⟩ := hC.2.2.2.2.2.2.1
  have hsz : csize (.inr (.inr (List.replicate n.toNatClampNeg none))) = n.toNatClampNeg := by simp [csize]
  rw [hsz] at hm
  refine va_newq hC.1.1 hC.1.2.1 hC.1.2.2.2.1 (hts _ hw) hC.2.2.2.1.1.2.2 hC.2.2.2.1.1.1 hC.2.2.1.2.1 (aW_D hC.2.2.1 hC.2.2.2.2.1.2.2) hC.2.2.2.2.1.1 hC.2.2.2.2.1.2.1 hn rfl (by omega) (by omega) (by omega) hd (fun q1 cA H1 hK1 hP1 hD1 hS1 => ?_)
  have hu := arr_uniq 3 (by omega) rfl hK1
  have ev1 : cvc G b (ad ++ [q1]) (.inr (.inr (List.replicate n.toNatClampNeg none))) = .inl (cA, n.toNatClampNeg, .inr (.inr (.inr (.inr (fun _ => none))))) := by
    simp only [cvc, List.length_replicate, hu]
    congr 7
    funext j
    simp only [List.getD_eq_getElem?_getD, List.getElem?_replicate]
    split <;> rfl
  rw [← push_st (b := b) hC.2.2.1.1 ho]
  exact k.2 G p l e R s m args below meth c H1 locs (cells + 1) (slots + n.toNatClampNeg) Q lsA b (ad ++ [q1]) A H0 n0 s0 (Cx_push hC hsz ho (by rw [ev1]; exact hP1) (by rw [ev1]; exact hD1) hS1)
theorem x_objInit {idx o : Nat} (hd : decode μ.1 pc = .ok (.invokespecial idx, 3)) (hdd : 1 ≤ d) (hn : o ≠ scrId) (hw : Cond.methodLink μ.2.1.cls idx Lib.objectInit ∈ WA) (hst : (st.map fun v => v.category).sum ≤ 8) (k : X sc d μ (pc + 3) ls st AH r AH') : X sc d μ pc ls (.ref o :: st) AH r AH' := by
  refine ⟨k.1, fun G p l e R s m args below meth c H locs cells slots Q lsA b ad A H0 n0 s0 hC => ?_⟩
  rw [List.map_cons, cv_ref hn]
  have hts := hC.1.2.2.2.2.1
  have hcat : ((st.map (cv b ad)).map fun v => v.category).sum = (st.map fun v => v.category).sum := by
    rw [List.map_map]
    congr 1
    exact List.map_congr_left (fun v _ => cv_cat v)
  refine W.objInit hC.1.1 hC.1.2.1 hC.1.2.2.2.1 (hts _ hw) (hts _ wa_oi1) (hts _ wa_oi2) rfl (hC.2.1.1.trans hC.1.2.2.1.symm) rfl hd (Nat.le_trans hdd hC.2.2.2.2.2.1.1) ?_ (k.2 G p l e R s m args below meth c H locs cells slots Q lsA b ad A H0 n0 s0 hC)
  show 2 * 0 + _ + 12 ≤ R.locals
  rw [hcat]
  have := hC.2.2.2.2.2.1.2
  omega
end NW
/-! a whole method as a contract -/
def aA (ad : List Nat) (sz : Nat) : Nat → Prop := fun q => q ∈ ad ∨ sz ≤ q
def aP (G : cG) (b : Nat) (ad : List Nat) (AH : List AC) (sz : Nat) (U : State) : Prop := U.heap.size = sz ∧ aW G b ad AH U.heap ∧ aK G U
def aQ (G : cG) (b : Nat) (ad : List Nat) (sz : Nat) (r : Option Value) (AH' : List AC) : Array Value → State → Outcome → State → Prop := fun _ st oc t => (∃ ex : List Nat, oc = .returned (r.map (cv b (ad ++ ex))) ∧ aW G b (ad ++ ex) AH' t.heap ∧ ∀ x ∈ ad ++ ex, aA ad sz x) ∧ va_F (aA ad sz) st t
theorem aK_moved {G : cG} {s U : State} (hW : s.WarmedH U.vm) (h : aK G s) : aK G U := ⟨va_K.moved hW.alike h.1, fun q hq => va_Nw.warmM hW (h.2.1 q hq), va_AO.moved hW.alike h.2.2⟩
theorem aK_calling {G : cG} {U : State} {g : JFrame} {mk : MethodId} {a : Array Value} (h : aK G U) : aK G (U.calling g mk a) := ⟨va_K.moved (u := U) (U := U.calling g mk a) (Vm.Alike.refl U.vm) h.1, fun q hq => va_Nw.same rfl rfl (h.2.1 q hq), va_AO.moved (u := U) (U := U.calling g mk a) (Vm.Alike.refl U.vm) h.2.2⟩
theorem lg_sl_one {vs : List Value} (h : ∀ v ∈ vs, v.category = 1) : lg_sl vs = vs.map Slot.val := by
  induction vs with
  | nil => rfl
  | cons v vs ih =>
    have h1 : ¬ v.category = 2 := by have := h v List.mem_cons_self; omega
    have h2 := ih (fun w hw => h w (List.mem_cons_of_mem _ hw))
    simp only [lg_sl] at h2
    simp [lg_sl, h1, h2]
theorem lsOK_entry {b : Nat} {ad : List Nat} {as : List Value} {n : Nat} (hc : ∀ v ∈ as, v.category = 1) (hl : as.length ≤ n) : lsOK ((lg_sl (as.map (cv b ad)) ++ List.replicate (n - (lg_sl (as.map (cv b ad))).length) Slot.unset).toArray) n b ad (lent n as) := by
  have hc2 : ∀ v ∈ as.map (cv b ad), v.category = 1 := by
    intro v hv
    obtain ⟨w, hw, rfl⟩ := List.mem_map.mp hv
    rw [cv_cat]
    exact hc w hw
  have hsl := lg_sl_one hc2
  have h := lv_entry (as.map (cv b ad)) (n := n) (by rw [hsl]; simpa using hl)
  refine ⟨h.1, h.2.1, fun i v hv => ?_⟩
  have hi : i < as.length := by
    rcases Nat.lt_or_ge i as.length with q | q
    · exact q
    · simp only [lent] at hv
      rw [List.getElem?_append_right (by simpa using q)] at hv
      have := List.eq_of_mem_replicate (List.mem_of_getElem? hv)
      cases this
  have hv2 : as[i]? = some v := by
    simp only [lent] at hv
    rw [List.getElem?_append_left (by simpa using hi)] at hv
    rw [List.getElem?_map] at hv
    cases hq : as[i]? with
    | none => rw [hq] at hv; cases hv
    | some w => rw [hq] at hv; simp at hv; rw [hv]
  rw [hsl]
  have hv3 := (List.getElem?_eq_some_iff.mp hv2).2
  simp [hi, List.getElem?_append_left, hv3]
theorem met_of {l : Launch} {h : Nat} {μ : Md} {as : List Value} {AH AH' : List AC} {r : Option Value} (hX : X none h μ 0 (lent μ.2.2.1 as) [] AH r AH') (hc : ∀ v ∈ as, v.category = 1) (hl : as.length ≤ μ.2.2.1) (hp : plainName μ.2.1.cls = true) (G : cG) (b : Nat) (ad : List Nat) (sz : Nat) :
    Met l μ.2.1 (.code μ.2.1 μ.1 μ.2.2.1 μ.2.2.2 :: WA) { frames := h, cells := AH'.length - AH.length, slots := csz AH' - csz AH, locals := 40 * h } (va_Pc (as.map (cv b ad)) (aP G b ad AH sz)) (aQ G b ad sz r AH') (AH'.length - AH.length) (csz AH' - csz AH) (aA ad sz) := by
  refine Met.ofW (cc := μ.1) (maxL := μ.2.2.1) (ret := μ.2.2.2) hp rfl ?_
  intro p e s m args below meth c s₁ B hml hv
  obtain ⟨rfl, hsz, hW, hK⟩ := hv
  have hts := atoms_spec (ws := Cond.code μ.2.1 μ.1 μ.2.2.1 μ.2.2.2 :: WA) B.pre
  have hown : s.vm.findClass μ.2.1.cls = some m.cls := findClass_of_methodNamed B.named
  have hlocks := B.notSynchronized
  have hr := B.returns
  have hnm : meth.name = μ.2.1.name := (name_of_methodNamed B.named B.method).1
  obtain ⟨m1, m2⟩ := hX.1
  rw [lg_entry_eq]
  subst hsz
  refine hX.2 G p l e _ s m _ below meth c s.heap [] 0 0 _ _ b ad (aA ad s.heap.size) s.heap AH.length (csz AH) ⟨⟨B.exec, B.bytes, hml, hown, fun w hw => hts w (List.mem_cons_of_mem _ hw), fun h => hnm.trans h⟩, lsOK_entry hc hl, hW, ⟨hK, trivial⟩, ⟨va_S.rf, fun q hq => Or.inr hq, fun x hx => Or.inl hx⟩, ⟨Nat.le_refl _, Nat.le_refl _⟩, ⟨by omega, by omega, by show _ ≤ (AH'.length - AH.length) + AH.length; omega, by show _ ≤ (csz AH' - csz AH) + csz AH; omega⟩, fun pc' lsB st' ex H' locs' c' s' he hW' hS' hex h1 h2 => ?_⟩
  have e1 : c' = AH'.length - AH.length := by omega
  have e2 : s' = csz AH' - csz AH := by omega
  subst e1; subst e2
  have hq : ∀ t : State, t.heap = H' → s.WarmedH t.vm → aQ G b ad s.heap.size r AH' (as.map (cv b ad)).toArray s (.returned (r.map (cv b (ad ++ ex)))) t := fun t ht _ => ⟨⟨ex, rfl, by rw [ht]; exact hW', hex⟩, hS'.F ht⟩
  rcases he with ⟨hd, rfl, rfl, hrt⟩ | ⟨v, ty, hd, rfl, rfl, hrt, hn⟩ | ⟨v, hd, rfl, rfl, hrt⟩ | ⟨k, C, hd, rfl, rfl, hrt⟩
  · exact W.vret B.exec B.bytes (hr.trans hrt) hq hS'.2.2 hd
  · exact W.zret B.exec B.bytes (hr.trans hrt) hn hq hS'.2.2 hd
  · exact W.dret B.exec B.bytes (hr.trans hrt) hq hS'.2.2 hd
  · exact W.aret B.exec B.bytes (hr.trans hrt) (Or.inl ⟨C, rfl⟩) (Or.inr ⟨_, rfl⟩) hq hS'.2.2 hd
end
section
def MdOK (μ : Md) (n : Nat) : Prop := Cond.initialized μ.2.1.cls ∈ WA ∧ Cond.code μ.2.1 μ.1 μ.2.2.1 μ.2.2.2 ∈ WA ∧ (μ.2.1.cls ≠ "java/lang/invoke/MethodHandle" ∧ μ.2.1.cls ≠ "java/lang/invoke/VarHandle") ∧ plainName μ.2.1.cls = true ∧ (parseMethodDescriptor μ.2.1.desc).map (fun d => d.parameters.length) = some n ∧ μ.2.2.1 ≤ 20
def MdV (μ : Md) (n : Nat) : Prop := MdOK μ n ∧ Cond.instanceMethod μ.2.1 ∈ WA ∧ Cond.selects μ.2.1.cls μ.2.1 μ.2.1 ∈ WA
def MdS (μ : Md) (n : Nat) : Prop := MdOK μ n ∧ Cond.static μ.2.1 ∈ WA
def MdI (μ : Md) (n : Nat) : Prop := MdOK μ n ∧ Cond.instanceMethod μ.2.1 ∈ WA ∧ μ.2.1.name = "<init>" ∧ μ.2.2.2 = none
theorem w_call {p : Program} {l : Launch} {e : Env} {R : Room} {s : State} {m : MethodId} {args : Array Value} {below : List Frame} {meth : Method} {c : Code} {H : Heap} {locs : List Loc} {cells slots mc ms : Nat} {Q : State → Prop} {pc : Nat} {lsA : Array Slot} {st0 rest : List Value} {Qa : State → Outcome → State → Prop} {free : Addr → Prop}
    (hr : va_Run p l e R s m args below meth c H locs cells slots mc ms (F0 m pc lsA st0) rest Qa free)
    (kk : ∀ (v : Option Value) (st₀ t : State) (H1 : Heap) (L : List Loc), st₀.heap = H → t.heap = H1 → Qa st₀ (.returned v) t → (∀ q ∈ L, free q.base) → W p l e R s m args below meth c H1 (locs ++ L) (cells + mc) (slots + ms) Q (F0 m (pc + 3) lsA (v.toList ++ rest))) : W p l e R s m args below meth c H locs cells slots Q (F0 m pc lsA st0) := by
  intro T hT X
  obtain ⟨v, st₀, t, T', L, h0, X', hL, e1, e2, hq, st⟩ := hr T hT X
  obtain ⟨t2, a1, b1⟩ := kk v st₀ t T'.heap L h0 e1.symm hq hL T' rfl X'
  exact ⟨t2, st t2 a1, b1⟩
section CL
variable {sc : cS} {d h : Nat} {μ μ' : Md} {pc idx n : Nat} {ls : List (Option Value)} {st as : List Value} {AH AH1 AH' : List AC} {r r1 : Option Value}
theorem x_call_aux {ls0 : List (Option Value)} (hX : X none h μ' 0 ls0 [] AH r1 AH1) (k : X sc d μ (pc + 3) ls (r1.toList ++ st) AH1 r AH') (hext : AH1.length = AH.length ∨ okS AH ls st = true)
    {G : cG} {p : Program} {l : Launch} {e : Env} {R : Room} {s : State} {m : MethodId} {args : Array Value} {below : List Frame} {meth : Method} {c : Code} {H : Heap} {locs : List Loc} {cells slots : Nat} {Q : State → Prop} {lsA : Array Slot} {b : Nat} {ad : List Nat} {A : Nat → Prop} {H0 : Heap} {n0 s0 : Nat} (hC : Cx sc G μ d ls AH r AH' p l e R s m args below meth c H locs cells slots Q lsA b ad A H0 n0 s0) {stk : List Value} {a' : Array Value}
    (hr : va_Run p l e R s m args below meth c H locs cells slots (AH1.length - AH.length) (csz AH1 - csz AH) (F0 m pc lsA stk) (st.map (cv b ad)) (aQ G b ad H.size r1 AH1 a') (aA ad H.size)) : W p l e R s m args below meth c H locs cells slots Q (F0 m pc lsA stk) := by
  refine w_call hr (fun v st₀ t H1 L h0 ht hq hL => ?_)
  obtain ⟨h1, h2, h3, h4, ⟨h5, h6, h7⟩, h8, ⟨h9, h10, h11, h12⟩, h13⟩ := hC
  obtain ⟨⟨ex, hv, hW1, hex⟩, hF1, hF2⟩ := hq
  have hv2 : v = r1.map (cv b (ad ++ ex)) := by injection hv
  subst hv2
  rw [h0] at hF1 hF2
  subst ht
  have hA1 : ∀ x, aA ad H.size x → A x := fun x hx => hx.elim (h7 x) (fun q => h6 x (Nat.le_trans h5.1 q))
  have hst : st.map (cv b ad) = st.map (cv b (ad ++ ex)) ∧ lsOK lsA μ.2.2.1 b (ad ++ ex) ls := by
    rcases hext with q | q
    · have : ex = [] := by
        have := hW1.1
        rw [List.length_append, h3.1, q] at this
        exact List.eq_nil_of_length_eq_zero (by omega)
      subst this
      rw [List.append_nil]
      exact ⟨rfl, h2⟩
    · obtain ⟨-, o2, o3, -⟩ := okS_spec q
      rw [← h3.1] at o2 o3
      exact ⟨(st_ext o3).symm, lsOK_ext h2 o2⟩
  have hstk : (r1.map (cv b (ad ++ ex))).toList ++ st.map (cv b ad) = (r1.toList ++ st).map (cv b (ad ++ ex)) := by
    rw [List.map_append, hst.1]
    cases r1 <;> rfl
  rw [hstk]
  obtain ⟨m1, m2⟩ := hX.1
  refine k.2 G p l e R s m args below meth c t.heap (locs ++ L) _ _ Q lsA b (ad ++ ex) A H0 n0 s0 ⟨h1, hst.2, hW1, h4, ⟨⟨Nat.le_trans h5.1 hF1, fun q g1 g2 => ?_, fun q hq => ?_⟩, h6, fun x hx => hA1 x (hex x hx)⟩, h8, ⟨by omega, by omega, h11, h12⟩, fun pc' lsB st' ex' H' locs' c' s' e1 e2 e3 e4 e5 e6 => ?_⟩
  · rw [hF2 q (Nat.lt_of_lt_of_le g1 h5.1) (fun z => g2 (hA1 q z))]
    exact h5.2.1 q g1 g2
  · rcases List.mem_append.mp hq with z | z
    · exact h5.2.2 q z
    · exact hA1 _ (hL q z)
  · rw [List.append_assoc] at e2 e4 ⊢
    exact h13 pc' lsB st' (ex ++ ex') H' locs' c' s' e1 e2 e3 e4 e5 e6
theorem cat_map {b : Nat} {ad : List Nat} : ((st.map (cv b ad)).map fun v => v.category).sum = (st.map fun v => v.category).sum := by
  rw [List.map_map]
  congr 1
  exact List.map_congr_left (fun v _ => cv_cat v)
theorem aP_blind {G : cG} {b sz : Nat} {ad : List Nat} {av : List Value} : FrameBlind (va_Pc av (aP G b ad AH sz)) := fun _ _ _ _ q => ⟨q.1, q.2.1, q.2.2.1, aK_calling q.2.2.2⟩
theorem aP_at {G : cG} {b : Nat} {ad : List Nat} {av : List Value} {s : State} {H : Heap} (hW : aW G b ad AH H) (hK : aK G s) : ∀ U : State, U.heap = H → s.WarmedH U.vm → va_Pc av (aP G b ad AH H.size) av.toArray U := fun U hU hV => ⟨rfl, by rw [hU], by rw [hU]; exact hW, aK_moved hV hK⟩
theorem callB_ok {R : Room} {s : State} {args : Array Value} {mc ms : Nat} (hm : MdOK μ' n) (hts : ∀ w ∈ WA, w.before args s = true) (hw : (Cond.methodLink μ.2.1.cls idx μ'.2.1) ∈ WA) (hh : h + 1 ≤ d) (h8 : d ≤ R.frames ∧ 40 * d ≤ R.locals) :
    CallB R s args μ.2.1.cls idx μ'.2.1 μ'.1 μ'.2.2.1 μ'.2.2.2 (.code μ'.2.1 μ'.1 μ'.2.2.1 μ'.2.2.2 :: WA) { frames := h, cells := mc, slots := ms, locals := 40 * h } mc ms n := by
  obtain ⟨k1, k2, k3, k4, k5, k6⟩ := hm
  refine ⟨rfl, rfl, by show h + 1 ≤ R.frames; omega, by show 8 + (μ'.2.2.1 + 11) + 40 * h ≤ R.locals; omega, pay_in hts (fun w hw => ?_), List.mem_cons_self, hts _ k2, hts _ k1, k3, fun sig hs => ?_, hts _ hw⟩
  · rcases List.mem_cons.mp hw with rfl | hw
    · exact wa_good _ k2
    · exact wa_good _ hw
  · rw [hs] at k5
    exact (Option.some.inj k5).symm
theorem x_callV {o ci : Nat} {fs stk : List Value} {q : vw_C} (hm : MdV μ' n) (hw : (Cond.methodLink μ.2.1.cls idx μ'.2.1) ∈ WA) (hd : decode μ.1 pc = .ok (.invokevirtual idx, 3)) (hs : stk = as.reverse ++ .ref o :: st) (hX : X none h μ' 0 (lent μ'.2.2.1 (.ref o :: as)) [] AH r1 AH1) (hh : h + 1 ≤ d) (hn : as.length = n) (hc : ∀ v ∈ as, v.category = 1) (hl : as.length + 1 ≤ μ'.2.2.1) (hno : o ≠ scrId) (ho : AH[o]? = some (.inl (ci, fs))) (hq : vwCl[ci]? = some q) (hcq : μ'.2.1.cls = q.1) (hst : (st.map fun v => v.category).sum ≤ 8) (hext : AH1.length = AH.length ∨ okS AH ls st = true) (k : X sc d μ (pc + 3) ls (r1.toList ++ st) AH1 r AH') : X sc d μ pc ls stk AH r AH' := by
  obtain ⟨m1, m2⟩ := hX.1
  obtain ⟨g1, g2⟩ := k.1
  refine ⟨⟨by omega, by omega⟩, fun G p l e R s m args below meth c H locs cells slots Q lsA b ad A H0 n0 s0 hC => ?_⟩
  have hts := hC.1.2.2.2.2.1
  obtain ⟨f1, f2, f3, f4⟩ := hC.2.2.2.2.2.2.1
  have hM := met_of (l := l) hX (fun v hv => (List.mem_cons.mp hv).elim (fun z => by rw [z]; rfl) (hc v)) hl hm.1.2.2.2.1 G b ad H.size
  rw [List.map_cons, cv_ref hno] at hM
  refine x_call_aux hX k hext hC (a' := (Value.ref (ad.getD o 0) :: as.map (cv b ad)).toArray) (va_runV (C := μ'.2.1.cls) (b := ad.getD o 0) (As := as.map (cv b ad)) ⟨hC.1.1, hC.1.2.1, hC.1.2.2.1, hC.1.2.2.2.1, hts⟩ hM ⟨callB_ok hm.1 hts hw hh hC.2.2.2.2.2.1, hts _ hm.2.1, hts _ hm.2.2⟩ ⟨aP_blind, ?_, aP_at hC.2.2.1 hC.2.2.2.1.1⟩ rfl (by simpa using hn) hC.2.1.1 ?_ ?_ hd ⟨by omega, by omega⟩)
  · rw [hcq]
    exact va_recv hC.2.2.2.1.1.1 hC.2.2.1.2.1 (q0 := o) hq (wsl_get ho)
  · show stk.map (cv b ad) = _
    rw [hs]
    simp [List.map_reverse, cv_ref hno]
  · show 2 * 0 + _ ≤ 8
    rw [cat_map]
    omega
theorem x_callS {stk : List Value} (hm : MdS μ' n) (hw : (Cond.methodLink μ.2.1.cls idx μ'.2.1) ∈ WA) (hd : decode μ.1 pc = .ok (.invokestatic idx, 3)) (hs : stk = as.reverse ++ st) (hX : X none h μ' 0 (lent μ'.2.2.1 as) [] AH r1 AH1) (hh : h + 1 ≤ d) (hn : as.length = n) (hc : ∀ v ∈ as, v.category = 1) (hl : as.length ≤ μ'.2.2.1) (hst : (st.map fun v => v.category).sum ≤ 8) (hext : AH1.length = AH.length ∨ okS AH ls st = true) (k : X sc d μ (pc + 3) ls (r1.toList ++ st) AH1 r AH') : X sc d μ pc ls stk AH r AH' := by
  obtain ⟨m1, m2⟩ := hX.1
  obtain ⟨g1, g2⟩ := k.1
  refine ⟨⟨by omega, by omega⟩, fun G p l e R s m args below meth c H locs cells slots Q lsA b ad A H0 n0 s0 hC => ?_⟩
  have hts := hC.1.2.2.2.2.1
  obtain ⟨f1, f2, f3, f4⟩ := hC.2.2.2.2.2.2.1
  have hM := met_of (l := l) hX hc hl hm.1.2.2.2.1 G b ad H.size
  refine x_call_aux hX k hext hC (a' := (as.map (cv b ad)).toArray) (va_runS (As := as.map (cv b ad)) ⟨hC.1.1, hC.1.2.1, hC.1.2.2.1, hC.1.2.2.2.1, hts⟩ hM ⟨callB_ok hm.1 hts hw hh hC.2.2.2.2.2.1, hts _ hm.2⟩ ⟨aP_blind, aP_at hC.2.2.1 hC.2.2.2.1.1⟩ rfl (by simpa using hn) hC.2.1.1 ?_ ?_ hd ⟨by omega, by omega⟩)
  · show stk.map (cv b ad) = _
    rw [hs]
    simp [List.map_reverse]
  · show 2 * 0 + _ ≤ 8
    rw [cat_map]
    omega
theorem x_callI {o : Nat} {stk : List Value} (hm : MdI μ' n) (hw : (Cond.methodLink μ.2.1.cls idx μ'.2.1) ∈ WA) (hd : decode μ.1 pc = .ok (.invokespecial idx, 3)) (hs : stk = as.reverse ++ .ref o :: st) (hX : X none h μ' 0 (lent μ'.2.2.1 (.ref o :: as)) [] AH r1 AH1) (hh : h + 1 ≤ d) (hn : as.length = n) (hc : ∀ v ∈ as, v.category = 1) (hl : as.length + 1 ≤ μ'.2.2.1) (hno : o ≠ scrId) (hst : (st.map fun v => v.category).sum ≤ 8) (hext : AH1.length = AH.length ∨ okS AH ls st = true) (k : X sc d μ (pc + 3) ls (r1.toList ++ st) AH1 r AH') : X sc d μ pc ls stk AH r AH' := by
  obtain ⟨m1, m2⟩ := hX.1
  obtain ⟨g1, g2⟩ := k.1
  refine ⟨⟨by omega, by omega⟩, fun G p l e R s m args below meth c H locs cells slots Q lsA b ad A H0 n0 s0 hC => ?_⟩
  have hts := hC.1.2.2.2.2.1
  obtain ⟨f1, f2, f3, f4⟩ := hC.2.2.2.2.2.2.1
  have hM := met_of (l := l) hX (fun v hv => (List.mem_cons.mp hv).elim (fun z => by rw [z]; rfl) (hc v)) hl hm.1.2.2.2.1 G b ad H.size
  rw [List.map_cons, cv_ref hno] at hM
  have hB : CallB R s args μ.2.1.cls idx μ'.2.1 μ'.1 μ'.2.2.1 none (.code μ'.2.1 μ'.1 μ'.2.2.1 μ'.2.2.2 :: WA) { frames := h, cells := AH1.length - AH.length, slots := csz AH1 - csz AH, locals := 40 * h } (AH1.length - AH.length) (csz AH1 - csz AH) n := by
    have h1 := callB_ok (μ := μ) (mc := AH1.length - AH.length) (ms := csz AH1 - csz AH) hm.1 hts hw hh hC.2.2.2.2.2.1
    rw [hm.2.2.2] at h1 ⊢
    exact h1
  refine x_call_aux hX k hext hC (a' := (Value.ref (ad.getD o 0) :: as.map (cv b ad)).toArray) (va_runI (b := ad.getD o 0) (As := as.map (cv b ad)) ⟨hC.1.1, hC.1.2.1, hC.1.2.2.1, hC.1.2.2.2.1, hts⟩ hM ⟨hB, hm.2.2.1, hts _ hm.2.1⟩ ⟨aP_blind, aP_at hC.2.2.1 hC.2.2.2.1.1⟩ rfl (by simpa using hn) hC.2.1.1 ?_ ?_ hd ⟨by omega, by omega⟩)
  · show stk.map (cv b ad) = _
    rw [hs]
    simp [List.map_reverse, cv_ref hno]
  · show 2 * 0 + _ ≤ 8
    rw [cat_map]
    omega
theorem cn_ok {R : Room} {s : State} {args : Array Value} {mc ms : Nat} {ret : Option FieldType} (hret : μ'.2.2.2 = ret) (hm : MdOK μ' n) (hts : ∀ w ∈ WA, w.before args s = true) (hw : va_Nw (.methodLinkNest μ.2.1.cls idx μ'.2.1 "BarterRings") s) (hh : h + 1 ≤ d) (h8 : d ≤ R.frames ∧ 40 * d ≤ R.locals) :
    va_CN R s args μ.2.1.cls idx μ'.2.1 "BarterRings" μ'.1 μ'.2.2.1 ret (.code μ'.2.1 μ'.1 μ'.2.2.1 μ'.2.2.2 :: WA) { frames := h, cells := mc, slots := ms, locals := 40 * h } mc ms n := by
  subst hret
  obtain ⟨k1, k2, k3, k4, k5, k6⟩ := hm
  refine ⟨⟨rfl, rfl, by show h + 1 ≤ R.frames; omega, by show 8 + (μ'.2.2.1 + 11) + 40 * h ≤ R.locals; omega, pay_in hts (fun w hw => ?_), List.mem_cons_self⟩, hts _ k2, hts _ k1, k3, fun sig hs => ?_, va_Nw.use rfl hw⟩
  · rcases List.mem_cons.mp hw with rfl | hw
    · exact wa_good _ k2
    · exact wa_good _ hw
  · rw [hs] at k5
    exact (Option.some.inj k5).symm
theorem x_callSN {stk : List Value} (hm : MdS μ' n) (hw : (μ.2.1.cls, idx, μ'.2.1) ∈ nests) (hd : decode μ.1 pc = .ok (.invokestatic idx, 3)) (hs : stk = as.reverse ++ st) (hX : X none h μ' 0 (lent μ'.2.2.1 as) [] AH r1 AH1) (hh : h + 1 ≤ d) (hn : as.length = n) (hc : ∀ v ∈ as, v.category = 1) (hl : as.length ≤ μ'.2.2.1) (hst : (st.map fun v => v.category).sum ≤ 8) (hext : AH1.length = AH.length ∨ okS AH ls st = true) (k : X sc d μ (pc + 3) ls (r1.toList ++ st) AH1 r AH') : X sc d μ pc ls stk AH r AH' := by
  obtain ⟨m1, m2⟩ := hX.1
  obtain ⟨g1, g2⟩ := k.1
  refine ⟨⟨by omega, by omega⟩, fun G p l e R s m args below meth c H locs cells slots Q lsA b ad A H0 n0 s0 hC => ?_⟩
  have hts := hC.1.2.2.2.2.1
  obtain ⟨f1, f2, f3, f4⟩ := hC.2.2.2.2.2.2.1
  have hM := met_of (l := l) hX hc hl hm.1.2.2.2.1 G b ad H.size
  have hN := hC.2.2.2.1.1.2.1 _ hw
  refine x_call_aux hX k hext hC (a' := (as.map (cv b ad)).toArray) (va_runSN (As := as.map (cv b ad)) ⟨hC.1.1, hC.1.2.1, hC.1.2.2.1, hC.1.2.2.2.1, hts⟩ hM ⟨cn_ok rfl hm.1 hts hN hh hC.2.2.2.2.2.1, hts _ hm.2, trivial⟩ ⟨aP_blind, aP_at hC.2.2.1 hC.2.2.2.1.1⟩ rfl (by simpa using hn) hC.2.1.1 ?_ ?_ hd ⟨by omega, by omega⟩)
  · show stk.map (cv b ad) = _
    rw [hs]
    simp [List.map_reverse]
  · show 2 * 0 + _ ≤ 8
    rw [cat_map]
    omega
theorem x_callIN {o : Nat} {stk : List Value} (hm : MdI μ' n) (hw : (μ.2.1.cls, idx, μ'.2.1) ∈ nests) (hd : decode μ.1 pc = .ok (.invokespecial idx, 3)) (hs : stk = as.reverse ++ .ref o :: st) (hX : X none h μ' 0 (lent μ'.2.2.1 (.ref o :: as)) [] AH r1 AH1) (hh : h + 1 ≤ d) (hn : as.length = n) (hc : ∀ v ∈ as, v.category = 1) (hl : as.length + 1 ≤ μ'.2.2.1) (hno : o ≠ scrId) (hst : (st.map fun v => v.category).sum ≤ 8) (hext : AH1.length = AH.length ∨ okS AH ls st = true) (k : X sc d μ (pc + 3) ls (r1.toList ++ st) AH1 r AH') : X sc d μ pc ls stk AH r AH' := by
  obtain ⟨m1, m2⟩ := hX.1
  obtain ⟨g1, g2⟩ := k.1
  refine ⟨⟨by omega, by omega⟩, fun G p l e R s m args below meth c H locs cells slots Q lsA b ad A H0 n0 s0 hC => ?_⟩
  have hts := hC.1.2.2.2.2.1
  obtain ⟨f1, f2, f3, f4⟩ := hC.2.2.2.2.2.2.1
  have hM := met_of (l := l) hX (fun v hv => (List.mem_cons.mp hv).elim (fun z => by rw [z]; rfl) (hc v)) hl hm.1.2.2.2.1 G b ad H.size
  rw [List.map_cons, cv_ref hno] at hM
  have hN := hC.2.2.2.1.1.2.1 _ hw
  refine x_call_aux hX k hext hC (a' := (Value.ref (ad.getD o 0) :: as.map (cv b ad)).toArray) (va_runIN (b := ad.getD o 0) (As := as.map (cv b ad)) ⟨hC.1.1, hC.1.2.1, hC.1.2.2.1, hC.1.2.2.2.1, hts⟩ hM ⟨cn_ok hm.2.2.2 hm.1 hts hN hh hC.2.2.2.2.2.1, hm.2.2.1, hts _ hm.2.1⟩ ⟨aP_blind, aP_at hC.2.2.1 hC.2.2.2.1.1⟩ rfl (by simpa using hn) hC.2.1.1 ?_ ?_ hd ⟨by omega, by omega⟩)
  · show stk.map (cv b ad) = _
    rw [hs]
    simp [List.map_reverse, cv_ref hno]
  · show 2 * 0 + _ ≤ 8
    rw [cat_map]
    omega
/-! the law's own script -/
theorem x_sld {L : Nat} {xs : Nat → Int32} {i : Int32} (hd : decode μ.1 pc = .ok (.iaload, 1)) (hi : vp_in i L) (k : X (some (L, xs)) d μ (pc + 1) ls (.int (xs i.toNatClampNeg) :: st) AH r AH') : X (some (L, xs)) d μ pc ls (.int i :: .ref scrId :: st) AH r AH' := by
  refine ⟨k.1, fun G p l e R s m args below meth c H locs cells slots Q lsA b ad A H0 n0 s0 hC => ?_⟩
  obtain ⟨hX, hbl, hbA⟩ := hC.2.2.2.1.2
  have e1 : cv b ad (.ref scrId) = .ref b := by simp [cv]
  rw [List.map_cons, List.map_cons, e1]
  exact va_sld hC.1.1 hC.1.2.1 hX hbl hbA hC.2.2.2.2.1.1 hi hd (k.2 G p l e R s m args below meth c H locs cells slots Q lsA b ad A H0 n0 s0 hC)
theorem x_slen {L : Nat} {xs : Nat → Int32} (hd : decode μ.1 pc = .ok (.arraylength, 1)) (k : X (some (L, xs)) d μ (pc + 1) ls (.int (Int32.ofNat L) :: st) AH r AH') : X (some (L, xs)) d μ pc ls (.ref scrId :: st) AH r AH' := by
  refine ⟨k.1, fun G p l e R s m args below meth c H locs cells slots Q lsA b ad A H0 n0 s0 hC => ?_⟩
  obtain ⟨hX, hbl, hbA⟩ := hC.2.2.2.1.2
  have e1 : cv b ad (.ref scrId) = .ref b := by simp [cv]
  rw [List.map_cons, e1]
  exact va_slen hC.1.1 hC.1.2.1 hX hbl hbA hC.2.2.2.2.1.1 hd (k.2 G p l e R s m args below meth c H locs cells slots Q lsA b ad A H0 n0 s0 hC)
/-- more room, or other locals -/
theorem X.more {d' : Nat} (hd : d ≤ d') (k : X sc d μ pc ls st AH r AH') : X sc d' μ pc ls st AH r AH' := ⟨k.1, fun G p l e R s m args below meth c H locs cells slots Q lsA b ad A H0 n0 s0 hC => k.2 G p l e R s m args below meth c H locs cells slots Q lsA b ad A H0 n0 s0 ⟨hC.1, hC.2.1, hC.2.2.1, hC.2.2.2.1, hC.2.2.2.2.1, ⟨by have := hC.2.2.2.2.2.1.1; omega, by have := hC.2.2.2.2.2.1.2; omega⟩, hC.2.2.2.2.2.2⟩⟩
theorem X.lsw {ls' : List (Option Value)} (hl : ∀ (i : Nat) (v : Value), ls'[i]? = some (some v) → ls[i]? = some (some v)) (k : X sc d μ pc ls' st AH r AH') : X sc d μ pc ls st AH r AH' := ⟨k.1, fun G p l e R s m args below meth c H locs cells slots Q lsA b ad A H0 n0 s0 hC => k.2 G p l e R s m args below meth c H locs cells slots Q lsA b ad A H0 n0 s0 (Cx_ls hC ⟨hC.2.1.1, hC.2.1.2.1, fun i v h => hC.2.1.2.2 i v (hl i v h)⟩)⟩
end CL
end
section
-- ===== what follows PART A in the skeleton, up to YOUR PART: the claim's own words of the law =====
/-- the streams that the claim lets the run draw from -/
abbrev lw_cs : List Choice := [Jvm.Choice.named "NaN.bits"]
theorem lw_bits : nanBits ∈ lw_cs := by first | decide | exact List.mem_cons_self | simp [lw_cs, nanBits]
-- ===== end of PART A; then your names; then what follows =====
/-! THE CLAIM OUT OF ONE WALK OF THE LAW'S BODY. Your part is whole_start (and what it stands on); all else here is the same for every law, but numbers. -/
def R_law : String := "BarterRingsLaw"
def lw_P (b : Addr) (xs : List Int32) (args : Array Value) (s : State) : Prop := args = #[.ref b] ∧ s.IntsAt b xs ∧ xs.length ≤ 1536 ∧ (Jvm.Cond.and given_1 narrow_1).before args s = true
/-- what a walk over the start with the record d0 says of its end, said of the start itself -/
theorem lw_closed {s t : State} {o : Outcome} {d0 : Drawn} {L : List Loc} {k n : Nat} (hd0 : s.drawn.sameBut d0 lw_cs) (hv : ∃ v, o = .returned v) (hW : (s.setDrawn d0).WarmedH t.vm) (hs : (s.setDrawn d0).sameButNew ({ t with vm := s.vm } : State) L k n) : State.butDraws s t lw_cs (fun t1 => Framed s o t1 L k n) := by
  have h2 : t.drawn = d0 := congrArg State.drawn hs.1
  refine ⟨⟨hv, hW, State.sameButNew.setDrawn hs s.drawn⟩, ?_, by decide⟩
  rw [h2]
  exact hd0
def lw_Q (_ : Array Value) (s : State) (o : Outcome) (t : State) : Prop := o = .returned (some (.int 1)) ∧ State.butDraws s t lw_cs (fun t1 => Framed s o t1 [] 600000 7302250)
def lw_Z (below : List Frame) (a : Array Value) (s : State) : State → Prop := fun t => ∃ o, t.status = .running ∧ Ended t below o ∧ lw_Q a s o t
/-- the law's own end, with 1 on the stack, nothing written that was there before, its room as the claim has it; d0: the record of draws at this point (at the entry s.drawn: begin with 'refine W.base ?_' and 'have hd0 := Drawn.sameBut.refl s.drawn lw_cs') -/
theorem lw_ret {p : Program} {l : Launch} {e : Env} {s : State} {m : MethodId} {below : List Frame} {meth : Method} {c : Code} {b : Nat} {d0 : Drawn} (hd0 : s.drawn.sameBut d0 lw_cs) (hx : p.tables.exec = Jvm.exec) (hb : c.code = code) (hr : meth.sig.returnType = ret) (hlocks : meth.locks = false) {pc : Nat} {H : Heap} {ls : Array Slot} (hdg : decode code pc = .ok (.ireturn, 1)) : W p l e room_1 (s.setDrawn d0) m #[Value.ref b] below meth c H [] 600000 7302250 (lw_Z below #[Value.ref b] s) (F0 m pc ls [.int 1]) := by
  intro T hT X
  obtain ⟨fs, hret, hrun, hended, hW, hframe⟩ := X.leave (v := some (.int 1)) (hlocks := hlocks) (fun h => by rw [hr] at h; cases h)
  have hmeth' : T.vm.method? m = some meth := X.method'
  refine ⟨T.setFrames fs, ?_, .returned (some (.int 1)), hrun, hended, rfl, lw_closed hd0 ⟨_, rfl⟩ hW hframe⟩
  jvm_step X.here [X.here.top, hx, hb, hdg, hmeth', hr, ret, narrow_b1]
  (try refine ⟨rfl, ?_⟩); (try refine ⟨rfl, ?_⟩)
  first | (intro acts; rw [hret _ acts rfl rfl rfl]) | rw [hret _ _ rfl rfl rfl]
  exact Steps.refl _
/-- what holds at the law's entry: the machine, the code, the tables' words (any of lw_tbl by 'hts w (by decide +kernel)'), the script of L ints xs at the cell b, what the Statement gives of the start (any of its parts by flat_of_before) -/
def lw_At (p : Program) (s : State) (m : MethodId) (meth : Method) (c : Code) (b L : Nat) (xs : Nat → Int32) : Prop :=
  p.tables.exec = Jvm.exec ∧ c.code = code ∧ meth.sig.returnType = ret ∧ c.maxLocals = 8 ∧ s.vm.findClass R_law = some m.cls ∧ (∀ w ∈ lw_tbl, w.before #[Value.ref b] s = true) ∧ va_X b L xs s s.heap ∧ b < s.heap.size ∧ meth.locks = false ∧ (Jvm.Cond.and given_1 narrow_1).before #[Value.ref b] s = true
def m_law : Md := (code, x, 8, ret)
set_option maxRecDepth 100000 in
theorem nests_in : ∀ q ∈ nests, (Cond.methodLinkNest q.1 q.2.1 q.2.2 "BarterRings") ∈ tables_1 := List.forall_mem_cons.mpr ⟨List.mem_of_getElem? (i := 126) rfl, List.forall_mem_cons.mpr ⟨List.mem_of_getElem? (i := 141) rfl, List.forall_mem_cons.mpr ⟨List.mem_of_getElem? (i := 167) rfl, List.forall_mem_cons.mpr ⟨List.mem_of_getElem? (i := 318) rfl, List.forall_mem_cons.mpr ⟨List.mem_of_getElem? (i := 326) rfl, List.forall_mem_cons.mpr ⟨List.mem_of_getElem? (i := 363) rfl, List.forall_mem_cons.mpr ⟨List.mem_of_getElem? (i := 371) rfl, List.forall_mem_cons.mpr ⟨List.mem_of_getElem? (i := 376) rfl, List.forall_mem_cons.mpr ⟨List.mem_of_getElem? (i := 447) rfl, List.forall_mem_cons.mpr ⟨List.mem_of_getElem? (i := 515) rfl, List.forall_mem_cons.mpr ⟨List.mem_of_getElem? (i := 516) rfl, fun _ h => absurd h List.not_mem_nil⟩⟩⟩⟩⟩⟩⟩⟩⟩⟩⟩
set_option maxRecDepth 100000 in
theorem G_of {s : State} {b : Nat} (hts : ∀ w ∈ lw_tbl, w.before #[Value.ref b] s = true) : ∃ G : cG, aK G s := by
  have hW : ∀ w ∈ WA, w.before #[Value.ref b] s = true := fun w hw => hts w (List.mem_filter.mp hw).1
  have hT : ∀ (w : Cond) (i : Nat), tables_1[i]? = some w → w.before #[Value.ref b] s = true := fun w i h => hts w (List.mem_append_right _ (List.mem_of_getElem? h))
  obtain ⟨c0, i0, h0⟩ := u_known (C := RX0) (T := TX0) (N := 6) (n := 6) hW cls_ok0.2.2.1 (hT _ 140 rfl)
  obtain ⟨c1, i1, h1⟩ := u_known (C := RX1) (T := TX1) (N := 3) (n := 3) hW cls_ok1.2.2.1 (hT _ 105 rfl)
  obtain ⟨c2, i2, h2⟩ := u_known (C := RX2) (T := TX2) (N := 18) (n := 18) hW cls_ok2.2.2.1 (hT _ 21 rfl)
  obtain ⟨c3, i3, h3⟩ := u_known (C := RX3) (T := TX3) (N := 2) (n := 2) hW cls_ok3.2.2.1 (hT _ 125 rfl)
  obtain ⟨c4, i4, h4⟩ := u_known (C := RX4) (T := TX4) (N := 6) (n := 6) hW cls_ok4.2.2.1 (hT _ 166 rfl)
  obtain ⟨c5, i5, h5⟩ := u_known (C := RX5) (T := TX5) (N := 10) (n := 10) hW cls_ok5.2.2.1 (hT _ 13 rfl)
  obtain ⟨c6, i6, h6⟩ := u_known (C := RX6) (T := TX6) (N := 17) (n := 17) hW cls_ok6.2.2.1 (hT _ 619 rfl)
  obtain ⟨a0, k0, m0, p1, p2, p3⟩ := Cond.arrayClass_spec (hT (.arrayClass .int) 103 rfl)
  obtain ⟨a1, k1, m1, q1, q2, q3⟩ := Cond.arrayClass_spec (hT (.arrayClass .boolean) 164 rfl)
  obtain ⟨a2, k2, m2, r1, r2, r3⟩ := Cond.arrayClass_spec (hT (.arrayClass .char) 138 rfl)
  have hAO : va_AO "BarterRings$Market" s := va_AO.of (hT (.arrayOver (.object "BarterRings$Market")) 111 rfl)
  obtain ⟨m3, a3, k3, t1, -, t3, t4, t5⟩ := Cond.arrayOver_spec hAO
  refine ⟨(fun k => match k with | 0 => c0 | 1 => c1 | 2 => c2 | 3 => c3 | 4 => c4 | 5 => c5 | _ => c6, fun k => match k with | 0 => i0 | 1 => i1 | 2 => i2 | 3 => i3 | 4 => i4 | 5 => i5 | _ => i6, fun k => match k with | 0 => a0 | 1 => a1 | 2 => a2 | _ => a3), ⟨fun k q hq => ?_, fun k q hq => ?_⟩, fun q hq => ?_, hAO⟩
  · match k, hq with
    | 0, hq => cases hq; exact h0
    | 1, hq => cases hq; exact h1
    | 2, hq => cases hq; exact h2
    | 3, hq => cases hq; exact h3
    | 4, hq => cases hq; exact h4
    | 5, hq => cases hq; exact h5
    | 6, hq => cases hq; exact h6
    | n + 7, hq => simp [vwCl] at hq
  · match k, hq with
    | 0, hq => cases hq; exact ⟨fun n z => ⟨fun k h => (by cases h), k0, p2, m0, p3⟩, p1⟩
    | 1, hq => cases hq; exact ⟨fun n z => ⟨fun k h => (by cases h), k1, q2, m1, q3⟩, q1⟩
    | 2, hq => cases hq; exact ⟨fun n z => ⟨fun k h => (by cases h), k2, r2, m2, r3⟩, r1⟩
    | 3, hq => cases hq; exact ⟨fun n z => ⟨fun k h => (by cases h), k3, t3, m3, t4⟩, k3, m3, t3, t4, t1, t5⟩
    | n + 4, hq => simp [tysG] at hq
  · have hn : ∀ q ∈ nests, (Cond.methodLinkNest q.1 q.2.1 q.2.2 "BarterRings") ∈ tables_1 := nests_in
    exact va_Nw.of rfl (hts _ (List.mem_append_right _ (hn q hq)))
set_option maxHeartbeats 4000000 in
theorem law_of_X {p : Program} {e : Env} {s : State} {m : MethodId} {below : List Frame} {meth : Method} {c : Code} (l : Launch) {b L : Nat} {xs : Nat → Int32} (C0 : lw_At p s m meth c b L xs) {d : Nat} {AH' : List AC} (hd : d ≤ 2000) (h1 : AH'.length ≤ 600000) (h2 : csz AH' ≤ 7302250)
    (hX : X (some (L, xs)) d m_law 0 (lent 8 [.ref scrId]) [] [] (some (.int 1)) AH') : W p l e room_1 s m #[Value.ref b] below meth c s.heap [] 0 0 (lw_Z below #[Value.ref b] s) (entryFrame m ([Value.ref b] : List Value).toArray 8) := by
  obtain ⟨hx, hb, hr, hml, hown, hts, hXs, hbl, hlocks, hgv⟩ := id C0
  have hd0 := Drawn.sameBut.refl s.drawn lw_cs
  obtain ⟨G, hG⟩ := G_of hts
  have e1 : cv b [] (.ref scrId) = .ref b := by simp [cv]
  have hl := lsOK_entry (b := b) (ad := []) (as := [.ref scrId]) (n := 8) (by simp [Value.category]) (by decide)
  rw [List.map_cons, List.map_nil, e1] at hl
  rw [lg_entry_eq]
  refine hX.2 G p l e room_1 s m _ below meth c s.heap [] 0 0 _ _ b [] (fun q => s.heap.size ≤ q) s.heap 0 0 ⟨⟨hx, hb, hml, hown, fun w hw => hts w (List.mem_filter.mp hw).1, fun h => absurd h (by decide)⟩, hl, ⟨rfl, fun k q h => by simp [wsl] at h, fun i j p q h => by simp [wsl] at h, fun k q h => by simp [wsl] at h⟩, ⟨hG, hXs, hbl, Nat.not_le.mpr hbl⟩, ⟨va_S.rf, fun q h => h, fun x hx => by cases hx⟩, ⟨Nat.le_trans hd (by decide), by show 40 * d ≤ 84000; omega⟩, ⟨rfl, rfl, h1, h2⟩, fun pc' lsB st' ex H' locs' c' s' he hW' hS' hex e4 e5 => ?_⟩
  rcases he with ⟨-, -, hr, -⟩ | ⟨v, ty, hdg, rfl, hr, -, -⟩ | ⟨v, -, -, hr, -⟩ | ⟨k, C, -, -, hr, -⟩
  · cases hr
  · cases hr
    refine W.widen (k := 600000) (n := 7302250) (by omega) (by omega) ?_
    refine va_forget hS'.2.2 ?_
    exact lw_ret hd0 hx hb hr hlocks hdg
  · cases hr
  · cases hr
end
