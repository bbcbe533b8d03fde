section
-- ===== PART A: goes FIRST, ahead of the names: the tables' words, and 'selects' of the private methods out of them =====
/-- a private method of a class that the tables say can be made, by its rows of tables_1 -/
def lw_okq (q : MethodName × Nat) : Prop := (q.1.cls ≠ "java/lang/invoke/MethodHandle" ∧ q.1.cls ≠ "java/lang/invoke/VarHandle") ∧ Cond.instantiable q.1.cls q.2 ∈ tables_1 ∧ Cond.privateMethod q.1 ∈ tables_1 ∧ Cond.instanceMethod q.1 ∈ tables_1
theorem lw_p0 : lw_okq (⟨"BarterRings$History", "rowAt", "(I)LBarterRings$Market;"⟩, 3) := ⟨⟨by decide +kernel, by decide +kernel⟩, List.mem_of_getElem? (i := 105) (by decide +kernel), List.mem_of_getElem? (i := 237) (by decide +kernel), List.mem_of_getElem? (i := 238) (by decide +kernel)⟩
theorem lw_p1 : lw_okq (⟨"BarterRings$Market", "makeWare", "(I)V"⟩, 18) := ⟨⟨by decide +kernel, by decide +kernel⟩, List.mem_of_getElem? (i := 21) (by decide +kernel), List.mem_of_getElem? (i := 255) (by decide +kernel), List.mem_of_getElem? (i := 256) (by decide +kernel)⟩
theorem lw_p2 : lw_okq (⟨"BarterRings$Market", "wantsWareOf", "(II)Z"⟩, 18) := ⟨⟨by decide +kernel, by decide +kernel⟩, List.mem_of_getElem? (i := 21) (by decide +kernel), List.mem_of_getElem? (i := 323) (by decide +kernel), List.mem_of_getElem? (i := 324) (by decide +kernel)⟩
theorem lw_p3 : lw_okq (⟨"BarterRings$Market", "keepWares", "()V"⟩, 18) := ⟨⟨by decide +kernel, by decide +kernel⟩, List.mem_of_getElem? (i := 21) (by decide +kernel), List.mem_of_getElem? (i := 330) (by decide +kernel), List.mem_of_getElem? (i := 331) (by decide +kernel)⟩
theorem lw_p4 : lw_okq (⟨"BarterRings$Market", "takeWare", "(II)V"⟩, 18) := ⟨⟨by decide +kernel, by decide +kernel⟩, List.mem_of_getElem? (i := 21) (by decide +kernel), List.mem_of_getElem? (i := 334) (by decide +kernel), List.mem_of_getElem? (i := 335) (by decide +kernel)⟩
theorem lw_p5 : lw_okq (⟨"BarterRings", "callMarket", "(LBarterRings$Market;)I"⟩, 10) := ⟨⟨by decide +kernel, by decide +kernel⟩, List.mem_of_getElem? (i := 13) (by decide +kernel), List.mem_of_getElem? (i := 342) (by decide +kernel), List.mem_of_getElem? (i := 343) (by decide +kernel)⟩
theorem lw_p6 : lw_okq (⟨"BarterRings$Market", "mayBarter", "(I)Z"⟩, 18) := ⟨⟨by decide +kernel, by decide +kernel⟩, List.mem_of_getElem? (i := 21) (by decide +kernel), List.mem_of_getElem? (i := 360) (by decide +kernel), List.mem_of_getElem? (i := 361) (by decide +kernel)⟩
theorem lw_p7 : lw_okq (⟨"BarterRings$TakerSearch", "chooseGiver", "(III)V"⟩, 6) := ⟨⟨by decide +kernel, by decide +kernel⟩, List.mem_of_getElem? (i := 166) (by decide +kernel), List.mem_of_getElem? (i := 367) (by decide +kernel), List.mem_of_getElem? (i := 368) (by decide +kernel)⟩
theorem lw_p8 : lw_okq (⟨"BarterRings$TakerSearch", "fitsInCircle", "(II)Z"⟩, 6) := ⟨⟨by decide +kernel, by decide +kernel⟩, List.mem_of_getElem? (i := 166) (by decide +kernel), List.mem_of_getElem? (i := 373) (by decide +kernel), List.mem_of_getElem? (i := 374) (by decide +kernel)⟩
theorem lw_p9 : lw_okq (⟨"BarterRings$TakerSearch", "goOn", "(IIII)V"⟩, 6) := ⟨⟨by decide +kernel, by decide +kernel⟩, List.mem_of_getElem? (i := 166) (by decide +kernel), List.mem_of_getElem? (i := 378) (by decide +kernel), List.mem_of_getElem? (i := 379) (by decide +kernel)⟩
theorem lw_p10 : lw_okq (⟨"BarterRings$Market", "renewWare", "(I)V"⟩, 18) := ⟨⟨by decide +kernel, by decide +kernel⟩, List.mem_of_getElem? (i := 21) (by decide +kernel), List.mem_of_getElem? (i := 394) (by decide +kernel), List.mem_of_getElem? (i := 395) (by decide +kernel)⟩
theorem lw_p11 : lw_okq (⟨"BarterRings$Market", "drawLot", "()V"⟩, 18) := ⟨⟨by decide +kernel, by decide +kernel⟩, List.mem_of_getElem? (i := 21) (by decide +kernel), List.mem_of_getElem? (i := 398) (by decide +kernel), List.mem_of_getElem? (i := 399) (by decide +kernel)⟩
theorem lw_p12 : lw_okq (⟨"BarterRings", "doDaysOfPad", "()V"⟩, 10) := ⟨⟨by decide +kernel, by decide +kernel⟩, List.mem_of_getElem? (i := 13) (by decide +kernel), List.mem_of_getElem? (i := 457) (by decide +kernel), List.mem_of_getElem? (i := 458) (by decide +kernel)⟩
theorem lw_p13 : lw_okq (⟨"BarterRings", "doBarterOfPad", "(I)V"⟩, 10) := ⟨⟨by decide +kernel, by decide +kernel⟩, List.mem_of_getElem? (i := 13) (by decide +kernel), List.mem_of_getElem? (i := 461) (by decide +kernel), List.mem_of_getElem? (i := 462) (by decide +kernel)⟩
theorem lw_p14 : lw_okq (⟨"BarterRings", "bestGiver", "(I)I"⟩, 10) := ⟨⟨by decide +kernel, by decide +kernel⟩, List.mem_of_getElem? (i := 13) (by decide +kernel), List.mem_of_getElem? (i := 486) (by decide +kernel), List.mem_of_getElem? (i := 487) (by decide +kernel)⟩
theorem lw_p15 : lw_okq (⟨"BarterRings$CircleSets", "readTakers", "(LBarterRings$Market;)V"⟩, 6) := ⟨⟨by decide +kernel, by decide +kernel⟩, List.mem_of_getElem? (i := 140) (by decide +kernel), List.mem_of_getElem? (i := 508) (by decide +kernel), List.mem_of_getElem? (i := 509) (by decide +kernel)⟩
def lw_privs_1 : List (MethodName × Nat) := [(⟨"BarterRings$History", "rowAt", "(I)LBarterRings$Market;"⟩, 3), (⟨"BarterRings$Market", "makeWare", "(I)V"⟩, 18), (⟨"BarterRings$Market", "wantsWareOf", "(II)Z"⟩, 18), (⟨"BarterRings$Market", "keepWares", "()V"⟩, 18), (⟨"BarterRings$Market", "takeWare", "(II)V"⟩, 18), (⟨"BarterRings", "callMarket", "(LBarterRings$Market;)I"⟩, 10), (⟨"BarterRings$Market", "mayBarter", "(I)Z"⟩, 18), (⟨"BarterRings$TakerSearch", "chooseGiver", "(III)V"⟩, 6), (⟨"BarterRings$TakerSearch", "fitsInCircle", "(II)Z"⟩, 6), (⟨"BarterRings$TakerSearch", "goOn", "(IIII)V"⟩, 6), (⟨"BarterRings$Market", "renewWare", "(I)V"⟩, 18), (⟨"BarterRings$Market", "drawLot", "()V"⟩, 18), (⟨"BarterRings", "doDaysOfPad", "()V"⟩, 10), (⟨"BarterRings", "doBarterOfPad", "(I)V"⟩, 10), (⟨"BarterRings", "bestGiver", "(I)I"⟩, 10), (⟨"BarterRings$CircleSets", "readTakers", "(LBarterRings$Market;)V"⟩, 6)]
theorem lw_r1 : ∀ q ∈ lw_privs_1, lw_okq q := List.forall_mem_cons.mpr ⟨lw_p0, List.forall_mem_cons.mpr ⟨lw_p1, List.forall_mem_cons.mpr ⟨lw_p2, List.forall_mem_cons.mpr ⟨lw_p3, List.forall_mem_cons.mpr ⟨lw_p4, List.forall_mem_cons.mpr ⟨lw_p5, List.forall_mem_cons.mpr ⟨lw_p6, List.forall_mem_cons.mpr ⟨lw_p7, List.forall_mem_cons.mpr ⟨lw_p8, List.forall_mem_cons.mpr ⟨lw_p9, List.forall_mem_cons.mpr ⟨lw_p10, List.forall_mem_cons.mpr ⟨lw_p11, List.forall_mem_cons.mpr ⟨lw_p12, List.forall_mem_cons.mpr ⟨lw_p13, List.forall_mem_cons.mpr ⟨lw_p14, List.forall_mem_cons.mpr ⟨lw_p15, fun _ h => absurd h List.not_mem_nil⟩⟩⟩⟩⟩⟩⟩⟩⟩⟩⟩⟩⟩⟩⟩⟩
theorem lw_p16 : lw_okq (⟨"BarterRings$CircleSets", "findChains", "()V"⟩, 6) := ⟨⟨by decide +kernel, by decide +kernel⟩, List.mem_of_getElem? (i := 140) (by decide +kernel), List.mem_of_getElem? (i := 518) (by decide +kernel), List.mem_of_getElem? (i := 519) (by decide +kernel)⟩
theorem lw_p17 : lw_okq (⟨"BarterRings$CircleSets", "findCircles", "(I)V"⟩, 6) := ⟨⟨by decide +kernel, by decide +kernel⟩, List.mem_of_getElem? (i := 140) (by decide +kernel), List.mem_of_getElem? (i := 525) (by decide +kernel), List.mem_of_getElem? (i := 526) (by decide +kernel)⟩
theorem lw_p18 : lw_okq (⟨"BarterRings$CircleSets", "findBarters", "()I"⟩, 6) := ⟨⟨by decide +kernel, by decide +kernel⟩, List.mem_of_getElem? (i := 140) (by decide +kernel), List.mem_of_getElem? (i := 530) (by decide +kernel), List.mem_of_getElem? (i := 531) (by decide +kernel)⟩
theorem lw_p19 : lw_okq (⟨"BarterRings$CircleSets", "isMadeOfCircles", "(I)Z"⟩, 6) := ⟨⟨by decide +kernel, by decide +kernel⟩, List.mem_of_getElem? (i := 140) (by decide +kernel), List.mem_of_getElem? (i := 534) (by decide +kernel), List.mem_of_getElem? (i := 535) (by decide +kernel)⟩
theorem lw_p20 : lw_okq (⟨"BarterRingsModel", "record", "()V"⟩, 17) := ⟨⟨by decide +kernel, by decide +kernel⟩, List.mem_of_getElem? (i := 619) (by decide +kernel), List.mem_of_getElem? (i := 690) (by decide +kernel), List.mem_of_getElem? (i := 691) (by decide +kernel)⟩
theorem lw_p21 : lw_okq (⟨"BarterRingsModel", "comes", "(II)I"⟩, 17) := ⟨⟨by decide +kernel, by decide +kernel⟩, List.mem_of_getElem? (i := 619) (by decide +kernel), List.mem_of_getElem? (i := 694) (by decide +kernel), List.mem_of_getElem? (i := 695) (by decide +kernel)⟩
theorem lw_p22 : lw_okq (⟨"BarterRingsModel", "isTrader", "(I)Z"⟩, 17) := ⟨⟨by decide +kernel, by decide +kernel⟩, List.mem_of_getElem? (i := 619) (by decide +kernel), List.mem_of_getElem? (i := 705) (by decide +kernel), List.mem_of_getElem? (i := 706) (by decide +kernel)⟩
theorem lw_p23 : lw_okq (⟨"BarterRingsModel", "of", "(II)I"⟩, 17) := ⟨⟨by decide +kernel, by decide +kernel⟩, List.mem_of_getElem? (i := 619) (by decide +kernel), List.mem_of_getElem? (i := 709) (by decide +kernel), List.mem_of_getElem? (i := 710) (by decide +kernel)⟩
theorem lw_p24 : lw_okq (⟨"BarterRingsModel", "lays", "(II)I"⟩, 17) := ⟨⟨by decide +kernel, by decide +kernel⟩, List.mem_of_getElem? (i := 619) (by decide +kernel), List.mem_of_getElem? (i := 717) (by decide +kernel), List.mem_of_getElem? (i := 718) (by decide +kernel)⟩
theorem lw_p25 : lw_okq (⟨"BarterRingsModel", "arePair", "(II)Z"⟩, 17) := ⟨⟨by decide +kernel, by decide +kernel⟩, List.mem_of_getElem? (i := 619) (by decide +kernel), List.mem_of_getElem? (i := 737) (by decide +kernel), List.mem_of_getElem? (i := 738) (by decide +kernel)⟩
theorem lw_p26 : lw_okq (⟨"BarterRingsModel", "barters", "(II)I"⟩, 17) := ⟨⟨by decide +kernel, by decide +kernel⟩, List.mem_of_getElem? (i := 619) (by decide +kernel), List.mem_of_getElem? (i := 741) (by decide +kernel), List.mem_of_getElem? (i := 742) (by decide +kernel)⟩
theorem lw_p27 : lw_okq (⟨"BarterRingsModel", "reason", "(II)I"⟩, 17) := ⟨⟨by decide +kernel, by decide +kernel⟩, List.mem_of_getElem? (i := 619) (by decide +kernel), List.mem_of_getElem? (i := 745) (by decide +kernel), List.mem_of_getElem? (i := 746) (by decide +kernel)⟩
theorem lw_p28 : lw_okq (⟨"BarterRingsModel", "daysLeft", "(I)I"⟩, 17) := ⟨⟨by decide +kernel, by decide +kernel⟩, List.mem_of_getElem? (i := 619) (by decide +kernel), List.mem_of_getElem? (i := 749) (by decide +kernel), List.mem_of_getElem? (i := 750) (by decide +kernel)⟩
theorem lw_p29 : lw_okq (⟨"BarterRingsModel", "wants", "(II)Z"⟩, 17) := ⟨⟨by decide +kernel, by decide +kernel⟩, List.mem_of_getElem? (i := 619) (by decide +kernel), List.mem_of_getElem? (i := 753) (by decide +kernel), List.mem_of_getElem? (i := 754) (by decide +kernel)⟩
theorem lw_p30 : lw_okq (⟨"BarterRingsModel", "looksAtWares", "()V"⟩, 17) := ⟨⟨by decide +kernel, by decide +kernel⟩, List.mem_of_getElem? (i := 619) (by decide +kernel), List.mem_of_getElem? (i := 757) (by decide +kernel), List.mem_of_getElem? (i := 758) (by decide +kernel)⟩
theorem lw_p31 : lw_okq (⟨"BarterRingsModel", "gets", "(III)V"⟩, 17) := ⟨⟨by decide +kernel, by decide +kernel⟩, List.mem_of_getElem? (i := 619) (by decide +kernel), List.mem_of_getElem? (i := 761) (by decide +kernel), List.mem_of_getElem? (i := 762) (by decide +kernel)⟩
def lw_privs_2 : List (MethodName × Nat) := [(⟨"BarterRings$CircleSets", "findChains", "()V"⟩, 6), (⟨"BarterRings$CircleSets", "findCircles", "(I)V"⟩, 6), (⟨"BarterRings$CircleSets", "findBarters", "()I"⟩, 6), (⟨"BarterRings$CircleSets", "isMadeOfCircles", "(I)Z"⟩, 6), (⟨"BarterRingsModel", "record", "()V"⟩, 17), (⟨"BarterRingsModel", "comes", "(II)I"⟩, 17), (⟨"BarterRingsModel", "isTrader", "(I)Z"⟩, 17), (⟨"BarterRingsModel", "of", "(II)I"⟩, 17), (⟨"BarterRingsModel", "lays", "(II)I"⟩, 17), (⟨"BarterRingsModel", "arePair", "(II)Z"⟩, 17), (⟨"BarterRingsModel", "barters", "(II)I"⟩, 17), (⟨"BarterRingsModel", "reason", "(II)I"⟩, 17), (⟨"BarterRingsModel", "daysLeft", "(I)I"⟩, 17), (⟨"BarterRingsModel", "wants", "(II)Z"⟩, 17), (⟨"BarterRingsModel", "looksAtWares", "()V"⟩, 17), (⟨"BarterRingsModel", "gets", "(III)V"⟩, 17)]
theorem lw_r2 : ∀ q ∈ lw_privs_2, lw_okq q := List.forall_mem_cons.mpr ⟨lw_p16, List.forall_mem_cons.mpr ⟨lw_p17, List.forall_mem_cons.mpr ⟨lw_p18, List.forall_mem_cons.mpr ⟨lw_p19, List.forall_mem_cons.mpr ⟨lw_p20, List.forall_mem_cons.mpr ⟨lw_p21, List.forall_mem_cons.mpr ⟨lw_p22, List.forall_mem_cons.mpr ⟨lw_p23, List.forall_mem_cons.mpr ⟨lw_p24, List.forall_mem_cons.mpr ⟨lw_p25, List.forall_mem_cons.mpr ⟨lw_p26, List.forall_mem_cons.mpr ⟨lw_p27, List.forall_mem_cons.mpr ⟨lw_p28, List.forall_mem_cons.mpr ⟨lw_p29, List.forall_mem_cons.mpr ⟨lw_p30, List.forall_mem_cons.mpr ⟨lw_p31, fun _ h => absurd h List.not_mem_nil⟩⟩⟩⟩⟩⟩⟩⟩⟩⟩⟩⟩⟩⟩⟩⟩
theorem lw_p32 : lw_okq (⟨"BarterRingsModel", "calls", "()I"⟩, 17) := ⟨⟨by decide +kernel, by decide +kernel⟩, List.mem_of_getElem? (i := 619) (by decide +kernel), List.mem_of_getElem? (i := 769) (by decide +kernel), List.mem_of_getElem? (i := 770) (by decide +kernel)⟩
theorem lw_p33 : lw_okq (⟨"BarterRingsModel", "layBest", "(I)V"⟩, 17) := ⟨⟨by decide +kernel, by decide +kernel⟩, List.mem_of_getElem? (i := 619) (by decide +kernel), List.mem_of_getElem? (i := 773) (by decide +kernel), List.mem_of_getElem? (i := 774) (by decide +kernel)⟩
theorem lw_p34 : lw_okq (⟨"BarterRingsModel", "keepsBest", "(I)V"⟩, 17) := ⟨⟨by decide +kernel, by decide +kernel⟩, List.mem_of_getElem? (i := 619) (by decide +kernel), List.mem_of_getElem? (i := 777) (by decide +kernel), List.mem_of_getElem? (i := 778) (by decide +kernel)⟩
theorem lw_p35 : lw_okq (⟨"BarterRingsModel", "areCircles", "(I)Z"⟩, 17) := ⟨⟨by decide +kernel, by decide +kernel⟩, List.mem_of_getElem? (i := 619) (by decide +kernel), List.mem_of_getElem? (i := 781) (by decide +kernel), List.mem_of_getElem? (i := 782) (by decide +kernel)⟩
theorem lw_p36 : lw_okq (⟨"BarterRingsModel", "may", "(III)Z"⟩, 17) := ⟨⟨by decide +kernel, by decide +kernel⟩, List.mem_of_getElem? (i := 619) (by decide +kernel), List.mem_of_getElem? (i := 785) (by decide +kernel), List.mem_of_getElem? (i := 786) (by decide +kernel)⟩
theorem lw_p37 : lw_okq (⟨"BarterRingsModel", "takes", "(II)Z"⟩, 17) := ⟨⟨by decide +kernel, by decide +kernel⟩, List.mem_of_getElem? (i := 619) (by decide +kernel), List.mem_of_getElem? (i := 789) (by decide +kernel), List.mem_of_getElem? (i := 790) (by decide +kernel)⟩
theorem lw_p38 : lw_okq (⟨"BarterRingsModel", "passes", "()I"⟩, 17) := ⟨⟨by decide +kernel, by decide +kernel⟩, List.mem_of_getElem? (i := 619) (by decide +kernel), List.mem_of_getElem? (i := 797) (by decide +kernel), List.mem_of_getElem? (i := 798) (by decide +kernel)⟩
theorem lw_p39 : lw_okq (⟨"BarterRingsModel", "faultOfTraders", "()I"⟩, 17) := ⟨⟨by decide +kernel, by decide +kernel⟩, List.mem_of_getElem? (i := 619) (by decide +kernel), List.mem_of_getElem? (i := 813) (by decide +kernel), List.mem_of_getElem? (i := 814) (by decide +kernel)⟩
theorem lw_p40 : lw_okq (⟨"BarterRingsModel", "behindTrader", "(I)I"⟩, 17) := ⟨⟨by decide +kernel, by decide +kernel⟩, List.mem_of_getElem? (i := 619) (by decide +kernel), List.mem_of_getElem? (i := 817) (by decide +kernel), List.mem_of_getElem? (i := 818) (by decide +kernel)⟩
theorem lw_p41 : lw_okq (⟨"BarterRingsModel", "next", "(I)I"⟩, 17) := ⟨⟨by decide +kernel, by decide +kernel⟩, List.mem_of_getElem? (i := 619) (by decide +kernel), List.mem_of_getElem? (i := 821) (by decide +kernel), List.mem_of_getElem? (i := 822) (by decide +kernel)⟩
theorem lw_p42 : lw_okq (⟨"BarterRingsModel", "faultOfDays", "()I"⟩, 17) := ⟨⟨by decide +kernel, by decide +kernel⟩, List.mem_of_getElem? (i := 619) (by decide +kernel), List.mem_of_getElem? (i := 825) (by decide +kernel), List.mem_of_getElem? (i := 826) (by decide +kernel)⟩
theorem lw_p43 : lw_okq (⟨"BarterRingsModel", "isDone", "(I)Z"⟩, 17) := ⟨⟨by decide +kernel, by decide +kernel⟩, List.mem_of_getElem? (i := 619) (by decide +kernel), List.mem_of_getElem? (i := 837) (by decide +kernel), List.mem_of_getElem? (i := 838) (by decide +kernel)⟩
theorem lw_p44 : lw_okq (⟨"BarterRingsModel", "takesFrom", "(I)I"⟩, 17) := ⟨⟨by decide +kernel, by decide +kernel⟩, List.mem_of_getElem? (i := 619) (by decide +kernel), List.mem_of_getElem? (i := 849) (by decide +kernel), List.mem_of_getElem? (i := 850) (by decide +kernel)⟩
theorem lw_p45 : lw_okq (⟨"BarterRingsModel", "givesTo", "(I)I"⟩, 17) := ⟨⟨by decide +kernel, by decide +kernel⟩, List.mem_of_getElem? (i := 619) (by decide +kernel), List.mem_of_getElem? (i := 853) (by decide +kernel), List.mem_of_getElem? (i := 854) (by decide +kernel)⟩
theorem lw_p46 : lw_okq (⟨"BarterRingsModel", "bestFor", "(I)I"⟩, 17) := ⟨⟨by decide +kernel, by decide +kernel⟩, List.mem_of_getElem? (i := 619) (by decide +kernel), List.mem_of_getElem? (i := 857) (by decide +kernel), List.mem_of_getElem? (i := 858) (by decide +kernel)⟩
theorem lw_p47 : lw_okq (⟨"BarterRingsModel", "mostWith", "(I)I"⟩, 17) := ⟨⟨by decide +kernel, by decide +kernel⟩, List.mem_of_getElem? (i := 619) (by decide +kernel), List.mem_of_getElem? (i := 873) (by decide +kernel), List.mem_of_getElem? (i := 874) (by decide +kernel)⟩
def lw_privs_3 : List (MethodName × Nat) := [(⟨"BarterRingsModel", "calls", "()I"⟩, 17), (⟨"BarterRingsModel", "layBest", "(I)V"⟩, 17), (⟨"BarterRingsModel", "keepsBest", "(I)V"⟩, 17), (⟨"BarterRingsModel", "areCircles", "(I)Z"⟩, 17), (⟨"BarterRingsModel", "may", "(III)Z"⟩, 17), (⟨"BarterRingsModel", "takes", "(II)Z"⟩, 17), (⟨"BarterRingsModel", "passes", "()I"⟩, 17), (⟨"BarterRingsModel", "faultOfTraders", "()I"⟩, 17), (⟨"BarterRingsModel", "behindTrader", "(I)I"⟩, 17), (⟨"BarterRingsModel", "next", "(I)I"⟩, 17), (⟨"BarterRingsModel", "faultOfDays", "()I"⟩, 17), (⟨"BarterRingsModel", "isDone", "(I)Z"⟩, 17), (⟨"BarterRingsModel", "takesFrom", "(I)I"⟩, 17), (⟨"BarterRingsModel", "givesTo", "(I)I"⟩, 17), (⟨"BarterRingsModel", "bestFor", "(I)I"⟩, 17), (⟨"BarterRingsModel", "mostWith", "(I)I"⟩, 17)]
theorem lw_r3 : ∀ q ∈ lw_privs_3, lw_okq q := List.forall_mem_cons.mpr ⟨lw_p32, List.forall_mem_cons.mpr ⟨lw_p33, List.forall_mem_cons.mpr ⟨lw_p34, List.forall_mem_cons.mpr ⟨lw_p35, List.forall_mem_cons.mpr ⟨lw_p36, List.forall_mem_cons.mpr ⟨lw_p37, List.forall_mem_cons.mpr ⟨lw_p38, List.forall_mem_cons.mpr ⟨lw_p39, List.forall_mem_cons.mpr ⟨lw_p40, List.forall_mem_cons.mpr ⟨lw_p41, List.forall_mem_cons.mpr ⟨lw_p42, List.forall_mem_cons.mpr ⟨lw_p43, List.forall_mem_cons.mpr ⟨lw_p44, List.forall_mem_cons.mpr ⟨lw_p45, List.forall_mem_cons.mpr ⟨lw_p46, List.forall_mem_cons.mpr ⟨lw_p47, fun _ h => absurd h List.not_mem_nil⟩⟩⟩⟩⟩⟩⟩⟩⟩⟩⟩⟩⟩⟩⟩⟩
theorem lw_p48 : lw_okq (⟨"BarterRingsModel", "sumOf", "(II)I"⟩, 17) := ⟨⟨by decide +kernel, by decide +kernel⟩, List.mem_of_getElem? (i := 619) (by decide +kernel), List.mem_of_getElem? (i := 881) (by decide +kernel), List.mem_of_getElem? (i := 882) (by decide +kernel)⟩
theorem lw_p49 : lw_okq (⟨"BarterRingsModel", "needs", "()I"⟩, 17) := ⟨⟨by decide +kernel, by decide +kernel⟩, List.mem_of_getElem? (i := 619) (by decide +kernel), List.mem_of_getElem? (i := 889) (by decide +kernel), List.mem_of_getElem? (i := 890) (by decide +kernel)⟩
theorem lw_p50 : lw_okq (⟨"BarterRingsModel", "spoilt", "()I"⟩, 17) := ⟨⟨by decide +kernel, by decide +kernel⟩, List.mem_of_getElem? (i := 619) (by decide +kernel), List.mem_of_getElem? (i := 896) (by decide +kernel), List.mem_of_getElem? (i := 897) (by decide +kernel)⟩
theorem lw_p51 : lw_okq (⟨"BarterRingsModel", "stuck", "()I"⟩, 17) := ⟨⟨by decide +kernel, by decide +kernel⟩, List.mem_of_getElem? (i := 619) (by decide +kernel), List.mem_of_getElem? (i := 900) (by decide +kernel), List.mem_of_getElem? (i := 901) (by decide +kernel)⟩
theorem lw_p52 : lw_okq (⟨"BarterRingsModel", "putAside", "()V"⟩, 17) := ⟨⟨by decide +kernel, by decide +kernel⟩, List.mem_of_getElem? (i := 619) (by decide +kernel), List.mem_of_getElem? (i := 916) (by decide +kernel), List.mem_of_getElem? (i := 917) (by decide +kernel)⟩
theorem lw_p53 : lw_okq (⟨"BarterRingsModel", "putBack", "()V"⟩, 17) := ⟨⟨by decide +kernel, by decide +kernel⟩, List.mem_of_getElem? (i := 619) (by decide +kernel), List.mem_of_getElem? (i := 920) (by decide +kernel), List.mem_of_getElem? (i := 921) (by decide +kernel)⟩
def lw_privs_4 : List (MethodName × Nat) := [(⟨"BarterRingsModel", "sumOf", "(II)I"⟩, 17), (⟨"BarterRingsModel", "needs", "()I"⟩, 17), (⟨"BarterRingsModel", "spoilt", "()I"⟩, 17), (⟨"BarterRingsModel", "stuck", "()I"⟩, 17), (⟨"BarterRingsModel", "putAside", "()V"⟩, 17), (⟨"BarterRingsModel", "putBack", "()V"⟩, 17)]
theorem lw_r4 : ∀ q ∈ lw_privs_4, lw_okq q := List.forall_mem_cons.mpr ⟨lw_p48, List.forall_mem_cons.mpr ⟨lw_p49, List.forall_mem_cons.mpr ⟨lw_p50, List.forall_mem_cons.mpr ⟨lw_p51, List.forall_mem_cons.mpr ⟨lw_p52, List.forall_mem_cons.mpr ⟨lw_p53, fun _ h => absurd h List.not_mem_nil⟩⟩⟩⟩⟩⟩
def lw_privs : List (MethodName × Nat) := lw_privs_1 ++ (lw_privs_2 ++ (lw_privs_3 ++ (lw_privs_4)))
def lw_tbl : List Cond := k2_sels lw_privs ++ tables_1
theorem lw_privs_ok : ∀ q ∈ lw_privs, lw_okq q := by
  show ∀ q ∈ lw_privs_1 ++ (lw_privs_2 ++ (lw_privs_3 ++ (lw_privs_4))), lw_okq q
  exact List.forall_mem_append.mpr ⟨lw_r1, List.forall_mem_append.mpr ⟨lw_r2, List.forall_mem_append.mpr ⟨lw_r3, lw_r4⟩⟩⟩
-- ===== end of PART A =====
def RX0 : String := "BarterRings$CircleSets"
def TX0 : u_T := fun k => match k with
  | 0 => ("BarterRings$CircleSets", "takersOf", "[I", true)
  | 1 => ("BarterRings$CircleSets", "lastOnes", "[I", true)
  | 2 => ("BarterRings$CircleSets", "isCircle", "[Z", true)
  | 3 => ("BarterRings$CircleSets", "isBarter", "[Z", true)
  | 4 => ("BarterRings$CircleSets", "size", "I", false)
  | _ => ("BarterRings$CircleSets", "sets", "I", false)
def tyX0 : Nat → FieldType := fun k => match k with
  | 0 => .array .int
  | 1 => .array .int
  | 2 => .array .boolean
  | 3 => .array .boolean
  | 4 => .int
  | _ => .int
theorem nmX0 : ∀ a, a < 6 → ∀ b, b < 6 → a ≠ b → (TX0 a).2.1 ≠ (TX0 b).2.1 := by decide +kernel
theorem tyX0_ok : ∀ k, k < 6 → parseFieldDescriptor (TX0 k).2.2.1 = some (tyX0 k) := by decide +kernel
abbrev cX0_init : ByteArray := prog_2_method_1_code
def yX0_init : MethodName := ⟨RX0, "<init>", "()V"⟩
abbrev cX0_mostTraders : ByteArray := prog_2_method_2_code
def yX0_mostTraders : MethodName := ⟨RX0, "mostTraders", "(LBarterRings$Market;I)I"⟩
abbrev cX0_readTakers : ByteArray := prog_2_method_3_code
def yX0_readTakers : MethodName := ⟨RX0, "readTakers", "(LBarterRings$Market;)V"⟩
abbrev cX0_findChains : ByteArray := prog_2_method_4_code
def yX0_findChains : MethodName := ⟨RX0, "findChains", "()V"⟩
abbrev cX0_findCircles : ByteArray := prog_2_method_5_code
def yX0_findCircles : MethodName := ⟨RX0, "findCircles", "(I)V"⟩
abbrev cX0_findBarters : ByteArray := prog_2_method_6_code
def yX0_findBarters : MethodName := ⟨RX0, "findBarters", "()I"⟩
abbrev cX0_isMadeOfCircles : ByteArray := prog_2_method_7_code
def yX0_isMadeOfCircles : MethodName := ⟨RX0, "isMadeOfCircles", "(I)Z"⟩
abbrev cX0_leastOf : ByteArray := prog_2_method_8_code
def yX0_leastOf : MethodName := ⟨RX0, "leastOf", "(I)I"⟩
def RX1 : String := "BarterRings$History"
def TX1 : u_T := fun k => match k with
  | 0 => ("BarterRings$History", "held", "I", false)
  | 1 => ("BarterRings$History", "rows", "[LBarterRings$Market;", true)
  | _ => ("BarterRings$History", "newest", "I", false)
def tyX1 : Nat → FieldType := fun k => match k with
  | 0 => .int
  | 1 => .array (.object "BarterRings$Market")
  | _ => .int
theorem nmX1 : ∀ a, a < 3 → ∀ b, b < 3 → a ≠ b → (TX1 a).2.1 ≠ (TX1 b).2.1 := by decide +kernel
theorem tyX1_ok : ∀ k, k < 3 → parseFieldDescriptor (TX1 k).2.2.1 = some (tyX1 k) := by decide +kernel
abbrev cX1_init : ByteArray := prog_3_method_1_code
def yX1_init : MethodName := ⟨RX1, "<init>", "()V"⟩
abbrev cX1_record : ByteArray := prog_3_method_2_code
def yX1_record : MethodName := ⟨RX1, "record", "(LBarterRings$Market;)V"⟩
abbrev cX1_takeBack : ByteArray := prog_3_method_3_code
def yX1_takeBack : MethodName := ⟨RX1, "takeBack", "(LBarterRings$Market;)V"⟩
abbrev cX1_rowAt : ByteArray := prog_3_method_4_code
def yX1_rowAt : MethodName := ⟨RX1, "rowAt", "(I)LBarterRings$Market;"⟩
def RX2 : String := "BarterRings$Market"
def TX2 : u_T := fun k => match k with
  | 0 => ("BarterRings$Market", "makes", "[I", true)
  | 1 => ("BarterRings$Market", "wants", "[I", true)
  | 2 => ("BarterRings$Market", "ware", "[I", true)
  | 3 => ("BarterRings$Market", "age", "[I", true)
  | 4 => ("BarterRings$Market", "met", "[I", true)
  | 5 => ("BarterRings$Market", "life", "[I", true)
  | 6 => ("BarterRings$Market", "metOfKind", "[I", true)
  | 7 => ("BarterRings$Market", "size", "I", false)
  | 8 => ("BarterRings$Market", "longestCircle", "I", false)
  | 9 => ("BarterRings$Market", "day", "I", false)
  | 10 => ("BarterRings$Market", "lot", "I", false)
  | 11 => ("BarterRings$Market", "shut", "I", false)
  | 12 => ("BarterRings$Market", "thrownAway", "I", false)
  | 13 => ("BarterRings$Market", "made", "I", false)
  | 14 => ("BarterRings$Market", "calls", "I", false)
  | 15 => ("BarterRings$Market", "refused", "I", false)
  | 16 => ("BarterRings$Market", "wareBefore", "[I", true)
  | _ => ("BarterRings$Market", "ageBefore", "[I", true)
def tyX2 : Nat → FieldType := fun k => match k with
  | 0 => .array .int
  | 1 => .array .int
  | 2 => .array .int
  | 3 => .array .int
  | 4 => .array .int
  | 5 => .array .int
  | 6 => .array .int
  | 7 => .int
  | 8 => .int
  | 9 => .int
  | 10 => .int
  | 11 => .int
  | 12 => .int
  | 13 => .int
  | 14 => .int
  | 15 => .int
  | 16 => .array .int
  | _ => .array .int
theorem nmX2 : ∀ a, a < 18 → ∀ b, b < 18 → a ≠ b → (TX2 a).2.1 ≠ (TX2 b).2.1 := by decide +kernel
theorem tyX2_ok : ∀ k, k < 18 → parseFieldDescriptor (TX2 k).2.2.1 = some (tyX2 k) := by decide +kernel
abbrev cX2_init : ByteArray := prog_4_method_1_code
def yX2_init : MethodName := ⟨RX2, "<init>", "()V"⟩
abbrev cX2_copyFrom : ByteArray := prog_4_method_2_code
def yX2_copyFrom : MethodName := ⟨RX2, "copyFrom", "(LBarterRings$Market;)V"⟩
abbrev cX2_has : ByteArray := prog_4_method_3_code
def yX2_has : MethodName := ⟨RX2, "has", "(I)Z"⟩
abbrev cX2_hasBoth : ByteArray := prog_4_method_4_code
def yX2_hasBoth : MethodName := ⟨RX2, "hasBoth", "(II)Z"⟩
abbrev cX2_add : ByteArray := prog_4_method_5_code
def yX2_add : MethodName := ⟨RX2, "add", "(II)V"⟩
abbrev cX2_remove : ByteArray := prog_4_method_6_code
def yX2_remove : MethodName := ⟨RX2, "remove", "(I)V"⟩
abbrev cX2_makeWare : ByteArray := prog_4_method_7_code
def yX2_makeWare : MethodName := ⟨RX2, "makeWare", "(I)V"⟩
abbrev cX2_hasWare : ByteArray := prog_4_method_8_code
def yX2_hasWare : MethodName := ⟨RX2, "hasWare", "(I)Z"⟩
abbrev cX2_hasSoundWare : ByteArray := prog_4_method_9_code
def yX2_hasSoundWare : MethodName := ⟨RX2, "hasSoundWare", "(I)Z"⟩
abbrev cX2_daysLeft : ByteArray := prog_4_method_10_code
def yX2_daysLeft : MethodName := ⟨RX2, "daysLeft", "(I)I"⟩
abbrev cX2_wantsWareOf : ByteArray := prog_4_method_11_code
def yX2_wantsWareOf : MethodName := ⟨RX2, "wantsWareOf", "(II)Z"⟩
abbrev cX2_mayBarter : ByteArray := prog_4_method_12_code
def yX2_mayBarter : MethodName := ⟨RX2, "mayBarter", "(I)Z"⟩
abbrev cX2_canTake : ByteArray := prog_4_method_13_code
def yX2_canTake : MethodName := ⟨RX2, "canTake", "(II)Z"⟩
abbrev cX2_giversOf : ByteArray := prog_4_method_14_code
def yX2_giversOf : MethodName := ⟨RX2, "giversOf", "(I)I"⟩
abbrev cX2_numberOfTakers : ByteArray := prog_4_method_15_code
def yX2_numberOfTakers : MethodName := ⟨RX2, "numberOfTakers", "(I)I"⟩
abbrev cX2_refusal : ByteArray := prog_4_method_16_code
def yX2_refusal : MethodName := ⟨RX2, "refusal", "(II)I"⟩
abbrev cX2_barterByHand : ByteArray := prog_4_method_17_code
def yX2_barterByHand : MethodName := ⟨RX2, "barterByHand", "(II)I"⟩
abbrev cX2_doBarter : ByteArray := prog_4_method_18_code
def yX2_doBarter : MethodName := ⟨RX2, "doBarter", "([I)V"⟩
abbrev cX2_keepWares : ByteArray := prog_4_method_19_code
def yX2_keepWares : MethodName := ⟨RX2, "keepWares", "()V"⟩
abbrev cX2_takeWare : ByteArray := prog_4_method_20_code
def yX2_takeWare : MethodName := ⟨RX2, "takeWare", "(II)V"⟩
abbrev cX2_passDay : ByteArray := prog_4_method_21_code
def yX2_passDay : MethodName := ⟨RX2, "passDay", "()I"⟩
abbrev cX2_renewWare : ByteArray := prog_4_method_22_code
def yX2_renewWare : MethodName := ⟨RX2, "renewWare", "(I)V"⟩
abbrev cX2_drawLot : ByteArray := prog_4_method_23_code
def yX2_drawLot : MethodName := ⟨RX2, "drawLot", "()V"⟩
abbrev cX2_needs : ByteArray := prog_4_method_24_code
def yX2_needs : MethodName := ⟨RX2, "needs", "()I"⟩
abbrev cX2_needsMet : ByteArray := prog_4_method_25_code
def yX2_needsMet : MethodName := ⟨RX2, "needsMet", "()I"⟩
abbrev cX2_waresOfKind : ByteArray := prog_4_method_26_code
def yX2_waresOfKind : MethodName := ⟨RX2, "waresOfKind", "(I)I"⟩
abbrev cX2_soundWaresOfKind : ByteArray := prog_4_method_27_code
def yX2_soundWaresOfKind : MethodName := ⟨RX2, "soundWaresOfKind", "(I)I"⟩
abbrev cX2_soundWares : ByteArray := prog_4_method_28_code
def yX2_soundWares : MethodName := ⟨RX2, "soundWares", "()I"⟩
abbrev cX2_spoiltWares : ByteArray := prog_4_method_29_code
def yX2_spoiltWares : MethodName := ⟨RX2, "spoiltWares", "()I"⟩
abbrev cX2_daysLeftOfAll : ByteArray := prog_4_method_30_code
def yX2_daysLeftOfAll : MethodName := ⟨RX2, "daysLeftOfAll", "()I"⟩
abbrev cX2_tradersWhoWant : ByteArray := prog_4_method_31_code
def yX2_tradersWhoWant : MethodName := ⟨RX2, "tradersWhoWant", "(I)I"⟩
abbrev cX2_tradersWhoMake : ByteArray := prog_4_method_32_code
def yX2_tradersWhoMake : MethodName := ⟨RX2, "tradersWhoMake", "(I)I"⟩
abbrev cX2_stuckTraders : ByteArray := prog_4_method_33_code
def yX2_stuckTraders : MethodName := ⟨RX2, "stuckTraders", "()I"⟩
def RX3 : String := "BarterRings$Pad"
def TX3 : u_T := fun k => match k with
  | 0 => ("BarterRings$Pad", "length", "I", false)
  | _ => ("BarterRings$Pad", "signs", "[C", true)
def tyX3 : Nat → FieldType := fun k => match k with
  | 0 => .int
  | _ => .array .char
theorem nmX3 : ∀ a, a < 2 → ∀ b, b < 2 → a ≠ b → (TX3 a).2.1 ≠ (TX3 b).2.1 := by decide +kernel
theorem tyX3_ok : ∀ k, k < 2 → parseFieldDescriptor (TX3 k).2.2.1 = some (tyX3 k) := by decide +kernel
abbrev cX3_init : ByteArray := prog_5_method_1_code
def yX3_init : MethodName := ⟨RX3, "<init>", "()V"⟩
abbrev cX3_put : ByteArray := prog_5_method_2_code
def yX3_put : MethodName := ⟨RX3, "put", "(C)V"⟩
abbrev cX3_signAt : ByteArray := prog_5_method_3_code
def yX3_signAt : MethodName := ⟨RX3, "signAt", "(I)C"⟩
abbrev cX3_digitAt : ByteArray := prog_5_method_4_code
def yX3_digitAt : MethodName := ⟨RX3, "digitAt", "(I)I"⟩
abbrev cX3_faultAsTraders : ByteArray := prog_5_method_5_code
def yX3_faultAsTraders : MethodName := ⟨RX3, "faultAsTraders", "()I"⟩
abbrev cX3_faultAsDays : ByteArray := prog_5_method_6_code
def yX3_faultAsDays : MethodName := ⟨RX3, "faultAsDays", "()I"⟩
abbrev cX3_numberOfTraders : ByteArray := prog_5_method_7_code
def yX3_numberOfTraders : MethodName := ⟨RX3, "numberOfTraders", "()I"⟩
abbrev cX3_wantsBehind : ByteArray := prog_5_method_8_code
def yX3_wantsBehind : MethodName := ⟨RX3, "wantsBehind", "(I)I"⟩
def RX4 : String := "BarterRings$TakerSearch"
def TX4 : u_T := fun k => match k with
  | 0 => ("BarterRings$TakerSearch", "bestGiverOf", "[I", true)
  | 1 => ("BarterRings$TakerSearch", "giversOf", "[I", true)
  | 2 => ("BarterRings$TakerSearch", "giverOf", "[I", true)
  | 3 => ("BarterRings$TakerSearch", "size", "I", false)
  | 4 => ("BarterRings$TakerSearch", "longestCircle", "I", false)
  | _ => ("BarterRings$TakerSearch", "most", "I", false)
def tyX4 : Nat → FieldType := fun k => match k with
  | 0 => .array .int
  | 1 => .array .int
  | 2 => .array .int
  | 3 => .int
  | 4 => .int
  | _ => .int
theorem nmX4 : ∀ a, a < 6 → ∀ b, b < 6 → a ≠ b → (TX4 a).2.1 ≠ (TX4 b).2.1 := by decide +kernel
theorem tyX4_ok : ∀ k, k < 6 → parseFieldDescriptor (TX4 k).2.2.1 = some (tyX4 k) := by decide +kernel
abbrev cX4_init : ByteArray := prog_6_method_1_code
def yX4_init : MethodName := ⟨RX4, "<init>", "()V"⟩
abbrev cX4_findBest : ByteArray := prog_6_method_2_code
def yX4_findBest : MethodName := ⟨RX4, "findBest", "(LBarterRings$Market;)I"⟩
abbrev cX4_chooseGiver : ByteArray := prog_6_method_3_code
def yX4_chooseGiver : MethodName := ⟨RX4, "chooseGiver", "(III)V"⟩
abbrev cX4_goOn : ByteArray := prog_6_method_4_code
def yX4_goOn : MethodName := ⟨RX4, "goOn", "(IIII)V"⟩
abbrev cX4_fitsInCircle : ByteArray := prog_6_method_5_code
def yX4_fitsInCircle : MethodName := ⟨RX4, "fitsInCircle", "(II)Z"⟩
def RX5 : String := "BarterRings"
def TX5 : u_T := fun k => match k with
  | 0 => ("BarterRings", "market", "LBarterRings$Market;", true)
  | 1 => ("BarterRings", "trial", "LBarterRings$Market;", true)
  | 2 => ("BarterRings", "snapshot", "LBarterRings$Market;", true)
  | 3 => ("BarterRings", "history", "LBarterRings$History;", true)
  | 4 => ("BarterRings", "pad", "LBarterRings$Pad;", true)
  | 5 => ("BarterRings", "circleSets", "LBarterRings$CircleSets;", true)
  | 6 => ("BarterRings", "takerSearch", "LBarterRings$TakerSearch;", true)
  | 7 => ("BarterRings", "hasSnapshot", "Z", false)
  | 8 => ("BarterRings", "stopReason", "I", false)
  | _ => ("BarterRings", "stopPlace", "I", false)
def tyX5 : Nat → FieldType := fun k => match k with
  | 0 => .object "BarterRings$Market"
  | 1 => .object "BarterRings$Market"
  | 2 => .object "BarterRings$Market"
  | 3 => .object "BarterRings$History"
  | 4 => .object "BarterRings$Pad"
  | 5 => .object "BarterRings$CircleSets"
  | 6 => .object "BarterRings$TakerSearch"
  | 7 => .boolean
  | 8 => .int
  | _ => .int
theorem nmX5 : ∀ a, a < 10 → ∀ b, b < 10 → a ≠ b → (TX5 a).2.1 ≠ (TX5 b).2.1 := by decide +kernel
theorem tyX5_ok : ∀ k, k < 10 → parseFieldDescriptor (TX5 k).2.2.1 = some (tyX5 k) := by decide +kernel
abbrev cX5_init : ByteArray := prog_1_method_1_code
def yX5_init : MethodName := ⟨RX5, "<init>", "()V"⟩
abbrev cX5_come : ByteArray := prog_1_method_2_code
def yX5_come : MethodName := ⟨RX5, "come", "(II)I"⟩
abbrev cX5_go : ByteArray := prog_1_method_3_code
def yX5_go : MethodName := ⟨RX5, "go", "(I)I"⟩
abbrev cX5_want : ByteArray := prog_1_method_4_code
def yX5_want : MethodName := ⟨RX5, "want", "(II)I"⟩
abbrev cX5_life : ByteArray := prog_1_method_5_code
def yX5_life : MethodName := ⟨RX5, "life", "(II)I"⟩
abbrev cX5_circle : ByteArray := prog_1_method_6_code
def yX5_circle : MethodName := ⟨RX5, "circle", "(I)I"⟩
abbrev cX5_lot : ByteArray := prog_1_method_7_code
def yX5_lot : MethodName := ⟨RX5, "lot", "(I)I"⟩
abbrev cX5_barter : ByteArray := prog_1_method_8_code
def yX5_barter : MethodName := ⟨RX5, "barter", "(II)I"⟩
abbrev cX5_call : ByteArray := prog_1_method_9_code
def yX5_call : MethodName := ⟨RX5, "call", "()I"⟩
abbrev cX5_day : ByteArray := prog_1_method_10_code
def yX5_day : MethodName := ⟨RX5, "day", "()I"⟩
abbrev cX5_append : ByteArray := prog_1_method_11_code
def yX5_append : MethodName := ⟨RX5, "append", "(I)I"⟩
abbrev cX5_clear : ByteArray := prog_1_method_12_code
def yX5_clear : MethodName := ⟨RX5, "clear", "()I"⟩
abbrev cX5_fault : ByteArray := prog_1_method_13_code
def yX5_fault : MethodName := ⟨RX5, "fault", "(I)I"⟩
abbrev cX5_traders : ByteArray := prog_1_method_14_code
def yX5_traders : MethodName := ⟨RX5, "traders", "()I"⟩
abbrev cX5_days : ByteArray := prog_1_method_15_code
def yX5_days : MethodName := ⟨RX5, "days", "()I"⟩
abbrev cX5_why : ByteArray := prog_1_method_16_code
def yX5_why : MethodName := ⟨RX5, "why", "(I)I"⟩
abbrev cX5_trader : ByteArray := prog_1_method_17_code
def yX5_trader : MethodName := ⟨RX5, "trader", "(II)I"⟩
abbrev cX5_can : ByteArray := prog_1_method_18_code
def yX5_can : MethodName := ⟨RX5, "can", "(II)I"⟩
abbrev cX5_whyNot : ByteArray := prog_1_method_19_code
def yX5_whyNot : MethodName := ⟨RX5, "whyNot", "(II)I"⟩
abbrev cX5_most : ByteArray := prog_1_method_20_code
def yX5_most : MethodName := ⟨RX5, "most", "(I)I"⟩
abbrev cX5_kind : ByteArray := prog_1_method_21_code
def yX5_kind : MethodName := ⟨RX5, "kind", "(II)I"⟩
abbrev cX5_count : ByteArray := prog_1_method_22_code
def yX5_count : MethodName := ⟨RX5, "count", "(I)I"⟩
abbrev cX5_freshness : ByteArray := prog_1_method_23_code
def yX5_freshness : MethodName := ⟨RX5, "freshness", "()D"⟩
abbrev cX5_ifCircle : ByteArray := prog_1_method_24_code
def yX5_ifCircle : MethodName := ⟨RX5, "ifCircle", "(I)I"⟩
abbrev cX5_ifDays : ByteArray := prog_1_method_25_code
def yX5_ifDays : MethodName := ⟨RX5, "ifDays", "(II)I"⟩
abbrev cX5_bestWant : ByteArray := prog_1_method_26_code
def yX5_bestWant : MethodName := ⟨RX5, "bestWant", "(I)I"⟩
abbrev cX5_undo : ByteArray := prog_1_method_27_code
def yX5_undo : MethodName := ⟨RX5, "undo", "()I"⟩
abbrev cX5_save : ByteArray := prog_1_method_28_code
def yX5_save : MethodName := ⟨RX5, "save", "()I"⟩
abbrev cX5_restore : ByteArray := prog_1_method_29_code
def yX5_restore : MethodName := ⟨RX5, "restore", "()I"⟩
abbrev cX5_isKind : ByteArray := prog_1_method_30_code
def yX5_isKind : MethodName := ⟨RX5, "isKind", "(I)Z"⟩
abbrev cX5_isSetOfKinds : ByteArray := prog_1_method_31_code
def yX5_isSetOfKinds : MethodName := ⟨RX5, "isSetOfKinds", "(I)Z"⟩
abbrev cX5_isCircleLength : ByteArray := prog_1_method_32_code
def yX5_isCircleLength : MethodName := ⟨RX5, "isCircleLength", "(I)Z"⟩
abbrev cX5_holds : ByteArray := prog_1_method_33_code
def yX5_holds : MethodName := ⟨RX5, "holds", "(II)Z"⟩
abbrev cX5_with : ByteArray := prog_1_method_34_code
def yX5_with : MethodName := ⟨RX5, "with", "(II)I"⟩
abbrev cX5_callMarket : ByteArray := prog_1_method_35_code
def yX5_callMarket : MethodName := ⟨RX5, "callMarket", "(LBarterRings$Market;)I"⟩
abbrev cX5_bestGiver : ByteArray := prog_1_method_36_code
def yX5_bestGiver : MethodName := ⟨RX5, "bestGiver", "(I)I"⟩
abbrev cX5_doDaysOfPad : ByteArray := prog_1_method_37_code
def yX5_doDaysOfPad : MethodName := ⟨RX5, "doDaysOfPad", "()V"⟩
abbrev cX5_doBarterOfPad : ByteArray := prog_1_method_38_code
def yX5_doBarterOfPad : MethodName := ⟨RX5, "doBarterOfPad", "(I)V"⟩
def RX6 : String := "BarterRingsModel"
def TX6 : u_T := fun k => match k with
  | 0 => ("BarterRingsModel", "s", "[I", true)
  | 1 => ("BarterRingsModel", "aside", "[I", true)
  | 2 => ("BarterRingsModel", "history", "[I", true)
  | 3 => ("BarterRingsModel", "kept", "I", false)
  | 4 => ("BarterRingsModel", "snapshot", "[I", true)
  | 5 => ("BarterRingsModel", "isSaved", "Z", false)
  | 6 => ("BarterRingsModel", "pad", "[I", true)
  | 7 => ("BarterRingsModel", "length", "I", false)
  | 8 => ("BarterRingsModel", "stopBy", "I", false)
  | 9 => ("BarterRingsModel", "stopAt", "I", false)
  | 10 => ("BarterRingsModel", "best", "[I", true)
  | 11 => ("BarterRingsModel", "bestMany", "I", false)
  | 12 => ("BarterRingsModel", "tried", "[I", true)
  | 13 => ("BarterRingsModel", "begin", "[I", true)
  | 14 => ("BarterRingsModel", "wares", "[I", true)
  | 15 => ("BarterRingsModel", "ages", "[I", true)
  | _ => ("BarterRingsModel", "told", "I", false)
def tyX6 : Nat → FieldType := fun k => match k with
  | 0 => .array .int
  | 1 => .array .int
  | 2 => .array .int
  | 3 => .int
  | 4 => .array .int
  | 5 => .boolean
  | 6 => .array .int
  | 7 => .int
  | 8 => .int
  | 9 => .int
  | 10 => .array .int
  | 11 => .int
  | 12 => .array .int
  | 13 => .array .int
  | 14 => .array .int
  | 15 => .array .int
  | _ => .int
theorem nmX6 : ∀ a, a < 17 → ∀ b, b < 17 → a ≠ b → (TX6 a).2.1 ≠ (TX6 b).2.1 := by decide +kernel
theorem tyX6_ok : ∀ k, k < 17 → parseFieldDescriptor (TX6 k).2.2.1 = some (tyX6 k) := by decide +kernel
abbrev cX6_init : ByteArray := prog_8_method_1_code
def yX6_init : MethodName := ⟨RX6, "<init>", "()V"⟩
abbrev cX6_in : ByteArray := prog_8_method_3_code
def yX6_in : MethodName := ⟨RX6, "in", "(III)Z"⟩
abbrev cX6_isTrader : ByteArray := prog_8_method_4_code
def yX6_isTrader : MethodName := ⟨RX6, "isTrader", "(I)Z"⟩
abbrev cX6_arePair : ByteArray := prog_8_method_5_code
def yX6_arePair : MethodName := ⟨RX6, "arePair", "(II)Z"⟩
abbrev cX6_isKind : ByteArray := prog_8_method_6_code
def yX6_isKind : MethodName := ⟨RX6, "isKind", "(I)Z"⟩
abbrev cX6_ofKind : ByteArray := prog_8_method_7_code
def yX6_ofKind : MethodName := ⟨RX6, "ofKind", "(II)I"⟩
abbrev cX6_at : ByteArray := prog_8_method_8_code
def yX6_at : MethodName := ⟨RX6, "at", "(II)I"⟩
abbrev cX6_of : ByteArray := prog_8_method_9_code
def yX6_of : MethodName := ⟨RX6, "of", "(II)I"⟩
abbrev cX6_bits : ByteArray := prog_8_method_10_code
def yX6_bits : MethodName := ⟨RX6, "bits", "(I)I"⟩
abbrev cX6_record : ByteArray := prog_8_method_11_code
def yX6_record : MethodName := ⟨RX6, "record", "()V"⟩
abbrev cX6_putAside : ByteArray := prog_8_method_12_code
def yX6_putAside : MethodName := ⟨RX6, "putAside", "()V"⟩
abbrev cX6_putBack : ByteArray := prog_8_method_13_code
def yX6_putBack : MethodName := ⟨RX6, "putBack", "()V"⟩
abbrev cX6_daysLeft : ByteArray := prog_8_method_14_code
def yX6_daysLeft : MethodName := ⟨RX6, "daysLeft", "(I)I"⟩
abbrev cX6_wants : ByteArray := prog_8_method_15_code
def yX6_wants : MethodName := ⟨RX6, "wants", "(II)Z"⟩
abbrev cX6_takes : ByteArray := prog_8_method_16_code
def yX6_takes : MethodName := ⟨RX6, "takes", "(II)Z"⟩
abbrev cX6_areCircles : ByteArray := prog_8_method_17_code
def yX6_areCircles : MethodName := ⟨RX6, "areCircles", "(I)Z"⟩
abbrev cX6_keepsBest : ByteArray := prog_8_method_18_code
def yX6_keepsBest : MethodName := ⟨RX6, "keepsBest", "(I)V"⟩
abbrev cX6_may : ByteArray := prog_8_method_19_code
def yX6_may : MethodName := ⟨RX6, "may", "(III)Z"⟩
abbrev cX6_layBest : ByteArray := prog_8_method_20_code
def yX6_layBest : MethodName := ⟨RX6, "layBest", "(I)V"⟩
abbrev cX6_gets : ByteArray := prog_8_method_21_code
def yX6_gets : MethodName := ⟨RX6, "gets", "(III)V"⟩
abbrev cX6_looksAtWares : ByteArray := prog_8_method_22_code
def yX6_looksAtWares : MethodName := ⟨RX6, "looksAtWares", "()V"⟩
abbrev cX6_calls : ByteArray := prog_8_method_23_code
def yX6_calls : MethodName := ⟨RX6, "calls", "()I"⟩
abbrev cX6_reason : ByteArray := prog_8_method_24_code
def yX6_reason : MethodName := ⟨RX6, "reason", "(II)I"⟩
abbrev cX6_barters : ByteArray := prog_8_method_25_code
def yX6_barters : MethodName := ⟨RX6, "barters", "(II)I"⟩
abbrev cX6_passes : ByteArray := prog_8_method_26_code
def yX6_passes : MethodName := ⟨RX6, "passes", "()I"⟩
abbrev cX6_comes : ByteArray := prog_8_method_27_code
def yX6_comes : MethodName := ⟨RX6, "comes", "(II)I"⟩
abbrev cX6_come : ByteArray := prog_8_method_28_code
def yX6_come : MethodName := ⟨RX6, "come", "(II)I"⟩
abbrev cX6_go : ByteArray := prog_8_method_29_code
def yX6_go : MethodName := ⟨RX6, "go", "(I)I"⟩
abbrev cX6_lays : ByteArray := prog_8_method_30_code
def yX6_lays : MethodName := ⟨RX6, "lays", "(II)I"⟩
abbrev cX6_want : ByteArray := prog_8_method_31_code
def yX6_want : MethodName := ⟨RX6, "want", "(II)I"⟩
abbrev cX6_life : ByteArray := prog_8_method_32_code
def yX6_life : MethodName := ⟨RX6, "life", "(II)I"⟩
abbrev cX6_circle : ByteArray := prog_8_method_33_code
def yX6_circle : MethodName := ⟨RX6, "circle", "(I)I"⟩
abbrev cX6_lot : ByteArray := prog_8_method_34_code
def yX6_lot : MethodName := ⟨RX6, "lot", "(I)I"⟩
abbrev cX6_barter : ByteArray := prog_8_method_35_code
def yX6_barter : MethodName := ⟨RX6, "barter", "(II)I"⟩
abbrev cX6_call : ByteArray := prog_8_method_36_code
def yX6_call : MethodName := ⟨RX6, "call", "()I"⟩
abbrev cX6_day : ByteArray := prog_8_method_37_code
def yX6_day : MethodName := ⟨RX6, "day", "()I"⟩
abbrev cX6_append : ByteArray := prog_8_method_38_code
def yX6_append : MethodName := ⟨RX6, "append", "(I)I"⟩
abbrev cX6_clear : ByteArray := prog_8_method_39_code
def yX6_clear : MethodName := ⟨RX6, "clear", "()I"⟩
abbrev cX6_next : ByteArray := prog_8_method_40_code
def yX6_next : MethodName := ⟨RX6, "next", "(I)I"⟩
abbrev cX6_behindTrader : ByteArray := prog_8_method_41_code
def yX6_behindTrader : MethodName := ⟨RX6, "behindTrader", "(I)I"⟩
abbrev cX6_faultOfTraders : ByteArray := prog_8_method_42_code
def yX6_faultOfTraders : MethodName := ⟨RX6, "faultOfTraders", "()I"⟩
abbrev cX6_faultOfDays : ByteArray := prog_8_method_43_code
def yX6_faultOfDays : MethodName := ⟨RX6, "faultOfDays", "()I"⟩
abbrev cX6_fault : ByteArray := prog_8_method_44_code
def yX6_fault : MethodName := ⟨RX6, "fault", "(I)I"⟩
abbrev cX6_traders : ByteArray := prog_8_method_45_code
def yX6_traders : MethodName := ⟨RX6, "traders", "()I"⟩
abbrev cX6_isDone : ByteArray := prog_8_method_46_code
def yX6_isDone : MethodName := ⟨RX6, "isDone", "(I)Z"⟩
abbrev cX6_days : ByteArray := prog_8_method_47_code
def yX6_days : MethodName := ⟨RX6, "days", "()I"⟩
abbrev cX6_why : ByteArray := prog_8_method_48_code
def yX6_why : MethodName := ⟨RX6, "why", "(I)I"⟩
abbrev cX6_takesFrom : ByteArray := prog_8_method_49_code
def yX6_takesFrom : MethodName := ⟨RX6, "takesFrom", "(I)I"⟩
abbrev cX6_givesTo : ByteArray := prog_8_method_50_code
def yX6_givesTo : MethodName := ⟨RX6, "givesTo", "(I)I"⟩
abbrev cX6_bestFor : ByteArray := prog_8_method_51_code
def yX6_bestFor : MethodName := ⟨RX6, "bestFor", "(I)I"⟩
abbrev cX6_trader : ByteArray := prog_8_method_52_code
def yX6_trader : MethodName := ⟨RX6, "trader", "(II)I"⟩
abbrev cX6_can : ByteArray := prog_8_method_53_code
def yX6_can : MethodName := ⟨RX6, "can", "(II)I"⟩
abbrev cX6_whyNot : ByteArray := prog_8_method_54_code
def yX6_whyNot : MethodName := ⟨RX6, "whyNot", "(II)I"⟩
abbrev cX6_mostWith : ByteArray := prog_8_method_55_code
def yX6_mostWith : MethodName := ⟨RX6, "mostWith", "(I)I"⟩
abbrev cX6_most : ByteArray := prog_8_method_56_code
def yX6_most : MethodName := ⟨RX6, "most", "(I)I"⟩
abbrev cX6_sumOf : ByteArray := prog_8_method_57_code
def yX6_sumOf : MethodName := ⟨RX6, "sumOf", "(II)I"⟩
abbrev cX6_kind : ByteArray := prog_8_method_58_code
def yX6_kind : MethodName := ⟨RX6, "kind", "(II)I"⟩
abbrev cX6_needs : ByteArray := prog_8_method_59_code
def yX6_needs : MethodName := ⟨RX6, "needs", "()I"⟩
abbrev cX6_spoilt : ByteArray := prog_8_method_60_code
def yX6_spoilt : MethodName := ⟨RX6, "spoilt", "()I"⟩
abbrev cX6_stuck : ByteArray := prog_8_method_61_code
def yX6_stuck : MethodName := ⟨RX6, "stuck", "()I"⟩
abbrev cX6_count : ByteArray := prog_8_method_62_code
def yX6_count : MethodName := ⟨RX6, "count", "(I)I"⟩
abbrev cX6_freshness : ByteArray := prog_8_method_63_code
def yX6_freshness : MethodName := ⟨RX6, "freshness", "()D"⟩
abbrev cX6_ifCircle : ByteArray := prog_8_method_64_code
def yX6_ifCircle : MethodName := ⟨RX6, "ifCircle", "(I)I"⟩
abbrev cX6_ifDays : ByteArray := prog_8_method_65_code
def yX6_ifDays : MethodName := ⟨RX6, "ifDays", "(II)I"⟩
abbrev cX6_bestWant : ByteArray := prog_8_method_66_code
def yX6_bestWant : MethodName := ⟨RX6, "bestWant", "(I)I"⟩
abbrev cX6_undo : ByteArray := prog_8_method_67_code
def yX6_undo : MethodName := ⟨RX6, "undo", "()I"⟩
abbrev cX6_save : ByteArray := prog_8_method_68_code
def yX6_save : MethodName := ⟨RX6, "save", "()I"⟩
abbrev cX6_restore : ByteArray := prog_8_method_69_code
def yX6_restore : MethodName := ⟨RX6, "restore", "()I"⟩
def RJ6 : String := "java/lang/Integer"
abbrev cJ6_bitCount_0f7a4 : ByteArray := prog_9_method_49_code
def yJ6_bitCount_0f7a4 : MethodName := ⟨RJ6, "bitCount", "(I)I"⟩
def RJ9 : String := "java/lang/Math"
abbrev cJ9_max_7cf53 : ByteArray := prog_10_method_65_code
def yJ9_max_7cf53 : MethodName := ⟨RJ9, "max", "(II)I"⟩
abbrev cJ9_min_7cf53 : ByteArray := prog_10_method_69_code
def yJ9_min_7cf53 : MethodName := ⟨RJ9, "min", "(II)I"⟩
def RJ10 : String := "java/lang/System"
def RJ7 : String := "java/util/Arrays"
abbrev cJ7_fill_53178 : ByteArray := prog_12_method_103_code
def yJ7_fill_53178 : MethodName := ⟨RJ7, "fill", "([II)V"⟩
def RL : String := "BarterRingsLaw"
abbrev cL_law : ByteArray := code
def yL_law : MethodName := ⟨RL, "law", "([I)Z"⟩
abbrev vwCl : List vw_C := [(RX0, TX0, 6), (RX1, TX1, 3), (RX2, TX2, 18), (RX3, TX3, 2), (RX4, TX4, 6), (RX5, TX5, 10), (RX6, TX6, 17)]
end
section
def WA : List Cond := lw_tbl.filter goodWord
/-! the abstract machine: cells by number, references as numbers; X says that the machine goes from here to the method's end -/
abbrev cG : Type := (Nat → ClassId) × (Nat → Nat → Nat) × (Nat → ClassId)
abbrev Md : Type := ByteArray × MethodName × Nat × Option FieldType
abbrev AC : Type := (Nat × List Value) ⊕ ((Nat × List Int32) ⊕ List (Option Nat))
def scrId : Nat := 4294967296
def cv (b : Nat) (ad : List Nat) : Value → Value
  | .ref k => .ref (if k = scrId then b else ad.getD k 0)
  | v => v
def cvc (G : cG) (b : Nat) (ad : List Nat) : AC → va_E
  | .inl (ci, fs) => .inr (ci, fs.map (cv b ad))
  | .inr (.inl (t, xs)) => .inl (G.2.2 t, xs.length, .inl (fun j => xs.getD j 0))
  | .inr (.inr rs) => .inl (G.2.2 3, rs.length, .inr (.inr (.inr (.inr (fun j => (rs.getD j none).map (fun k => ad.getD k 0))))))
def csize : AC → Nat
  | .inl (_, fs) => fs.length
  | .inr (.inl (_, xs)) => xs.length
  | .inr (.inr rs) => rs.length
def csz (AH : List AC) : Nat := (AH.map csize).sum
def wsl (G : cG) (b : Nat) (ad : List Nat) (AH : List AC) : va_W := AH.mapIdx (fun k c => (ad.getD k 0, cvc G b ad c))
def tysG (G : cG) : List (ClassId × FieldType) := [(G.2.2 0, .int), (G.2.2 1, .boolean), (G.2.2 2, .char), (G.2.2 3, .object "BarterRings$Market")]
def tyN : Nat → FieldType
  | 0 => .int
  | 1 => .boolean
  | 2 => .char
  | _ => .object "BarterRings$Market"
def nests : List (String × Nat × MethodName) := [(RX5, 31, yX3_init), (RX5, 38, yX0_init), (RX5, 45, yX4_init), (RX2, 87, yX5_isKind), (RX2, 103, yX5_holds), (RX2, 119, yX5_with), (RX4, 57, yX5_holds), (RX4, 64, yX5_with), (RX3, 27, yX5_with), (RX0, 69, yX5_holds), (RX0, 73, yX5_with)]
def aK (G : cG) (U : State) : Prop := va_K (G.1, G.2.1) vwCl (tysG G) U ∧ (∀ q ∈ nests, va_Nw (.methodLinkNest q.1 q.2.1 q.2.2 "BarterRings") U) ∧ va_AO "BarterRings$Market" U
def aW (G : cG) (b : Nat) (ad : List Nat) (AH : List AC) (H : Heap) : Prop := ad.length = AH.length ∧ va_P (G.1, G.2.1) vwCl (wsl G b ad AH) H ∧ va_D (fun _ => True) (wsl G b ad AH)
def okv (n : Nat) : Value → Bool
  | .ref k => decide (k < n) || decide (k = scrId)
  | _ => true
def okc (n : Nat) : AC → Bool
  | .inl (_, fs) => fs.all (okv n)
  | .inr (.inl _) => true
  | .inr (.inr rs) => rs.all (fun o => match o with | some k => decide (k < n) | none => true)
def okH (AH : List AC) : Bool := AH.all (okc AH.length)
def okL (n : Nat) (ls : List (Option Value)) : Bool := ls.all (fun o => match o with | some v => okv n v | none => true)
def lsOK (lsA : Array Slot) (nL b : Nat) (ad : List Nat) (ls : List (Option Value)) : Prop := lsA.size = nL ∧ lv_wf lsA ∧ ∀ (i : Nat) (v : Value), ls[i]? = some (some v) → lsA[i]? = some (.val (cv b ad v))
def lent (n : Nat) (as : List Value) : List (Option Value) := as.map some ++ List.replicate (n - as.length) none
def Ends (μ : Md) (pc : Nat) (st : List Value) (r : Option Value) : Prop :=
  (decode μ.1 pc = .ok (.return_, 1) ∧ st = [] ∧ r = none ∧ μ.2.2.2 = none) ∨
  (∃ (v : Int32) (ty : FieldType), decode μ.1 pc = .ok (.ireturn, 1) ∧ st = [.int v] ∧ r = some (.int v) ∧ μ.2.2.2 = some ty ∧ narrow ty (.int v) = .int v) ∨
  (∃ v : UInt64, decode μ.1 pc = .ok (.dreturn, 1) ∧ st = [.double v] ∧ r = some (.double v) ∧ μ.2.2.2 = some .double) ∨
  (∃ (k : Nat) (C : String), decode μ.1 pc = .ok (.areturn, 1) ∧ st = [.ref k] ∧ r = some (.ref k) ∧ μ.2.2.2 = some (.object C))
abbrev cS : Type := Option (Nat × (Nat → Int32))
def scOK (sc : cS) (b : Nat) (s : State) (A : Nat → Prop) (H0 : Heap) : Prop := match sc with
  | none => True
  | some (L, xs) => va_X b L xs s H0 ∧ b < H0.size ∧ ¬ A b
def Cx (sc : cS) (G : cG) (μ : Md) (d : Nat) (ls : List (Option Value)) (AH : List AC) (r : Option Value) (AH' : List AC) (p : Program) (l : Launch) (e : Env) (R : Room) (s : State) (m : MethodId) (args : Array Value) (below : List Frame) (meth : Method) (c : Code) (H : Heap) (locs : List Loc) (cells slots : Nat) (Q : State → Prop) (lsA : Array Slot) (b : Nat) (ad : List Nat) (A : Nat → Prop) (H0 : Heap) (n0 s0 : Nat) : Prop :=
  (p.tables.exec = Jvm.exec ∧ c.code = μ.1 ∧ c.maxLocals = μ.2.2.1 ∧ s.vm.findClass μ.2.1.cls = some m.cls ∧ (∀ w ∈ WA, w.before args s = true) ∧ (μ.2.1.name = "<init>" → meth.name = "<init>")) ∧
  lsOK lsA μ.2.2.1 b ad ls ∧ aW G b ad AH H ∧ (aK G s ∧ scOK sc b s A H0) ∧ (va_S A H0 H locs ∧ (∀ q, H0.size ≤ q → A q) ∧ ∀ x ∈ ad, A x) ∧
  (d ≤ R.frames ∧ 40 * d ≤ R.locals) ∧ (cells + n0 = AH.length ∧ slots + s0 = csz AH ∧ AH'.length ≤ R.cells + n0 ∧ csz AH' ≤ R.slots + s0) ∧
  (∀ (pc : Nat) (lsB : Array Slot) (st : List Value) (ex : List Nat) (H' : Heap) (locs' : List Loc) (cells' slots' : Nat), Ends μ pc st r → aW G b (ad ++ ex) AH' H' → va_S A H0 H' locs' → (∀ x ∈ ad ++ ex, A x) → cells' + n0 = AH'.length → slots' + s0 = csz AH' →
    W p l e R s m args below meth c H' locs' cells' slots' Q (F0 m pc lsB (st.map (cv b (ad ++ ex)))))
def X (sc : cS) (d : Nat) (μ : Md) (pc : Nat) (ls : List (Option Value)) (st : List Value) (AH : List AC) (r : Option Value) (AH' : List AC) : Prop :=
  (AH.length ≤ AH'.length ∧ csz AH ≤ csz AH') ∧
  ∀ (G : cG) (p : Program) (l : Launch) (e : Env) (R : Room) (s : State) (m : MethodId) (args : Array Value) (below : List Frame) (meth : Method) (c : Code) (H : Heap) (locs : List Loc) (cells slots : Nat) (Q : State → Prop) (lsA : Array Slot) (b : Nat) (ad : List Nat) (A : Nat → Prop) (H0 : Heap) (n0 s0 : Nat),
    Cx sc G μ d ls AH r AH' p l e R s m args below meth c H locs cells slots Q lsA b ad A H0 n0 s0 → W p l e R s m args below meth c H locs cells slots Q (F0 m pc lsA (st.map (cv b ad)))
/-! worlds -/
theorem wsl_len {G : cG} {b : Nat} {ad : List Nat} {AH : List AC} : (wsl G b ad AH).length = AH.length := by simp [wsl]
theorem wsl_get {G : cG} {b : Nat} {ad : List Nat} {AH : List AC} {k : Nat} {c : AC} (h : AH[k]? = some c) : (wsl G b ad AH)[k]? = some (ad.getD k 0, cvc G b ad c) := by simp [wsl, h]
theorem wsl_inv {G : cG} {b : Nat} {ad : List Nat} {AH : List AC} {k : Nat} {q : Nat × va_E} (h : (wsl G b ad AH)[k]? = some q) : ∃ c, AH[k]? = some c ∧ q = (ad.getD k 0, cvc G b ad c) := by
  simp only [wsl, List.getElem?_mapIdx] at h
  cases hc : AH[k]? with
  | none => rw [hc] at h; cases h
  | some c => rw [hc] at h; exact ⟨c, rfl, (Option.some.inj h).symm⟩
theorem wsl_set {G : cG} {b : Nat} {ad : List Nat} {AH : List AC} {k : Nat} {c : AC} : (wsl G b ad AH).set k (ad.getD k 0, cvc G b ad c) = wsl G b ad (AH.set k c) := by
  apply List.ext_getElem?
  intro i
  simp only [wsl, List.getElem?_set, List.getElem?_mapIdx, List.length_mapIdx]
  by_cases h : k = i
  · subst h
    by_cases hl : k < AH.length
    · simp [hl]
    · simp [hl]
  · simp [h]
theorem cv_cat {b : Nat} {ad : List Nat} (v : Value) : (cv b ad v).category = v.category := by cases v <;> rfl
theorem cv_ext {b : Nat} {ad ex : List Nat} {v : Value} (h : okv ad.length v = true) : cv b (ad ++ ex) v = cv b ad v := by
  cases v <;> try rfl
  rename_i k
  simp only [okv, Bool.or_eq_true, decide_eq_true_eq] at h
  simp only [cv]
  by_cases hk : k = scrId
  · simp [hk]
  · have hl : k < ad.length := by
      rcases h with h | h
      · exact h
      · exact absurd h hk
    simp [hk, List.getD_eq_getElem?_getD, List.getElem?_append_left hl]
theorem cvc_ext {G : cG} {b : Nat} {ad ex : List Nat} {c : AC} (h : okc ad.length c = true) : cvc G b (ad ++ ex) c = cvc G b ad c := by
  rcases c with ⟨ci, fs⟩ | ⟨t, xs⟩ | rs
  · simp only [cvc]
    congr 2
    apply List.map_congr_left
    intro v hv
    exact cv_ext (List.all_eq_true.mp h v hv)
  · rfl
  · simp only [cvc]
    have e : (fun j : Nat => (rs.getD j none).map (fun k => (ad ++ ex).getD k 0)) = (fun j : Nat => (rs.getD j none).map (fun k => ad.getD k 0)) := by
      funext j
      cases hj : rs.getD j none with
      | none => rfl
      | some k =>
        have hm : some k ∈ rs := by
          rw [List.getD_eq_getElem?_getD] at hj
          cases hq : rs[j]? with
          | none => rw [hq] at hj; cases hj
          | some o => rw [hq] at hj; simp at hj; exact hj ▸ List.mem_of_getElem? hq
        have hl : k < ad.length := by simpa using List.all_eq_true.mp h _ hm
        simp [List.getD_eq_getElem?_getD, List.getElem?_append_left hl]
    rw [e]
theorem wsl_ext {G : cG} {b : Nat} {ad ex : List Nat} {AH : List AC} (hl : ad.length = AH.length) (h : okH AH = true) : wsl G b (ad ++ ex) AH = wsl G b ad AH := by
  apply List.ext_getElem?
  intro i
  simp only [wsl, List.getElem?_mapIdx]
  cases hc : AH[i]? with
  | none => rfl
  | some c =>
    have hi : i < ad.length := by rw [hl]; exact (List.getElem?_eq_some_iff.mp hc).1
    have ho : okc ad.length c = true := by rw [hl]; exact List.all_eq_true.mp h c (List.mem_of_getElem? hc)
    simp [cvc_ext ho, List.getD_eq_getElem?_getD, List.getElem?_append_left hi]
theorem wsl_push {G : cG} {b q : Nat} {ad : List Nat} {AH : List AC} {c : AC} (hl : ad.length = AH.length) (h : okH AH = true) : wsl G b ad AH ++ [(q, cvc G b (ad ++ [q]) c)] = wsl G b (ad ++ [q]) (AH ++ [c]) := by
  have e : wsl G b (ad ++ [q]) (AH ++ [c]) = wsl G b (ad ++ [q]) AH ++ [((ad ++ [q]).getD AH.length 0, cvc G b (ad ++ [q]) c)] := by simp [wsl, List.mapIdx_append]
  rw [e, wsl_ext hl h]
  simp [List.getD_eq_getElem?_getD, ← hl]
theorem st_ext {b : Nat} {ad ex : List Nat} {st : List Value} (h : st.all (okv ad.length) = true) : st.map (cv b (ad ++ ex)) = st.map (cv b ad) := by
  apply List.map_congr_left
  intro v hv
  exact cv_ext (List.all_eq_true.mp h v hv)
theorem lsOK_ext {lsA : Array Slot} {nL b : Nat} {ad ex : List Nat} {ls : List (Option Value)} (h : lsOK lsA nL b ad ls) (ho : okL ad.length ls = true) : lsOK lsA nL b (ad ++ ex) ls := by
  refine ⟨h.1, h.2.1, fun i v hv => ?_⟩
  rw [h.2.2 i v hv]
  have h1 : okv ad.length v = true := by simpa using List.all_eq_true.mp ho _ (List.mem_of_getElem? hv)
  rw [cv_ext h1]
theorem wsl_addr {G : cG} {b : Nat} {ad : List Nat} {AH : List AC} (hl : ad.length = AH.length) {A : Nat → Prop} (h : ∀ x ∈ ad, A x) {k : Nat} {q : Nat × va_E} (hq : (wsl G b ad AH)[k]? = some q) : A q.1 := by
  obtain ⟨c, hc, rfl⟩ := wsl_inv hq
  have hi : k < ad.length := by rw [hl]; exact (List.getElem?_eq_some_iff.mp hc).1
  apply h
  simp [List.getD_eq_getElem?_getD, hi]
theorem aW_D {G : cG} {b : Nat} {ad : List Nat} {AH : List AC} {H : Heap} {A : Nat → Prop} (h : aW G b ad AH H) (hA : ∀ x ∈ ad, A x) : va_D A (wsl G b ad AH) := ⟨h.2.2.1, fun k q hq => wsl_addr h.1 hA hq⟩
theorem aW_of {G : cG} {b : Nat} {ad : List Nat} {AH : List AC} {H : Heap} {A : Nat → Prop} (hl : ad.length = AH.length) (hP : va_P (G.1, G.2.1) vwCl (wsl G b ad AH) H) (hD : va_D A (wsl G b ad AH)) : aW G b ad AH H := ⟨hl, hP, hD.weaken (fun _ _ _ _ => trivial)⟩
theorem csz_set {AH : List AC} {k : Nat} {c c0 : AC} (h : AH[k]? = some c0) (hc : csize c = csize c0) : csz (AH.set k c) = csz AH := by
  have : (AH.set k c).map csize = AH.map csize := by
    rw [List.map_set]
    apply List.ext_getElem?
    intro i
    rw [List.getElem?_set]
    by_cases hi : k = i
    · subst hi
      obtain ⟨hl, he⟩ := List.getElem?_eq_some_iff.mp h
      simp [hl, hc, he]
    · simp [hi]
  rw [csz, csz, this]
theorem csz_push {AH : List AC} {c : AC} : csz (AH ++ [c]) = csz AH + csize c := by simp [csz]
theorem wa_good : GoodIn WA WA := fun _ hw => ⟨hw, good_of_word (List.mem_filter.mp hw).2⟩
theorem wa_t {w : Cond} (i : Nat) (h : tables_1[i]? = some w) (hg : goodWord w = true) : w ∈ WA := List.mem_filter.mpr ⟨List.mem_append_right _ (List.mem_of_getElem? h), hg⟩
theorem wa_s {w : Cond} (i : Nat) (h : (k2_sels lw_privs)[i]? = some w) (hg : goodWord w = true) : w ∈ WA := List.mem_filter.mpr ⟨List.mem_append_left _ (List.mem_of_getElem? h), hg⟩
theorem wa_cp1 : Cond.native arraycopyName ∈ WA := wa_t 246 rfl rfl
theorem wa_cp2 : Cond.static arraycopyName ∈ WA := wa_t 245 rfl rfl
theorem wa_cp3 : Cond.initialized "java/lang/System" ∈ WA := wa_t 9 rfl rfl
theorem wa_oi1 : Cond.instanceMethod Lib.objectInit ∈ WA := wa_t 18 rfl rfl
theorem wa_oi2 : Cond.code Lib.objectInit ⟨#[0xb1]⟩ 1 none ∈ WA := wa_t 19 rfl rfl
end
section
theorem x_iconst {sc : cS} {d : Nat} {μ : Md} {pc : Nat} {ls : List (Option Value)} {st : List Value} {AH AH' : List AC} {r : Option Value} {n : Int} (hd : decode μ.1 pc = .ok (.iconst n, 1)) (k : X sc d μ (pc + 1) ls (.int (Int32.ofInt n) :: st) AH r AH') : X sc d μ pc ls (st) AH r AH' := ⟨k.1, fun G p l e R s m args below meth c H locs cells slots Q lsA b ad A H0 n0 s0 hC => lv_iconst hC.1.1 hC.1.2.1 hd rfl (k.2 G p l e R s m args below meth c H locs cells slots Q lsA b ad A H0 n0 s0 hC)⟩
theorem x_bipush {sc : cS} {d : Nat} {μ : Md} {pc : Nat} {ls : List (Option Value)} {st : List Value} {AH AH' : List AC} {r : Option Value} {n : Int} (hd : decode μ.1 pc = .ok (.bipush n, 2)) (k : X sc d μ (pc + 2) ls (.int (Int8.ofInt n).toInt32 :: st) AH r AH') : X sc d μ pc ls (st) AH r AH' := ⟨k.1, fun G p l e R s m args below meth c H locs cells slots Q lsA b ad A H0 n0 s0 hC => lv_bipush hC.1.1 hC.1.2.1 hd rfl (k.2 G p l e R s m args below meth c H locs cells slots Q lsA b ad A H0 n0 s0 hC)⟩
theorem x_sipush {sc : cS} {d : Nat} {μ : Md} {pc : Nat} {ls : List (Option Value)} {st : List Value} {AH AH' : List AC} {r : Option Value} {n : Int} (hd : decode μ.1 pc = .ok (.sipush n, 3)) (k : X sc d μ (pc + 3) ls (.int (Int16.ofInt n).toInt32 :: st) AH r AH') : X sc d μ pc ls (st) AH r AH' := ⟨k.1, fun G p l e R s m args below meth c H locs cells slots Q lsA b ad A H0 n0 s0 hC => lv_sipush hC.1.1 hC.1.2.1 hd rfl (k.2 G p l e R s m args below meth c H locs cells slots Q lsA b ad A H0 n0 s0 hC)⟩
theorem x_iadd {sc : cS} {d : Nat} {μ : Md} {pc : Nat} {ls : List (Option Value)} {st : List Value} {AH AH' : List AC} {r : Option Value} {x y : Int32} (hd : decode μ.1 pc = .ok (.iadd, 1)) (k : X sc d μ (pc + 1) ls (.int (x + y) :: st) AH r AH') : X sc d μ pc ls (.int y :: .int x :: st) AH r AH' := ⟨k.1, fun G p l e R s m args below meth c H locs cells slots Q lsA b ad A H0 n0 s0 hC => lv_iadd hC.1.1 hC.1.2.1 hd (k.2 G p l e R s m args below meth c H locs cells slots Q lsA b ad A H0 n0 s0 hC)⟩
theorem x_isub {sc : cS} {d : Nat} {μ : Md} {pc : Nat} {ls : List (Option Value)} {st : List Value} {AH AH' : List AC} {r : Option Value} {x y : Int32} (hd : decode μ.1 pc = .ok (.isub, 1)) (k : X sc d μ (pc + 1) ls (.int (x - y) :: st) AH r AH') : X sc d μ pc ls (.int y :: .int x :: st) AH r AH' := ⟨k.1, fun G p l e R s m args below meth c H locs cells slots Q lsA b ad A H0 n0 s0 hC => lv_isub hC.1.1 hC.1.2.1 hd (k.2 G p l e R s m args below meth c H locs cells slots Q lsA b ad A H0 n0 s0 hC)⟩
theorem x_imul {sc : cS} {d : Nat} {μ : Md} {pc : Nat} {ls : List (Option Value)} {st : List Value} {AH AH' : List AC} {r : Option Value} {x y : Int32} (hd : decode μ.1 pc = .ok (.imul, 1)) (k : X sc d μ (pc + 1) ls (.int (x * y) :: st) AH r AH') : X sc d μ pc ls (.int y :: .int x :: st) AH r AH' := ⟨k.1, fun G p l e R s m args below meth c H locs cells slots Q lsA b ad A H0 n0 s0 hC => lv_imul hC.1.1 hC.1.2.1 hd (k.2 G p l e R s m args below meth c H locs cells slots Q lsA b ad A H0 n0 s0 hC)⟩
theorem x_iand {sc : cS} {d : Nat} {μ : Md} {pc : Nat} {ls : List (Option Value)} {st : List Value} {AH AH' : List AC} {r : Option Value} {x y : Int32} (hd : decode μ.1 pc = .ok (.iand, 1)) (k : X sc d μ (pc + 1) ls (.int (x &&& y) :: st) AH r AH') : X sc d μ pc ls (.int y :: .int x :: st) AH r AH' := ⟨k.1, fun G p l e R s m args below meth c H locs cells slots Q lsA b ad A H0 n0 s0 hC => lv_iand hC.1.1 hC.1.2.1 hd (k.2 G p l e R s m args below meth c H locs cells slots Q lsA b ad A H0 n0 s0 hC)⟩
theorem x_ior {sc : cS} {d : Nat} {μ : Md} {pc : Nat} {ls : List (Option Value)} {st : List Value} {AH AH' : List AC} {r : Option Value} {x y : Int32} (hd : decode μ.1 pc = .ok (.ior, 1)) (k : X sc d μ (pc + 1) ls (.int (x ||| y) :: st) AH r AH') : X sc d μ pc ls (.int y :: .int x :: st) AH r AH' := ⟨k.1, fun G p l e R s m args below meth c H locs cells slots Q lsA b ad A H0 n0 s0 hC => lv_ior hC.1.1 hC.1.2.1 hd (k.2 G p l e R s m args below meth c H locs cells slots Q lsA b ad A H0 n0 s0 hC)⟩
theorem x_ixor {sc : cS} {d : Nat} {μ : Md} {pc : Nat} {ls : List (Option Value)} {st : List Value} {AH AH' : List AC} {r : Option Value} {x y : Int32} (hd : decode μ.1 pc = .ok (.ixor, 1)) (k : X sc d μ (pc + 1) ls (.int (x ^^^ y) :: st) AH r AH') : X sc d μ pc ls (.int y :: .int x :: st) AH r AH' := ⟨k.1, fun G p l e R s m args below meth c H locs cells slots Q lsA b ad A H0 n0 s0 hC => lv_ixor hC.1.1 hC.1.2.1 hd (k.2 G p l e R s m args below meth c H locs cells slots Q lsA b ad A H0 n0 s0 hC)⟩
theorem x_ishl {sc : cS} {d : Nat} {μ : Md} {pc : Nat} {ls : List (Option Value)} {st : List Value} {AH AH' : List AC} {r : Option Value} {x y : Int32} (hd : decode μ.1 pc = .ok (.ishl, 1)) (k : X sc d μ (pc + 1) ls (.int (x <<< (y &&& 31)) :: st) AH r AH') : X sc d μ pc ls (.int y :: .int x :: st) AH r AH' := ⟨k.1, fun G p l e R s m args below meth c H locs cells slots Q lsA b ad A H0 n0 s0 hC => lv_ishl hC.1.1 hC.1.2.1 hd (k.2 G p l e R s m args below meth c H locs cells slots Q lsA b ad A H0 n0 s0 hC)⟩
theorem x_ishr {sc : cS} {d : Nat} {μ : Md} {pc : Nat} {ls : List (Option Value)} {st : List Value} {AH AH' : List AC} {r : Option Value} {x y : Int32} (hd : decode μ.1 pc = .ok (.ishr, 1)) (k : X sc d μ (pc + 1) ls (.int (x >>> (y &&& 31)) :: st) AH r AH') : X sc d μ pc ls (.int y :: .int x :: st) AH r AH' := ⟨k.1, fun G p l e R s m args below meth c H locs cells slots Q lsA b ad A H0 n0 s0 hC => lv_ishr hC.1.1 hC.1.2.1 hd (k.2 G p l e R s m args below meth c H locs cells slots Q lsA b ad A H0 n0 s0 hC)⟩
theorem x_iushr {sc : cS} {d : Nat} {μ : Md} {pc : Nat} {ls : List (Option Value)} {st : List Value} {AH AH' : List AC} {r : Option Value} {x y : Int32} (hd : decode μ.1 pc = .ok (.iushr, 1)) (k : X sc d μ (pc + 1) ls (.int (x.toUInt32 >>> (y.toUInt32 &&& Int32.toUInt32 31)).toInt32 :: st) AH r AH') : X sc d μ pc ls (.int y :: .int x :: st) AH r AH' := ⟨k.1, fun G p l e R s m args below meth c H locs cells slots Q lsA b ad A H0 n0 s0 hC => lv_iushr hC.1.1 hC.1.2.1 hd rfl (k.2 G p l e R s m args below meth c H locs cells slots Q lsA b ad A H0 n0 s0 hC)⟩
theorem x_irem {sc : cS} {d : Nat} {μ : Md} {pc : Nat} {ls : List (Option Value)} {st : List Value} {AH AH' : List AC} {r : Option Value} {x y : Int32} (hy : ¬ y = 0) (hd : decode μ.1 pc = .ok (.irem, 1)) (k : X sc d μ (pc + 1) ls (.int (x - x / y * y) :: st) AH r AH') : X sc d μ pc ls (.int y :: .int x :: st) AH r AH' := ⟨k.1, fun G p l e R s m args below meth c H locs cells slots Q lsA b ad A H0 n0 s0 hC => lv_irem hC.1.1 hC.1.2.1 hd hy (k.2 G p l e R s m args below meth c H locs cells slots Q lsA b ad A H0 n0 s0 hC)⟩
theorem x_i2c {sc : cS} {d : Nat} {μ : Md} {pc : Nat} {ls : List (Option Value)} {st : List Value} {AH AH' : List AC} {r : Option Value} {x : Int32} (hd : decode μ.1 pc = .ok (.i2c, 1)) (k : X sc d μ (pc + 1) ls (.int (x.toUInt32 % 65536).toInt32 :: st) AH r AH') : X sc d μ pc ls (.int x :: st) AH r AH' := ⟨k.1, fun G p l e R s m args below meth c H locs cells slots Q lsA b ad A H0 n0 s0 hC => lv_i2c hC.1.1 hC.1.2.1 hd rfl (k.2 G p l e R s m args below meth c H locs cells slots Q lsA b ad A H0 n0 s0 hC)⟩
theorem x_i2d {sc : cS} {d : Nat} {μ : Md} {pc : Nat} {ls : List (Option Value)} {st : List Value} {AH AH' : List AC} {r : Option Value} {x : Int32} (hd : decode μ.1 pc = .ok (.i2d, 1)) (k : X sc d μ (pc + 1) ls (.double (FP.i2d x) :: st) AH r AH') : X sc d μ pc ls (.int x :: st) AH r AH' := ⟨k.1, fun G p l e R s m args below meth c H locs cells slots Q lsA b ad A H0 n0 s0 hC => lv_i2d hC.1.1 hC.1.2.1 hd (k.2 G p l e R s m args below meth c H locs cells slots Q lsA b ad A H0 n0 s0 hC)⟩
theorem x_ddiv {sc : cS} {d : Nat} {μ : Md} {pc : Nat} {ls : List (Option Value)} {st : List Value} {AH AH' : List AC} {r : Option Value} {x y : UInt64} (hn : vf_n64 (FP.ddiv x y)) (hd : decode μ.1 pc = .ok (.ddiv, 1)) (k : X sc d μ (pc + 1) ls (.double (FP.ddiv x y) :: st) AH r AH') : X sc d μ pc ls (.double y :: .double x :: st) AH r AH' := ⟨k.1, fun G p l e R s m args below meth c H locs cells slots Q lsA b ad A H0 n0 s0 hC => lv_ddiv hC.1.1 hC.1.2.1 hd hn (k.2 G p l e R s m args below meth c H locs cells slots Q lsA b ad A H0 n0 s0 hC)⟩
theorem x_dcmp {sc : cS} {d : Nat} {μ : Md} {pc : Nat} {ls : List (Option Value)} {st : List Value} {AH AH' : List AC} {r : Option Value} {x y : UInt64} {op : CmpOp} (hd : decode μ.1 pc = .ok (.dcmp op, 1)) (k : X sc d μ (pc + 1) ls (.int (Op.cmpValue (FP.dcmp x y) op) :: st) AH r AH') : X sc d μ pc ls (.double y :: .double x :: st) AH r AH' := ⟨k.1, fun G p l e R s m args below meth c H locs cells slots Q lsA b ad A H0 n0 s0 hC => lv_dcmp hC.1.1 hC.1.2.1 hd (k.2 G p l e R s m args below meth c H locs cells slots Q lsA b ad A H0 n0 s0 hC)⟩
theorem x_dup_i {sc : cS} {d : Nat} {μ : Md} {pc : Nat} {ls : List (Option Value)} {st : List Value} {AH AH' : List AC} {r : Option Value} {x : Int32} (hd : decode μ.1 pc = .ok (.dup, 1)) (k : X sc d μ (pc + 1) ls (.int x :: .int x :: st) AH r AH') : X sc d μ pc ls (.int x :: st) AH r AH' := ⟨k.1, fun G p l e R s m args below meth c H locs cells slots Q lsA b ad A H0 n0 s0 hC => lv_dup hC.1.1 hC.1.2.1 hd rfl (k.2 G p l e R s m args below meth c H locs cells slots Q lsA b ad A H0 n0 s0 hC)⟩
theorem x_dup_r {sc : cS} {d : Nat} {μ : Md} {pc : Nat} {ls : List (Option Value)} {st : List Value} {AH AH' : List AC} {r : Option Value} {o : Nat} (hd : decode μ.1 pc = .ok (.dup, 1)) (k : X sc d μ (pc + 1) ls (.ref o :: .ref o :: st) AH r AH') : X sc d μ pc ls (.ref o :: st) AH r AH' := ⟨k.1, fun G p l e R s m args below meth c H locs cells slots Q lsA b ad A H0 n0 s0 hC => lv_dup hC.1.1 hC.1.2.1 hd rfl (k.2 G p l e R s m args below meth c H locs cells slots Q lsA b ad A H0 n0 s0 hC)⟩
theorem x_dup2_ir {sc : cS} {d : Nat} {μ : Md} {pc : Nat} {ls : List (Option Value)} {st : List Value} {AH AH' : List AC} {r : Option Value} {x : Int32} {o : Nat} (hd : decode μ.1 pc = .ok (.dup2, 1)) (k : X sc d μ (pc + 1) ls (.int x :: .ref o :: .int x :: .ref o :: st) AH r AH') : X sc d μ pc ls (.int x :: .ref o :: st) AH r AH' := ⟨k.1, fun G p l e R s m args below meth c H locs cells slots Q lsA b ad A H0 n0 s0 hC => lv_dup2_11 hC.1.1 hC.1.2.1 hd rfl rfl (k.2 G p l e R s m args below meth c H locs cells slots Q lsA b ad A H0 n0 s0 hC)⟩
theorem x_pop_i {sc : cS} {d : Nat} {μ : Md} {pc : Nat} {ls : List (Option Value)} {st : List Value} {AH AH' : List AC} {r : Option Value} {x : Int32} (hd : decode μ.1 pc = .ok (.pop, 1)) (k : X sc d μ (pc + 1) ls (st) AH r AH') : X sc d μ pc ls (.int x :: st) AH r AH' := ⟨k.1, fun G p l e R s m args below meth c H locs cells slots Q lsA b ad A H0 n0 s0 hC => lv_pop hC.1.1 hC.1.2.1 hd rfl (k.2 G p l e R s m args below meth c H locs cells slots Q lsA b ad A H0 n0 s0 hC)⟩
theorem x_aconst_null {sc : cS} {d : Nat} {μ : Md} {pc : Nat} {ls : List (Option Value)} {st : List Value} {AH AH' : List AC} {r : Option Value}  (hd : decode μ.1 pc = .ok (.aconst_null, 1)) (k : X sc d μ (pc + 1) ls (.null :: st) AH r AH') : X sc d μ pc ls (st) AH r AH' := ⟨k.1, fun G p l e R s m args below meth c H locs cells slots Q lsA b ad A H0 n0 s0 hC => lv_null hC.1.1 hC.1.2.1 hd (k.2 G p l e R s m args below meth c H locs cells slots Q lsA b ad A H0 n0 s0 hC)⟩
theorem x_iload_n {sc : cS} {d : Nat} {μ : Md} {pc : Nat} {ls : List (Option Value)} {st : List Value} {AH AH' : List AC} {r : Option Value} {i : Fin 4} {x : Int32} (hd : decode μ.1 pc = .ok (.iload_n i, 1)) (hv : ls[(i : Nat)]? = some (some (.int x))) (k : X sc d μ (pc + 1) ls (.int x :: st) AH r AH') : X sc d μ pc ls st AH r AH' := ⟨k.1, fun G p l e R s m args below meth c H locs cells slots Q lsA b ad A H0 n0 s0 hC => lv_iload_n hC.1.1 hC.1.2.1 hd rfl (hC.2.1.2.2 _ _ hv) (k.2 G p l e R s m args below meth c H locs cells slots Q lsA b ad A H0 n0 s0 hC)⟩
theorem x_iload {sc : cS} {d : Nat} {μ : Md} {pc : Nat} {ls : List (Option Value)} {st : List Value} {AH AH' : List AC} {r : Option Value} {i : Nat} {x : Int32} (hd : decode μ.1 pc = .ok (.iload i, 2)) (hv : ls[i]? = some (some (.int x))) (k : X sc d μ (pc + 2) ls (.int x :: st) AH r AH') : X sc d μ pc ls st AH r AH' := ⟨k.1, fun G p l e R s m args below meth c H locs cells slots Q lsA b ad A H0 n0 s0 hC => lv_iload hC.1.1 hC.1.2.1 hd (hC.2.1.2.2 _ _ hv) (k.2 G p l e R s m args below meth c H locs cells slots Q lsA b ad A H0 n0 s0 hC)⟩
theorem x_dload {sc : cS} {d : Nat} {μ : Md} {pc : Nat} {ls : List (Option Value)} {st : List Value} {AH AH' : List AC} {r : Option Value} {i : Nat} {x : UInt64} (hd : decode μ.1 pc = .ok (.dload i, 2)) (hv : ls[i]? = some (some (.double x))) (k : X sc d μ (pc + 2) ls (.double x :: st) AH r AH') : X sc d μ pc ls st AH r AH' := ⟨k.1, fun G p l e R s m args below meth c H locs cells slots Q lsA b ad A H0 n0 s0 hC => lv_dload hC.1.1 hC.1.2.1 hd (hC.2.1.2.2 _ _ hv) (k.2 G p l e R s m args below meth c H locs cells slots Q lsA b ad A H0 n0 s0 hC)⟩
theorem x_aload_n {sc : cS} {d : Nat} {μ : Md} {pc : Nat} {ls : List (Option Value)} {st : List Value} {AH AH' : List AC} {r : Option Value} {i : Fin 4} {o : Nat} (hd : decode μ.1 pc = .ok (.aload_n i, 1)) (hv : ls[(i : Nat)]? = some (some (.ref o))) (k : X sc d μ (pc + 1) ls (.ref o :: st) AH r AH') : X sc d μ pc ls st AH r AH' := ⟨k.1, fun G p l e R s m args below meth c H locs cells slots Q lsA b ad A H0 n0 s0 hC => lv_aload_n hC.1.1 hC.1.2.1 hd rfl (hC.2.1.2.2 _ _ hv) (k.2 G p l e R s m args below meth c H locs cells slots Q lsA b ad A H0 n0 s0 hC)⟩
def noD (ls : List (Option Value)) (i : Nat) : Bool := match i with
  | 0 => true
  | j + 1 => match ls[j]? with
    | some (some v) => v.category != 2
    | _ => true
def asl (b : Nat) (ad : List Nat) (ls : List (Option Value)) : List (Nat × Value) := ls.zipIdx.filterMap (fun q => q.1.map (fun v => (q.2, cv b ad v)))
theorem asl_mem {b : Nat} {ad : List Nat} {ls : List (Option Value)} {j : Nat} {w : Value} : (j, w) ∈ asl b ad ls ↔ ∃ v, ls[j]? = some (some v) ∧ w = cv b ad v := by
  simp only [asl, List.mem_filterMap]
  constructor
  · rintro ⟨⟨o, i⟩, h1, h2⟩
    have h3 := List.mem_zipIdx_iff_getElem?.mp h1
    cases o with
    | none => cases h2
    | some v =>
      simp only [Option.map_some, Option.some.injEq, Prod.mk.injEq] at h2
      obtain ⟨rfl, rfl⟩ := h2
      exact ⟨v, h3, rfl⟩
  · rintro ⟨v, h1, rfl⟩
    exact ⟨(some v, j), List.mem_zipIdx_iff_getElem?.mpr h1, rfl⟩
theorem lsOK_has {lsA : Array Slot} {nL b : Nat} {ad : List Nat} {ls : List (Option Value)} (h : lsOK lsA nL b ad ls) : lv_has lsA nL (asl b ad ls) := by
  refine ⟨h.1, h.2.1, fun q hq => ?_⟩
  obtain ⟨j, w⟩ := q
  obtain ⟨v, h1, rfl⟩ := asl_mem.mp hq
  exact h.2.2 j v h1
theorem lsOK_set {ls' : Array Slot} {nL b i : Nat} {ad : List Nat} {ls : List (Option Value)} {v w : Value} (hw : cv b ad v = w) (hn : noD ls i = true) (h : lv_has ls' nL ((i, w) :: (asl b ad ls).filter (fun q => !(q.1 == i) && !(q.1 + 1 == i && q.2.category == 2)))) : lsOK ls' nL b ad (ls.set i (some v)) := by
  refine ⟨h.1, h.2.1, fun j u hu => ?_⟩
  subst hw
  rw [List.getElem?_set] at hu
  by_cases hj : i = j
  · subst hj
    rw [if_pos rfl] at hu
    split at hu
    · cases hu
      exact h.2.2 (i, cv b ad v) List.mem_cons_self
    · cases hu
  · rw [if_neg hj] at hu
    refine h.2.2 (j, cv b ad u) (List.mem_cons_of_mem _ (List.mem_filter.mpr ⟨asl_mem.mpr ⟨u, hu, rfl⟩, ?_⟩))
    have h1 : (j == i) = false := by simp [Ne.symm hj]
    by_cases h2 : j + 1 = i
    · subst h2
      simp only [noD, hu, bne_iff_ne, ne_eq] at hn
      simp [h1, cv_cat, hn]
    · simp [h1, h2]
theorem lsOK_set2 {ls' : Array Slot} {nL b i : Nat} {ad : List Nat} {ls : List (Option Value)} {v w : Value} (hw : cv b ad v = w) (hn : noD ls i = true) (h : lv_has ls' nL ((i, w) :: (asl b ad ls).filter (fun q => !(q.1 == i) && (!(q.1 == i + 1) && !(q.1 + 1 == i && q.2.category == 2))))) : lsOK ls' nL b ad ((ls.set i (some v)).set (i + 1) none) := by
  refine ⟨h.1, h.2.1, fun j u hu => ?_⟩
  subst hw
  rw [List.getElem?_set] at hu
  by_cases hj1 : i + 1 = j
  · rw [if_pos hj1] at hu
    split at hu <;> cases hu
  rw [if_neg hj1, List.getElem?_set] at hu
  by_cases hj : i = j
  · subst hj
    rw [if_pos rfl] at hu
    split at hu
    · cases hu
      exact h.2.2 (i, cv b ad v) List.mem_cons_self
    · cases hu
  · rw [if_neg hj] at hu
    refine h.2.2 (j, cv b ad u) (List.mem_cons_of_mem _ (List.mem_filter.mpr ⟨asl_mem.mpr ⟨u, hu, rfl⟩, ?_⟩))
    have h1 : (j == i) = false := by simp [Ne.symm hj]
    have h3 : (j == i + 1) = false := by simp [Ne.symm hj1]
    by_cases h2 : j + 1 = i
    · subst h2
      have h4 : ¬ j = j + 1 + 1 := by omega
      simp only [noD, hu, bne_iff_ne, ne_eq] at hn
      simp [h1, h3, h4, cv_cat, hn]
    · simp [h1, h2, h3]
theorem Cx_ls {sc : cS} {G : cG} {μ : Md} {d : Nat} {ls ls' : List (Option Value)} {AH : List AC} {r : Option Value} {AH' : List AC} {p : Program} {l : Launch} {e : Env} {R : Room} {s : State} {m : MethodId} {args : Array Value} {below : List Frame} {meth : Method} {c : Code} {H : Heap} {locs : List Loc} {cells slots : Nat} {Q : State → Prop} {lsA lsB : Array Slot} {b : Nat} {ad : List Nat} {A : Nat → Prop} {H0 : Heap} {n0 s0 : Nat} (hC : Cx sc G μ d ls AH r AH' p l e R s m args below meth c H locs cells slots Q lsA b ad A H0 n0 s0) (h : lsOK lsB μ.2.2.1 b ad ls') : Cx sc G μ d ls' AH r AH' p l e R s m args below meth c H locs cells slots Q lsB b ad A H0 n0 s0 := ⟨hC.1, h, hC.2.2⟩
theorem x_istore_n {sc : cS} {d : Nat} {μ : Md} {pc : Nat} {ls : List (Option Value)} {st : List Value} {AH AH' : List AC} {r : Option Value} {i : Fin 4} {x : Int32} (hd : decode μ.1 pc = .ok (.istore_n i, 1)) (hi : (i : Nat) < μ.2.2.1) (hn : noD ls (i : Nat) = true) (k : X sc d μ (pc + 1) (ls.set (i : Nat) (some (.int x))) st AH r AH') : X sc d μ pc ls (.int x :: st) AH r AH' := ⟨k.1, fun G p l e R s m args below meth c H locs cells slots Q lsA b ad A H0 n0 s0 hC => lv_istore_n hC.1.1 hC.1.2.1 hd rfl (lsOK_has hC.2.1) hi rfl (fun ls2 h2 => k.2 G p l e R s m args below meth c H locs cells slots Q ls2 b ad A H0 n0 s0 (Cx_ls hC (lsOK_set rfl hn h2)))⟩
theorem x_istore {sc : cS} {d : Nat} {μ : Md} {pc : Nat} {ls : List (Option Value)} {st : List Value} {AH AH' : List AC} {r : Option Value} {i : Nat} {x : Int32} (hd : decode μ.1 pc = .ok (.istore i, 2)) (hi : i < μ.2.2.1) (hn : noD ls i = true) (k : X sc d μ (pc + 2) (ls.set i (some (.int x))) st AH r AH') : X sc d μ pc ls (.int x :: st) AH r AH' := ⟨k.1, fun G p l e R s m args below meth c H locs cells slots Q lsA b ad A H0 n0 s0 hC => lv_istore hC.1.1 hC.1.2.1 hd (lsOK_has hC.2.1) hi rfl (fun ls2 h2 => k.2 G p l e R s m args below meth c H locs cells slots Q ls2 b ad A H0 n0 s0 (Cx_ls hC (lsOK_set rfl hn h2)))⟩
theorem x_astore_n {sc : cS} {d : Nat} {μ : Md} {pc : Nat} {ls : List (Option Value)} {st : List Value} {AH AH' : List AC} {r : Option Value} {i : Fin 4} {x : Nat} (hd : decode μ.1 pc = .ok (.astore_n i, 1)) (hi : (i : Nat) < μ.2.2.1) (hn : noD ls (i : Nat) = true) (k : X sc d μ (pc + 1) (ls.set (i : Nat) (some (.ref x))) st AH r AH') : X sc d μ pc ls (.ref x :: st) AH r AH' := ⟨k.1, fun G p l e R s m args below meth c H locs cells slots Q lsA b ad A H0 n0 s0 hC => lv_astore_n hC.1.1 hC.1.2.1 hd rfl (lsOK_has hC.2.1) hi rfl (fun ls2 h2 => k.2 G p l e R s m args below meth c H locs cells slots Q ls2 b ad A H0 n0 s0 (Cx_ls hC (lsOK_set rfl hn h2)))⟩
theorem x_dstore {sc : cS} {d : Nat} {μ : Md} {pc : Nat} {ls : List (Option Value)} {st : List Value} {AH AH' : List AC} {r : Option Value} {i : Nat} {x : UInt64} (hd : decode μ.1 pc = .ok (.dstore i, 2)) (hi : i + 1 < μ.2.2.1) (hn : noD ls i = true) (k : X sc d μ (pc + 2) ((ls.set i (some (.double x))).set (i + 1) none) st AH r AH') : X sc d μ pc ls (.double x :: st) AH r AH' := ⟨k.1, fun G p l e R s m args below meth c H locs cells slots Q lsA b ad A H0 n0 s0 hC => lv_dstore hC.1.1 hC.1.2.1 hd (lsOK_has hC.2.1) hi rfl (fun ls2 h2 => k.2 G p l e R s m args below meth c H locs cells slots Q ls2 b ad A H0 n0 s0 (Cx_ls hC (lsOK_set2 rfl hn h2)))⟩
theorem x_iinc {sc : cS} {d : Nat} {μ : Md} {pc : Nat} {ls : List (Option Value)} {st : List Value} {AH AH' : List AC} {r : Option Value} {i : Nat} {n : Int} {x : Int32} (hd : decode μ.1 pc = .ok (.iinc i n, 3)) (hv : ls[i]? = some (some (.int x))) (hi : i < μ.2.2.1) (hn : noD ls i = true) (k : X sc d μ (pc + 3) (ls.set i (some (.int (x + Int32.ofInt n)))) st AH r AH') : X sc d μ pc ls st AH r AH' := by
  refine ⟨k.1, fun G p l e R s m args below meth c H locs cells slots Q lsA b ad A H0 n0 s0 hC => ?_⟩
  have hm : (i, Value.int x) ∈ asl b ad ls := asl_mem.mpr ⟨_, hv, rfl⟩
  obtain ⟨q, hq⟩ := List.getElem?_of_mem hm
  exact lv_iinc hC.1.1 hC.1.2.1 hd (lsOK_has hC.2.1) (k := q) hq rfl hi rfl (fun ls2 h2 => k.2 G p l e R s m args below meth c H locs cells slots Q ls2 b ad A H0 n0 s0 (Cx_ls hC (lsOK_set rfl hn h2)))
theorem x_if_eq {sc : cS} {d : Nat} {μ : Md} {pc : Nat} {ls : List (Option Value)} {st : List Value} {AH AH' : List AC} {r : Option Value} {x : Int32} {off : Int} (tgt : Nat) (hd : decode μ.1 pc = .ok (.ifCond .eq off, 3)) (ht : (pc : Int) + off = (tgt : Int)) (kt : x = 0 → X sc d μ tgt ls st AH r AH') (kf : ¬ x = 0 → X sc d μ (pc + 3) ls st AH r AH') : X sc d μ pc ls (.int x :: st) AH r AH' := by
  refine ⟨?_, fun G p l e R s m args below meth c H locs cells slots Q lsA b ad A H0 n0 s0 hC => lv_if_eq hC.1.1 hC.1.2.1 hd ht (fun q => (kt q).2 G p l e R s m args below meth c H locs cells slots Q lsA b ad A H0 n0 s0 hC) (fun q => (kf q).2 G p l e R s m args below meth c H locs cells slots Q lsA b ad A H0 n0 s0 hC)⟩
  by_cases q : x = 0
  · exact (kt q).1
  · exact (kf q).1
theorem x_icmp_eq {sc : cS} {d : Nat} {μ : Md} {pc : Nat} {ls : List (Option Value)} {st : List Value} {AH AH' : List AC} {r : Option Value} {x y : Int32} {off : Int} (tgt : Nat) (hd : decode μ.1 pc = .ok (.if_icmp .eq off, 3)) (ht : (pc : Int) + off = (tgt : Int)) (kt : x = y → X sc d μ tgt ls st AH r AH') (kf : ¬ x = y → X sc d μ (pc + 3) ls st AH r AH') : X sc d μ pc ls (.int y :: .int x :: st) AH r AH' := by
  refine ⟨?_, fun G p l e R s m args below meth c H locs cells slots Q lsA b ad A H0 n0 s0 hC => lv_icmp_eq hC.1.1 hC.1.2.1 hd ht (fun q => (kt q).2 G p l e R s m args below meth c H locs cells slots Q lsA b ad A H0 n0 s0 hC) (fun q => (kf q).2 G p l e R s m args below meth c H locs cells slots Q lsA b ad A H0 n0 s0 hC)⟩
  by_cases q : x = y
  · exact (kt q).1
  · exact (kf q).1
theorem x_if_ne {sc : cS} {d : Nat} {μ : Md} {pc : Nat} {ls : List (Option Value)} {st : List Value} {AH AH' : List AC} {r : Option Value} {x : Int32} {off : Int} (tgt : Nat) (hd : decode μ.1 pc = .ok (.ifCond .ne off, 3)) (ht : (pc : Int) + off = (tgt : Int)) (kt : ¬ x = 0 → X sc d μ tgt ls st AH r AH') (kf : x = 0 → X sc d μ (pc + 3) ls st AH r AH') : X sc d μ pc ls (.int x :: st) AH r AH' := by
  refine ⟨?_, fun G p l e R s m args below meth c H locs cells slots Q lsA b ad A H0 n0 s0 hC => lv_if_ne hC.1.1 hC.1.2.1 hd ht (fun q => (kt q).2 G p l e R s m args below meth c H locs cells slots Q lsA b ad A H0 n0 s0 hC) (fun q => (kf q).2 G p l e R s m args below meth c H locs cells slots Q lsA b ad A H0 n0 s0 hC)⟩
  by_cases q : x = 0
  · exact (kf q).1
  · exact (kt q).1
theorem x_icmp_ne {sc : cS} {d : Nat} {μ : Md} {pc : Nat} {ls : List (Option Value)} {st : List Value} {AH AH' : List AC} {r : Option Value} {x y : Int32} {off : Int} (tgt : Nat) (hd : decode μ.1 pc = .ok (.if_icmp .ne off, 3)) (ht : (pc : Int) + off = (tgt : Int)) (kt : ¬ x = y → X sc d μ tgt ls st AH r AH') (kf : x = y → X sc d μ (pc + 3) ls st AH r AH') : X sc d μ pc ls (.int y :: .int x :: st) AH r AH' := by
  refine ⟨?_, fun G p l e R s m args below meth c H locs cells slots Q lsA b ad A H0 n0 s0 hC => lv_icmp_ne hC.1.1 hC.1.2.1 hd ht (fun q => (kt q).2 G p l e R s m args below meth c H locs cells slots Q lsA b ad A H0 n0 s0 hC) (fun q => (kf q).2 G p l e R s m args below meth c H locs cells slots Q lsA b ad A H0 n0 s0 hC)⟩
  by_cases q : x = y
  · exact (kf q).1
  · exact (kt q).1
theorem x_if_lt {sc : cS} {d : Nat} {μ : Md} {pc : Nat} {ls : List (Option Value)} {st : List Value} {AH AH' : List AC} {r : Option Value} {x : Int32} {off : Int} (tgt : Nat) (hd : decode μ.1 pc = .ok (.ifCond .lt off, 3)) (ht : (pc : Int) + off = (tgt : Int)) (kt : x < 0 → X sc d μ tgt ls st AH r AH') (kf : ¬ x < 0 → X sc d μ (pc + 3) ls st AH r AH') : X sc d μ pc ls (.int x :: st) AH r AH' := by
  refine ⟨?_, fun G p l e R s m args below meth c H locs cells slots Q lsA b ad A H0 n0 s0 hC => lv_if_lt hC.1.1 hC.1.2.1 hd ht (fun q => (kt q).2 G p l e R s m args below meth c H locs cells slots Q lsA b ad A H0 n0 s0 hC) (fun q => (kf q).2 G p l e R s m args below meth c H locs cells slots Q lsA b ad A H0 n0 s0 hC)⟩
  by_cases q : x < 0
  · exact (kt q).1
  · exact (kf q).1
theorem x_icmp_lt {sc : cS} {d : Nat} {μ : Md} {pc : Nat} {ls : List (Option Value)} {st : List Value} {AH AH' : List AC} {r : Option Value} {x y : Int32} {off : Int} (tgt : Nat) (hd : decode μ.1 pc = .ok (.if_icmp .lt off, 3)) (ht : (pc : Int) + off = (tgt : Int)) (kt : x < y → X sc d μ tgt ls st AH r AH') (kf : ¬ x < y → X sc d μ (pc + 3) ls st AH r AH') : X sc d μ pc ls (.int y :: .int x :: st) AH r AH' := by
  refine ⟨?_, fun G p l e R s m args below meth c H locs cells slots Q lsA b ad A H0 n0 s0 hC => lv_icmp_lt hC.1.1 hC.1.2.1 hd ht (fun q => (kt q).2 G p l e R s m args below meth c H locs cells slots Q lsA b ad A H0 n0 s0 hC) (fun q => (kf q).2 G p l e R s m args below meth c H locs cells slots Q lsA b ad A H0 n0 s0 hC)⟩
  by_cases q : x < y
  · exact (kt q).1
  · exact (kf q).1
theorem x_if_ge {sc : cS} {d : Nat} {μ : Md} {pc : Nat} {ls : List (Option Value)} {st : List Value} {AH AH' : List AC} {r : Option Value} {x : Int32} {off : Int} (tgt : Nat) (hd : decode μ.1 pc = .ok (.ifCond .ge off, 3)) (ht : (pc : Int) + off = (tgt : Int)) (kt : 0 ≤ x → X sc d μ tgt ls st AH r AH') (kf : ¬ 0 ≤ x → X sc d μ (pc + 3) ls st AH r AH') : X sc d μ pc ls (.int x :: st) AH r AH' := by
  refine ⟨?_, fun G p l e R s m args below meth c H locs cells slots Q lsA b ad A H0 n0 s0 hC => lv_if_ge hC.1.1 hC.1.2.1 hd ht (fun q => (kt q).2 G p l e R s m args below meth c H locs cells slots Q lsA b ad A H0 n0 s0 hC) (fun q => (kf q).2 G p l e R s m args below meth c H locs cells slots Q lsA b ad A H0 n0 s0 hC)⟩
  by_cases q : 0 ≤ x
  · exact (kt q).1
  · exact (kf q).1
theorem x_icmp_ge {sc : cS} {d : Nat} {μ : Md} {pc : Nat} {ls : List (Option Value)} {st : List Value} {AH AH' : List AC} {r : Option Value} {x y : Int32} {off : Int} (tgt : Nat) (hd : decode μ.1 pc = .ok (.if_icmp .ge off, 3)) (ht : (pc : Int) + off = (tgt : Int)) (kt : y ≤ x → X sc d μ tgt ls st AH r AH') (kf : ¬ y ≤ x → X sc d μ (pc + 3) ls st AH r AH') : X sc d μ pc ls (.int y :: .int x :: st) AH r AH' := by
  refine ⟨?_, fun G p l e R s m args below meth c H locs cells slots Q lsA b ad A H0 n0 s0 hC => lv_icmp_ge hC.1.1 hC.1.2.1 hd ht (fun q => (kt q).2 G p l e R s m args below meth c H locs cells slots Q lsA b ad A H0 n0 s0 hC) (fun q => (kf q).2 G p l e R s m args below meth c H locs cells slots Q lsA b ad A H0 n0 s0 hC)⟩
  by_cases q : y ≤ x
  · exact (kt q).1
  · exact (kf q).1
theorem x_if_gt {sc : cS} {d : Nat} {μ : Md} {pc : Nat} {ls : List (Option Value)} {st : List Value} {AH AH' : List AC} {r : Option Value} {x : Int32} {off : Int} (tgt : Nat) (hd : decode μ.1 pc = .ok (.ifCond .gt off, 3)) (ht : (pc : Int) + off = (tgt : Int)) (kt : 0 < x → X sc d μ tgt ls st AH r AH') (kf : ¬ 0 < x → X sc d μ (pc + 3) ls st AH r AH') : X sc d μ pc ls (.int x :: st) AH r AH' := by
  refine ⟨?_, fun G p l e R s m args below meth c H locs cells slots Q lsA b ad A H0 n0 s0 hC => lv_if_gt hC.1.1 hC.1.2.1 hd ht (fun q => (kt q).2 G p l e R s m args below meth c H locs cells slots Q lsA b ad A H0 n0 s0 hC) (fun q => (kf q).2 G p l e R s m args below meth c H locs cells slots Q lsA b ad A H0 n0 s0 hC)⟩
  by_cases q : 0 < x
  · exact (kt q).1
  · exact (kf q).1
theorem x_icmp_gt {sc : cS} {d : Nat} {μ : Md} {pc : Nat} {ls : List (Option Value)} {st : List Value} {AH AH' : List AC} {r : Option Value} {x y : Int32} {off : Int} (tgt : Nat) (hd : decode μ.1 pc = .ok (.if_icmp .gt off, 3)) (ht : (pc : Int) + off = (tgt : Int)) (kt : y < x → X sc d μ tgt ls st AH r AH') (kf : ¬ y < x → X sc d μ (pc + 3) ls st AH r AH') : X sc d μ pc ls (.int y :: .int x :: st) AH r AH' := by
  refine ⟨?_, fun G p l e R s m args below meth c H locs cells slots Q lsA b ad A H0 n0 s0 hC => lv_icmp_gt hC.1.1 hC.1.2.1 hd ht (fun q => (kt q).2 G p l e R s m args below meth c H locs cells slots Q lsA b ad A H0 n0 s0 hC) (fun q => (kf q).2 G p l e R s m args below meth c H locs cells slots Q lsA b ad A H0 n0 s0 hC)⟩
  by_cases q : y < x
  · exact (kt q).1
  · exact (kf q).1
theorem x_if_le {sc : cS} {d : Nat} {μ : Md} {pc : Nat} {ls : List (Option Value)} {st : List Value} {AH AH' : List AC} {r : Option Value} {x : Int32} {off : Int} (tgt : Nat) (hd : decode μ.1 pc = .ok (.ifCond .le off, 3)) (ht : (pc : Int) + off = (tgt : Int)) (kt : x ≤ 0 → X sc d μ tgt ls st AH r AH') (kf : ¬ x ≤ 0 → X sc d μ (pc + 3) ls st AH r AH') : X sc d μ pc ls (.int x :: st) AH r AH' := by
  refine ⟨?_, fun G p l e R s m args below meth c H locs cells slots Q lsA b ad A H0 n0 s0 hC => lv_if_le hC.1.1 hC.1.2.1 hd ht (fun q => (kt q).2 G p l e R s m args below meth c H locs cells slots Q lsA b ad A H0 n0 s0 hC) (fun q => (kf q).2 G p l e R s m args below meth c H locs cells slots Q lsA b ad A H0 n0 s0 hC)⟩
  by_cases q : x ≤ 0
  · exact (kt q).1
  · exact (kf q).1
theorem x_icmp_le {sc : cS} {d : Nat} {μ : Md} {pc : Nat} {ls : List (Option Value)} {st : List Value} {AH AH' : List AC} {r : Option Value} {x y : Int32} {off : Int} (tgt : Nat) (hd : decode μ.1 pc = .ok (.if_icmp .le off, 3)) (ht : (pc : Int) + off = (tgt : Int)) (kt : x ≤ y → X sc d μ tgt ls st AH r AH') (kf : ¬ x ≤ y → X sc d μ (pc + 3) ls st AH r AH') : X sc d μ pc ls (.int y :: .int x :: st) AH r AH' := by
  refine ⟨?_, fun G p l e R s m args below meth c H locs cells slots Q lsA b ad A H0 n0 s0 hC => lv_icmp_le hC.1.1 hC.1.2.1 hd ht (fun q => (kt q).2 G p l e R s m args below meth c H locs cells slots Q lsA b ad A H0 n0 s0 hC) (fun q => (kf q).2 G p l e R s m args below meth c H locs cells slots Q lsA b ad A H0 n0 s0 hC)⟩
  by_cases q : x ≤ y
  · exact (kt q).1
  · exact (kf q).1
theorem x_goto {sc : cS} {d : Nat} {μ : Md} {pc : Nat} {ls : List (Option Value)} {st : List Value} {AH AH' : List AC} {r : Option Value} {off : Int} (tgt : Nat) (hd : decode μ.1 pc = .ok (.goto off, 3)) (ht : (pc : Int) + off = (tgt : Int)) (k : X sc d μ tgt ls st AH r AH') : X sc d μ pc ls st AH r AH' := ⟨k.1, fun G p l e R s m args below meth c H locs cells slots Q lsA b ad A H0 n0 s0 hC => lv_goto hC.1.1 hC.1.2.1 hd ht (k.2 G p l e R s m args below meth c H locs cells slots Q lsA b ad A H0 n0 s0 hC)⟩
theorem x_ifnull {sc : cS} {d : Nat} {μ : Md} {pc : Nat} {ls : List (Option Value)} {st : List Value} {AH AH' : List AC} {r : Option Value} {o : Nat} {off : Int} (hd : decode μ.1 pc = .ok (.ifnull off, 3)) (k : X sc d μ (pc + 3) ls st AH r AH') : X sc d μ pc ls (.ref o :: st) AH r AH' := ⟨k.1, fun G p l e R s m args below meth c H locs cells slots Q lsA b ad A H0 n0 s0 hC => lv_ifnull hC.1.1 hC.1.2.1 hd (k.2 G p l e R s m args below meth c H locs cells slots Q lsA b ad A H0 n0 s0 hC)⟩
theorem x_tableIn {sc : cS} {d : Nat} {μ : Md} {pc : Nat} {ls : List (Option Value)} {st : List Value} {AH AH' : List AC} {r : Option Value} {x : Int32} {dflt lo hi off : Int} {offs : Array Int} {len : Nat} (tgt : Nat) (hd : decode μ.1 pc = .ok (.tableswitch dflt lo hi offs, len)) (h1 : ¬ x.toInt < lo) (h2 : ¬ hi < x.toInt) (ho : offs[(x.toInt - lo).toNat]? = some off) (ht : (pc : Int) + off = (tgt : Int)) (k : X sc d μ tgt ls st AH r AH') : X sc d μ pc ls (.int x :: st) AH r AH' := ⟨k.1, fun G p l e R s m args below meth c H locs cells slots Q lsA b ad A H0 n0 s0 hC => lv_tableIn hC.1.1 hC.1.2.1 hd h1 h2 ho ht (k.2 G p l e R s m args below meth c H locs cells slots Q lsA b ad A H0 n0 s0 hC)⟩
theorem x_tableOut {sc : cS} {d : Nat} {μ : Md} {pc : Nat} {ls : List (Option Value)} {st : List Value} {AH AH' : List AC} {r : Option Value} {x : Int32} {dflt lo hi : Int} {offs : Array Int} {len : Nat} (tgt : Nat) (hd : decode μ.1 pc = .ok (.tableswitch dflt lo hi offs, len)) (h : x.toInt < lo ∨ hi < x.toInt) (ht : (pc : Int) + dflt = (tgt : Int)) (k : X sc d μ tgt ls st AH r AH') : X sc d μ pc ls (.int x :: st) AH r AH' := ⟨k.1, fun G p l e R s m args below meth c H locs cells slots Q lsA b ad A H0 n0 s0 hC => lv_tableOut hC.1.1 hC.1.2.1 hd h ht (k.2 G p l e R s m args below meth c H locs cells slots Q lsA b ad A H0 n0 s0 hC)⟩
theorem x_lookup {sc : cS} {d : Nat} {μ : Md} {pc : Nat} {ls : List (Option Value)} {st : List Value} {AH AH' : List AC} {r : Option Value} {x : Int32} {dflt off : Int} {ps : Array (Int × Int)} {len : Nat} (tgt : Nat) (hd : decode μ.1 pc = .ok (.lookupswitch dflt ps, len)) (hp : (ps.toList.zip (ps.toList.drop 1)).all (fun (a, next) => a.1 < next.1) = true) (ho : Op.lookupswitch.offset ps.toList dflt x.toInt = off) (ht : (pc : Int) + off = (tgt : Int)) (k : X sc d μ tgt ls st AH r AH') : X sc d μ pc ls (.int x :: st) AH r AH' := ⟨k.1, fun G p l e R s m args below meth c H locs cells slots Q lsA b ad A H0 n0 s0 hC => lv_lookup hC.1.1 hC.1.2.1 hd hp ho ht (k.2 G p l e R s m args below meth c H locs cells slots Q lsA b ad A H0 n0 s0 hC)⟩
theorem x_ldcw {sc : cS} {d : Nat} {μ : Md} {pc : Nat} {ls : List (Option Value)} {st : List Value} {AH AH' : List AC} {r : Option Value} {idx : Nat} {v : Int32} (hd : decode μ.1 pc = .ok (.ldc_w idx, 3)) (hw : Cond.constant μ.2.1.cls idx v ∈ WA) (k : X sc d μ (pc + 3) ls (.int v :: st) AH r AH') : X sc d μ pc ls st AH r AH' := ⟨k.1, fun G p l e R s m args below meth c H locs cells slots Q lsA b ad A H0 n0 s0 hC => lv_ldcw hC.1.1 hC.1.2.1 hC.1.2.2.2.1 (hC.1.2.2.2.2.1 _ hw) hd (k.2 G p l e R s m args below meth c H locs cells slots Q lsA b ad A H0 n0 s0 hC)⟩
theorem x_end {sc : cS} {d : Nat} {μ : Md} {pc : Nat} {ls : List (Option Value)} {st : List Value} {AH : List AC} {r : Option Value} (h : Ends μ pc st r) : X sc d μ pc ls st AH r AH := by
  refine ⟨⟨Nat.le_refl _, Nat.le_refl _⟩, fun G p l e R s m args below meth c H locs cells slots Q lsA b ad A H0 n0 s0 hC => ?_⟩
  obtain ⟨-, -, hW, -, ⟨hS, -, hAd⟩, -, ⟨h1, h2, -, -⟩, hE⟩ := hC
  have h3 := hE pc lsA st [] H locs cells slots h (by rw [List.append_nil]; exact hW) hS (by rw [List.append_nil]; exact hAd) h1 h2
  rw [List.append_nil] at h3
  exact h3
theorem x_return {sc : cS} {d : Nat} {μ : Md} {pc : Nat} {ls : List (Option Value)} {AH : List AC} (hd : decode μ.1 pc = .ok (.return_, 1)) (hr : μ.2.2.2 = none) : X sc d μ pc ls [] AH none AH := x_end (Or.inl ⟨hd, rfl, rfl, hr⟩)
theorem x_ireturn {sc : cS} {d : Nat} {μ : Md} {pc : Nat} {ls : List (Option Value)} {AH : List AC} {v : Int32} {ty : FieldType} (hd : decode μ.1 pc = .ok (.ireturn, 1)) (hr : μ.2.2.2 = some ty) (hn : narrow ty (.int v) = .int v) : X sc d μ pc ls [.int v] AH (some (.int v)) AH := x_end (Or.inr (Or.inl ⟨v, ty, hd, rfl, rfl, hr, hn⟩))
theorem x_dreturn {sc : cS} {d : Nat} {μ : Md} {pc : Nat} {ls : List (Option Value)} {AH : List AC} {v : UInt64} (hd : decode μ.1 pc = .ok (.dreturn, 1)) (hr : μ.2.2.2 = some .double) : X sc d μ pc ls [.double v] AH (some (.double v)) AH := x_end (Or.inr (Or.inr (Or.inl ⟨v, hd, rfl, rfl, hr⟩)))
theorem x_areturn {sc : cS} {d : Nat} {μ : Md} {pc : Nat} {ls : List (Option Value)} {AH : List AC} {k : Nat} {C : String} (hd : decode μ.1 pc = .ok (.areturn, 1)) (hr : μ.2.2.2 = some (.object C)) : X sc d μ pc ls [.ref k] AH (some (.ref k)) AH := x_end (Or.inr (Or.inr (Or.inr ⟨k, C, hd, rfl, rfl, hr⟩)))
theorem x_dconst0 {sc : cS} {d : Nat} {μ : Md} {pc : Nat} {ls : List (Option Value)} {st : List Value} {AH AH' : List AC} {r : Option Value} (hd : decode μ.1 pc = .ok (.dconst 0, 1)) (k : X sc d μ (pc + 1) ls (.double FP.dconst0 :: st) AH r AH') : X sc d μ pc ls st AH r AH' := ⟨k.1, fun G p l e R s m args below meth c H locs cells slots Q lsA b ad A H0 n0 s0 hC => lv_dconst0 hC.1.1 hC.1.2.1 hd (k.2 G p l e R s m args below meth c H locs cells slots Q lsA b ad A H0 n0 s0 hC)⟩
end
section
def cty : Nat → Nat → FieldType
  | 0 => tyX0
  | 1 => tyX1
  | 2 => tyX2
  | 3 => tyX3
  | 4 => tyX4
  | 5 => tyX5
  | _ => tyX6
def clsOK (ci : Nat) (q : vw_C) : Prop := (∀ k, k < q.2.2 → parseFieldDescriptor (q.2.1 k).2.2.1 = some (cty ci k)) ∧ (∀ a, a < q.2.2 → ∀ b, b < q.2.2 → a ≠ b → (q.2.1 a).2.1 ≠ (q.2.1 b).2.1) ∧ (∀ w ∈ u_ws q.1 q.2.1 q.2.2, w ∈ WA) ∧ ∀ k, k < q.2.2 → (q.2.1 k).1 = q.1
theorem cls_w {ws : List Cond} (h : ∀ w ∈ ws, w ∈ tables_1 ∧ goodWord w = true) : ∀ w ∈ ws, w ∈ WA := fun w hw => List.mem_filter.mpr ⟨List.mem_append_right _ (h w hw).1, (h w hw).2⟩
theorem cls_ok0 : clsOK 0 (RX0, TX0, 6) := ⟨tyX0_ok, nmX0, cls_w (by decide +kernel), by decide +kernel⟩
theorem cls_ok1 : clsOK 1 (RX1, TX1, 3) := ⟨tyX1_ok, nmX1, cls_w (by decide +kernel), by decide +kernel⟩
theorem cls_ok2 : clsOK 2 (RX2, TX2, 18) := ⟨tyX2_ok, nmX2, cls_w (by decide +kernel), by decide +kernel⟩
theorem cls_ok3 : clsOK 3 (RX3, TX3, 2) := ⟨tyX3_ok, nmX3, cls_w (by decide +kernel), by decide +kernel⟩
theorem cls_ok4 : clsOK 4 (RX4, TX4, 6) := ⟨tyX4_ok, nmX4, cls_w (by decide +kernel), by decide +kernel⟩
theorem cls_ok5 : clsOK 5 (RX5, TX5, 10) := ⟨tyX5_ok, nmX5, cls_w (by decide +kernel), by decide +kernel⟩
theorem cls_ok6 : clsOK 6 (RX6, TX6, 17) := ⟨tyX6_ok, nmX6, cls_w (by decide +kernel), by decide +kernel⟩
theorem cls_ok {ci : Nat} {q : vw_C} (h : vwCl[ci]? = some q) : clsOK ci q := by
  match ci, h with
  | 0, h => cases h; exact cls_ok0
  | 1, h => cases h; exact cls_ok1
  | 2, h => cases h; exact cls_ok2
  | 3, h => cases h; exact cls_ok3
  | 4, h => cases h; exact cls_ok4
  | 5, h => cases h; exact cls_ok5
  | 6, h => cases h; exact cls_ok6
  | n + 7, h => simp [vwCl] at h
def LkF (own : String) (idx ci j : Nat) (q : vw_C) : Prop := vwCl[ci]? = some q ∧ j < q.2.2 ∧ Cond.fieldLink own idx q.1 (q.2.1 j).2.1 (q.2.1 j).2.2.1 ∈ WA
theorem cv_ref {b o : Nat} {ad : List Nat} (h : o ≠ scrId) : cv b ad (.ref o) = .ref (ad.getD o 0) := by simp [cv, h]
section HP
variable {sc : cS} {d : Nat} {μ : Md} {pc : Nat} {ls : List (Option Value)} {st : List Value} {AH AH' : List AC} {r : Option Value}
theorem Cx_set {G : cG} {p : Program} {l : Launch} {e : Env} {R : Room} {s : State} {m : MethodId} {args : Array Value} {below : List Frame} {meth : Method} {c : Code} {H H1 : Heap} {locs locs1 : List Loc} {cells slots : Nat} {Q : State → Prop} {lsA : Array Slot} {b : Nat} {ad : List Nat} {A : Nat → Prop} {H0 : Heap} {n0 s0 : Nat} (hC : Cx sc G μ d ls AH r AH' p l e R s m args below meth c H locs cells slots Q lsA b ad A H0 n0 s0) {o : Nat} {c0 c1 : AC} (h0 : AH[o]? = some c0) (hc : csize c1 = csize c0)
    (hP1 : va_P (G.1, G.2.1) vwCl ((wsl G b ad AH).set o (ad.getD o 0, cvc G b ad c1)) H1) (hD1 : va_D A ((wsl G b ad AH).set o (ad.getD o 0, cvc G b ad c1))) (hS1 : va_S A H0 H1 locs1) : Cx sc G μ d ls (AH.set o c1) r AH' p l e R s m args below meth c H1 locs1 cells slots Q lsA b ad A H0 n0 s0 := by
  obtain ⟨h1, h2, h3, h4, ⟨h5, h6, h7⟩, h8, ⟨h9, h10, h11, h12⟩, h13⟩ := hC
  rw [wsl_set] at hP1 hD1
  exact ⟨h1, h2, aW_of (by rw [h3.1, List.length_set]) hP1 hD1, h4, ⟨hS1, h6, h7⟩, h8, ⟨by rw [List.length_set]; exact h9, by rw [csz_set h0 hc]; exact h10, h11, h12⟩, h13⟩
theorem X_set_mono {o : Nat} {c0 c1 : AC} (h0 : AH[o]? = some c0) (hc : csize c1 = csize c0) (h : (AH.set o c1).length ≤ AH'.length ∧ csz (AH.set o c1) ≤ csz AH') : AH.length ≤ AH'.length ∧ csz AH ≤ csz AH' := by
  rw [List.length_set, csz_set h0 hc] at h
  exact h
theorem x_getf {idx ci j o : Nat} {q : vw_C} {fs : List Value} {v : Value} (hl : LkF μ.2.1.cls idx ci j q) (hd : decode μ.1 pc = .ok (.getfield idx, 3)) (hn : o ≠ scrId) (ho : AH[o]? = some (.inl (ci, fs))) (hv : fs[j]? = some v) (k : X sc d μ (pc + 3) ls (v :: st) AH r AH') : X sc d μ pc ls (.ref o :: st) AH r AH' := by
  refine ⟨k.1, fun G p l e R s m args below meth c H locs cells slots Q lsA b ad A H0 n0 s0 hC => ?_⟩
  rw [List.map_cons, cv_ref hn]
  obtain ⟨hq, hj, hw⟩ := hl
  have hk := cls_ok hq
  exact va_get hC.1.1 hC.1.2.1 hC.1.2.2.2.2.1 hk.2.2.1 hC.1.2.2.2.1 hC.2.2.2.1.1.1 hC.2.2.1.2.1 o (wsl_get ho) hq j hj (hC.1.2.2.2.2.1 _ hw) (fun x h => by rw [hk.2.2.2 j hj] at h; exact h) (v := cv b ad v) (by simp [hv]) hd (k.2 G p l e R s m args below meth c H locs cells slots Q lsA b ad A H0 n0 s0 hC)
theorem x_putI {idx ci j o : Nat} {q : vw_C} {fs : List Value} {x : Int32} (hl : LkF μ.2.1.cls idx ci j q) (hd : decode μ.1 pc = .ok (.putfield idx, 3)) (hn : o ≠ scrId) (ho : AH[o]? = some (.inl (ci, fs))) (hj : j < fs.length) (hfin : (q.2.1 j).2.2.2 = false) (h1 : narrow (cty ci j) (.int x) = .int x) (h2 : fits (cty ci j) (.int x) = true) (k : X sc d μ (pc + 3) ls st (AH.set o (.inl (ci, fs.set j (.int x)))) r AH') : X sc d μ pc ls (.int x :: .ref o :: st) AH r AH' := by
  have hcs : csize (.inl (ci, fs.set j (.int x))) = csize (.inl (ci, fs)) := by simp [csize]
  refine ⟨X_set_mono ho hcs k.1, fun G p l e R s m args below meth c H locs cells slots Q lsA b ad A H0 n0 s0 hC => ?_⟩
  rw [List.map_cons, List.map_cons, cv_ref hn]
  obtain ⟨hq, hjN, hw⟩ := hl
  have hk := cls_ok hq
  refine va_put (v := .int x) hC.1.1 hC.1.2.1 hC.1.2.2.2.2.1 hk.2.2.1 (cty ci) hk.1 hk.2.1 hC.1.2.2.2.1 hC.2.2.2.1.1.1 hC.2.2.1.2.1 (aW_D hC.2.2.1 hC.2.2.2.2.1.2.2) hC.2.2.2.2.1.1 o (wsl_get ho) hq j hjN (hC.1.2.2.2.2.1 _ hw) (fun x h => by rw [hk.2.2.2 j hjN] at h; exact h) hfin (hk.1 j hjN) h1 h2 (by simpa using hj) hd (fun H1 locs1 hP1 hD1 hS1 => ?_)
  have ee : (Sum.inr (ci, (fs.map (cv b ad)).set j (.int x)) : va_E) = cvc G b ad (.inl (ci, fs.set j (.int x))) := by simp [cvc, cv, List.map_set]
  exact k.2 G p l e R s m args below meth c H1 locs1 cells slots Q lsA b ad A H0 n0 s0 (Cx_set hC ho hcs (by rw [← ee]; exact hP1) (by rw [← ee]; exact hD1) hS1)
theorem x_putR {idx ci j o k0 : Nat} {q : vw_C} {fs : List Value} (hl : LkF μ.2.1.cls idx ci j q) (hd : decode μ.1 pc = .ok (.putfield idx, 3)) (hn : o ≠ scrId) (hn0 : k0 ≠ scrId) (hin : μ.2.1.name = "<init>") (hcl : μ.2.1.cls = q.1) (ho : AH[o]? = some (.inl (ci, fs))) (hj : j < fs.length) (hfin : (q.2.1 j).2.2.2 = true) (h1 : ∀ a, narrow (cty ci j) (.ref a) = .ref a) (h2 : ∀ a, fits (cty ci j) (.ref a) = true) (k : X sc d μ (pc + 3) ls st (AH.set o (.inl (ci, fs.set j (.ref k0)))) r AH') : X sc d μ pc ls (.ref k0 :: .ref o :: st) AH r AH' := by
  have hcs : csize (.inl (ci, fs.set j (.ref k0))) = csize (.inl (ci, fs)) := by simp [csize]
  refine ⟨X_set_mono ho hcs k.1, fun G p l e R s m args below meth c H locs cells slots Q lsA b ad A H0 n0 s0 hC => ?_⟩
  rw [List.map_cons, List.map_cons, cv_ref hn, cv_ref hn0]
  obtain ⟨hq, hjN, hw⟩ := hl
  have hk := cls_ok hq
  refine va_putF (v := .ref (ad.getD k0 0)) hC.1.1 hC.1.2.1 hC.1.2.2.2.2.1 hk.2.2.1 (cty ci) hk.1 hk.2.1 hC.1.2.2.2.1 hC.2.2.2.1.1.1 hC.2.2.1.2.1 (aW_D hC.2.2.1 hC.2.2.2.2.1.2.2) hC.2.2.2.2.1.1 o (wsl_get ho) hq j hjN (hC.1.2.2.2.2.1 _ hw) (fun x h => by rw [hk.2.2.2 j hjN] at h; exact h) hfin (hC.1.2.2.2.2.2 hin) ((hk.2.2.2 j hjN).trans hcl.symm) (hk.1 j hjN) (h1 _) (h2 _) (by simpa using hj) hd (fun H1 locs1 hP1 hD1 hS1 => ?_)
  have ee : (Sum.inr (ci, (fs.map (cv b ad)).set j (.ref (ad.getD k0 0))) : va_E) = cvc G b ad (.inl (ci, fs.set j (.ref k0))) := by simp [cvc, cv, List.map_set, hn0]
  exact k.2 G p l e R s m args below meth c H1 locs1 cells slots Q lsA b ad A H0 n0 s0 (Cx_set hC ho hcs (by rw [← ee]; exact hP1) (by rw [← ee]; exact hD1) hS1)
theorem getD_set {xs : List Int32} {i : Nat} {x : Int32} (h : i < xs.length) : (fun j => (xs.set i x).getD j 0) = upd (fun j => xs.getD j 0) i x := by
  funext j
  by_cases hj : j = i
  · subst hj
    simp [upd, List.getD_eq_getElem?_getD, h]
  · simp [upd, hj, List.getD_eq_getElem?_getD, List.getElem?_set_ne (Ne.symm hj)]
theorem x_iaload {a : Nat} {i : Int32} {xs : List Int32} (hd : decode μ.1 pc = .ok (.iaload, 1)) (hn : a ≠ scrId) (ha : AH[a]? = some (.inr (.inl (0, xs)))) (hi : vp_in i xs.length) (k : X sc d μ (pc + 1) ls (.int (xs.getD i.toNatClampNeg 0) :: st) AH r AH') : X sc d μ pc ls (.int i :: .ref a :: st) AH r AH' := by
  refine ⟨k.1, fun G p l e R s m args below meth c H locs cells slots Q lsA b ad A H0 n0 s0 hC => ?_⟩
  rw [List.map_cons, List.map_cons, cv_ref hn]
  exact va_iald hC.1.1 hC.1.2.1 hC.2.2.2.1.1.1 hC.2.2.1.2.1 a 0 (wsl_get ha) rfl hi hd (k.2 G p l e R s m args below meth c H locs cells slots Q lsA b ad A H0 n0 s0 hC)
theorem x_baload {a : Nat} {i : Int32} {xs : List Int32} (hd : decode μ.1 pc = .ok (.baload, 1)) (hn : a ≠ scrId) (ha : AH[a]? = some (.inr (.inl (1, xs)))) (hi : vp_in i xs.length) (k : X sc d μ (pc + 1) ls (.int (xs.getD i.toNatClampNeg 0) :: st) AH r AH') : X sc d μ pc ls (.int i :: .ref a :: st) AH r AH' := by
  refine ⟨k.1, fun G p l e R s m args below meth c H locs cells slots Q lsA b ad A H0 n0 s0 hC => ?_⟩
  rw [List.map_cons, List.map_cons, cv_ref hn]
  exact va_zald hC.1.1 hC.1.2.1 hC.2.2.2.1.1.1 hC.2.2.1.2.1 a 1 (wsl_get ha) rfl hi hd (k.2 G p l e R s m args below meth c H locs cells slots Q lsA b ad A H0 n0 s0 hC)
theorem x_caload {a : Nat} {i : Int32} {xs : List Int32} (hd : decode μ.1 pc = .ok (.caload, 1)) (hn : a ≠ scrId) (ha : AH[a]? = some (.inr (.inl (2, xs)))) (hi : vp_in i xs.length) (k : X sc d μ (pc + 1) ls (.int (xs.getD i.toNatClampNeg 0) :: st) AH r AH') : X sc d μ pc ls (.int i :: .ref a :: st) AH r AH' := by
  refine ⟨k.1, fun G p l e R s m args below meth c H locs cells slots Q lsA b ad A H0 n0 s0 hC => ?_⟩
  rw [List.map_cons, List.map_cons, cv_ref hn]
  exact va_cald hC.1.1 hC.1.2.1 hC.2.2.2.1.1.1 hC.2.2.1.2.1 a 2 (wsl_get ha) rfl hi hd (k.2 G p l e R s m args below meth c H locs cells slots Q lsA b ad A H0 n0 s0 hC)
theorem vp_in_lt {i : Int32} {n : Nat} (h : vp_in i n) : i.toNatClampNeg < n := Nat.not_le.mp fun q => h (Or.inr q)
theorem x_iastore {a : Nat} {i x : Int32} {xs : List Int32} (hd : decode μ.1 pc = .ok (.iastore, 1)) (hn : a ≠ scrId) (ha : AH[a]? = some (.inr (.inl (0, xs)))) (hi : vp_in i xs.length) (k : X sc d μ (pc + 1) ls st (AH.set a (.inr (.inl (0, xs.set i.toNatClampNeg x)))) r AH') : X sc d μ pc ls (.int x :: .int i :: .ref a :: st) AH r AH' := by
  have hcs : csize (.inr (.inl (0, xs.set i.toNatClampNeg x))) = csize (.inr (.inl (0, xs))) := by simp [csize]
  refine ⟨X_set_mono ha hcs k.1, fun G p l e R s m args below meth c H locs cells slots Q lsA b ad A H0 n0 s0 hC => ?_⟩
  rw [List.map_cons, List.map_cons, List.map_cons, cv_ref hn]
  refine va_iast hC.1.1 hC.1.2.1 hC.2.2.2.1.1.1 hC.2.2.1.2.1 (aW_D hC.2.2.1 hC.2.2.2.2.1.2.2) hC.2.2.2.2.1.1 a 0 (wsl_get ha) rfl hi hd (fun H1 locs1 hP1 hD1 hS1 => ?_)
  have ee : cvc G b ad (.inr (.inl (0, xs.set i.toNatClampNeg x))) = .inl (G.2.2 0, xs.length, .inl (upd (fun j => xs.getD j 0) i.toNatClampNeg x)) := by simp only [cvc, List.length_set, getD_set (vp_in_lt hi)]
  exact k.2 G p l e R s m args below meth c H1 locs1 cells slots Q lsA b ad A H0 n0 s0 (Cx_set hC ha hcs (by rw [ee]; exact hP1) (by rw [ee]; exact hD1) hS1)
theorem x_bastore {a : Nat} {i x : Int32} {xs : List Int32} (hd : decode μ.1 pc = .ok (.bastore, 1)) (hn : a ≠ scrId) (ha : AH[a]? = some (.inr (.inl (1, xs)))) (hi : vp_in i xs.length) (k : X sc d μ (pc + 1) ls st (AH.set a (.inr (.inl (1, xs.set i.toNatClampNeg (vp_nar .boolean x))))) r AH') : X sc d μ pc ls (.int x :: .int i :: .ref a :: st) AH r AH' := by
  have hcs : csize (.inr (.inl (1, xs.set i.toNatClampNeg (vp_nar .boolean x)))) = csize (.inr (.inl (1, xs))) := by simp [csize]
  refine ⟨X_set_mono ha hcs k.1, fun G p l e R s m args below meth c H locs cells slots Q lsA b ad A H0 n0 s0 hC => ?_⟩
  rw [List.map_cons, List.map_cons, List.map_cons, cv_ref hn]
  refine va_zast hC.1.1 hC.1.2.1 hC.2.2.2.1.1.1 hC.2.2.1.2.1 (aW_D hC.2.2.1 hC.2.2.2.2.1.2.2) hC.2.2.2.2.1.1 a 1 (wsl_get ha) rfl hi hd (fun H1 locs1 hP1 hD1 hS1 => ?_)
  have ee : cvc G b ad (.inr (.inl (1, xs.set i.toNatClampNeg (vp_nar .boolean x)))) = .inl (G.2.2 1, xs.length, .inl (upd (fun j => xs.getD j 0) i.toNatClampNeg (vp_nar .boolean x))) := by simp only [cvc, List.length_set, getD_set (vp_in_lt hi)]
  exact k.2 G p l e R s m args below meth c H1 locs1 cells slots Q lsA b ad A H0 n0 s0 (Cx_set hC ha hcs (by rw [ee]; exact hP1) (by rw [ee]; exact hD1) hS1)
theorem x_castore {a : Nat} {i x : Int32} {xs : List Int32} (hd : decode μ.1 pc = .ok (.castore, 1)) (hn : a ≠ scrId) (ha : AH[a]? = some (.inr (.inl (2, xs)))) (hi : vp_in i xs.length) (k : X sc d μ (pc + 1) ls st (AH.set a (.inr (.inl (2, xs.set i.toNatClampNeg (vp_nar .char x))))) r AH') : X sc d μ pc ls (.int x :: .int i :: .ref a :: st) AH r AH' := by
  have hcs : csize (.inr (.inl (2, xs.set i.toNatClampNeg (vp_nar .char x)))) = csize (.inr (.inl (2, xs))) := by simp [csize]
  refine ⟨X_set_mono ha hcs k.1, fun G p l e R s m args below meth c H locs cells slots Q lsA b ad A H0 n0 s0 hC => ?_⟩
  rw [List.map_cons, List.map_cons, List.map_cons, cv_ref hn]
  refine va_cast hC.1.1 hC.1.2.1 hC.2.2.2.1.1.1 hC.2.2.1.2.1 (aW_D hC.2.2.1 hC.2.2.2.2.1.2.2) hC.2.2.2.2.1.1 a 2 (wsl_get ha) rfl hi hd (fun H1 locs1 hP1 hD1 hS1 => ?_)
  have ee : cvc G b ad (.inr (.inl (2, xs.set i.toNatClampNeg (vp_nar .char x)))) = .inl (G.2.2 2, xs.length, .inl (upd (fun j => xs.getD j 0) i.toNatClampNeg (vp_nar .char x))) := by simp only [cvc, List.length_set, getD_set (vp_in_lt hi)]
  exact k.2 G p l e R s m args below meth c H1 locs1 cells slots Q lsA b ad A H0 n0 s0 (Cx_set hC ha hcs (by rw [ee]; exact hP1) (by rw [ee]; exact hD1) hS1)
theorem x_alen {a : Nat} {t : Nat} {xs : List Int32} (ht : t < 3) (hd : decode μ.1 pc = .ok (.arraylength, 1)) (hn : a ≠ scrId) (ha : AH[a]? = some (.inr (.inl (t, xs)))) (k : X sc d μ (pc + 1) ls (.int (Int32.ofNat xs.length) :: st) AH r AH') : X sc d μ pc ls (.ref a :: st) AH r AH' := by
  refine ⟨k.1, fun G p l e R s m args below meth c H locs cells slots Q lsA b ad A H0 n0 s0 hC => ?_⟩
  rw [List.map_cons, cv_ref hn]
  rcases (show t = 0 ∨ t = 1 ∨ t = 2 by omega) with rfl | rfl | rfl
  · exact va_alen hC.1.1 hC.1.2.1 hC.2.2.2.1.1.1 hC.2.2.1.2.1 a 0 (wsl_get ha) (ty := .int) rfl rfl hd (k.2 G p l e R s m args below meth c H locs cells slots Q lsA b ad A H0 n0 s0 hC)
  · exact va_alen hC.1.1 hC.1.2.1 hC.2.2.2.1.1.1 hC.2.2.1.2.1 a 1 (wsl_get ha) (ty := .boolean) rfl rfl hd (k.2 G p l e R s m args below meth c H locs cells slots Q lsA b ad A H0 n0 s0 hC)
  · exact va_alen hC.1.1 hC.1.2.1 hC.2.2.2.1.1.1 hC.2.2.1.2.1 a 2 (wsl_get ha) (ty := .char) rfl rfl hd (k.2 G p l e R s m args below meth c H locs cells slots Q lsA b ad A H0 n0 s0 hC)
theorem x_aaload {a k0 : Nat} {i : Int32} {rs : List (Option Nat)} (hd : decode μ.1 pc = .ok (.aaload, 1)) (hn : a ≠ scrId) (hn0 : k0 ≠ scrId) (ha : AH[a]? = some (.inr (.inr rs))) (hi : vp_in i rs.length) (hk : rs.getD i.toNatClampNeg none = some k0) (k : X sc d μ (pc + 1) ls (.ref k0 :: st) AH r AH') : X sc d μ pc ls (.int i :: .ref a :: st) AH r AH' := by
  refine ⟨k.1, fun G p l e R s m args below meth c H locs cells slots Q lsA b ad A H0 n0 s0 hC => ?_⟩
  rw [List.map_cons, List.map_cons, cv_ref hn]
  refine va_aldq hC.1.1 hC.1.2.1 hC.2.2.2.1.1.1 hC.2.2.1.2.1 a 3 (wsl_get ha) (C := "BarterRings$Market") rfl hi hd ?_
  have h := k.2 G p l e R s m args below meth c H locs cells slots Q lsA b ad A H0 n0 s0 hC
  rw [List.map_cons, cv_ref hn0] at h
  have ee : va_rf ((rs.getD i.toNatClampNeg none).map (fun k => ad.getD k 0)) = .ref (ad.getD k0 0) := by rw [hk]; rfl
  show W p l e R s m args below meth c H locs cells slots Q (F0 m (pc + 1) lsA (va_rf ((rs.getD i.toNatClampNeg none).map (fun k => ad.getD k 0)) :: st.map (cv b ad)))
  rw [ee]
  exact h
theorem x_aastore {a k0 : Nat} {i : Int32} {rs : List (Option Nat)} {vs : List Value} (hd : decode μ.1 pc = .ok (.aastore, 1)) (hn : a ≠ scrId) (hn0 : k0 ≠ scrId) (ha : AH[a]? = some (.inr (.inr rs))) (hv : AH[k0]? = some (.inl (2, vs))) (hi : vp_in i rs.length) (k : X sc d μ (pc + 1) ls st (AH.set a (.inr (.inr (rs.set i.toNatClampNeg (some k0))))) r AH') : X sc d μ pc ls (.ref k0 :: .int i :: .ref a :: st) AH r AH' := by
  have hcs : csize (.inr (.inr (rs.set i.toNatClampNeg (some k0)))) = csize (.inr (.inr rs)) := by simp [csize]
  refine ⟨X_set_mono ha hcs k.1, fun G p l e R s m args below meth c H locs cells slots Q lsA b ad A H0 n0 s0 hC => ?_⟩
  rw [List.map_cons, List.map_cons, List.map_cons, cv_ref hn, cv_ref hn0]
  refine va_astq hC.1.1 hC.1.2.1 hC.2.2.2.1.1.1 hC.2.2.1.2.1 (aW_D hC.2.2.1 hC.2.2.2.2.1.2.2) hC.2.2.2.2.1.1 a 3 k0 2 (r := (RX2, TX2, 18)) (wsl_get ha) rfl (wsl_get hv) rfl hi hd (fun H1 locs1 hP1 hD1 hS1 => ?_)
  have ee : cvc G b ad (.inr (.inr (rs.set i.toNatClampNeg (some k0)))) = .inl (G.2.2 3, rs.length, .inr (.inr (.inr (.inr (va_up (fun j => (rs.getD j none).map (fun k => ad.getD k 0)) i.toNatClampNeg (some (ad.getD k0 0))))))) := by
    simp only [cvc, List.length_set]
    congr 7
    funext j
    by_cases hj : j = i.toNatClampNeg
    · subst hj
      simp [va_up, List.getD_eq_getElem?_getD, vp_in_lt hi]
    · simp [va_up, hj, List.getD_eq_getElem?_getD, List.getElem?_set_ne (Ne.symm hj)]
  exact k.2 G p l e R s m args below meth c H1 locs1 cells slots Q lsA b ad A H0 n0 s0 (Cx_set hC ha hcs (by rw [ee]; exact hP1) (by rw [ee]; exact hD1) hS1)
def cpL (xs ys : List Int32) (sp dp n : Nat) : List Int32 := (List.range ys.length).map (fun k => if dp ≤ k ∧ k < dp + n then xs.getD (sp + (k - dp)) 0 else ys.getD k 0)
theorem x_copy {idx a0 a : Nat} {sp dp n : Int32} {xs ys : List Int32} (hd : decode μ.1 pc = .ok (.invokestatic idx, 3)) (hw : Cond.methodLink μ.2.1.cls idx arraycopyName ∈ WA) (hdd : 1 ≤ d) (hn0 : a0 ≠ scrId) (hn : a ≠ scrId) (ha0 : AH[a0]? = some (.inr (.inl (0, xs)))) (ha : AH[a]? = some (.inr (.inl (0, ys)))) (h1 : ¬ sp < 0) (h2 : ¬ dp < 0) (h3 : ¬ n < 0) (h4 : sp.toNatClampNeg + n.toNatClampNeg ≤ xs.length) (h5 : dp.toNatClampNeg + n.toNatClampNeg ≤ ys.length) (hst : (st.map fun v => v.category).sum ≤ 8)
    (k : X sc d μ (pc + 3) ls st (AH.set a (.inr (.inl (0, cpL xs ys sp.toNatClampNeg dp.toNatClampNeg n.toNatClampNeg)))) r AH') : X sc d μ pc ls (.int n :: .int dp :: .ref a :: .int sp :: .ref a0 :: st) AH r AH' := by
  have hcs : csize (.inr (.inl (0, cpL xs ys sp.toNatClampNeg dp.toNatClampNeg n.toNatClampNeg))) = csize (.inr (.inl (0, ys))) := by simp [csize, cpL]
  refine ⟨X_set_mono ha hcs k.1, fun G p l e R s m args below meth c H locs cells slots Q lsA b ad A H0 n0 s0 hC => ?_⟩
  simp only [List.map_cons, cv_ref hn, cv_ref hn0]
  have hts := hC.1.2.2.2.2.1
  have hcat : ((st.map (cv b ad)).map fun v => v.category).sum = (st.map fun v => v.category).sum := by
    rw [List.map_map]
    congr 1
    exact List.map_congr_left (fun v _ => cv_cat v)
  have hnf : nativeFrameWords "java/lang/System" "arraycopy" 5 = 7 := by decide
  refine va_copyi hC.1.1 hC.1.2.1 (hC.1.2.2.1.trans hC.2.1.1.symm) hC.1.2.2.2.1 (hts _ hw) (hts (.native arraycopyName) wa_cp1) (hts (.static arraycopyName) wa_cp2) (hts (.initialized "java/lang/System") wa_cp3) hC.2.2.2.1.1.1 hC.2.2.1.2.1 (aW_D hC.2.2.1 hC.2.2.2.2.1.2.2) hC.2.2.2.2.1.1 a0 a 0 0 (wsl_get ha0) (wsl_get ha) rfl rfl rfl h1 h2 h3 h4 h5 (fun i _ => rfl) (Nat.le_trans hdd hC.2.2.2.2.2.1.1) (by rw [hcat, hnf]; have := hC.2.2.2.2.2.1.2; omega) hd (fun H1 locs1 hP1 hD1 hS1 => ?_)
  have ee : cvc G b ad (.inr (.inl (0, cpL xs ys sp.toNatClampNeg dp.toNatClampNeg n.toNatClampNeg))) = .inl (G.2.2 0, ys.length, .inl (va_cpy (fun j => xs.getD j 0) (fun j => ys.getD j 0) sp.toNatClampNeg dp.toNatClampNeg n.toNatClampNeg)) := by
    simp only [cvc]
    have e1 : (cpL xs ys sp.toNatClampNeg dp.toNatClampNeg n.toNatClampNeg).length = ys.length := by simp [cpL]
    have e2 : (fun j => (cpL xs ys sp.toNatClampNeg dp.toNatClampNeg n.toNatClampNeg).getD j 0) = va_cpy (fun j => xs.getD j 0) (fun j => ys.getD j 0) sp.toNatClampNeg dp.toNatClampNeg n.toNatClampNeg := by
      funext j
      by_cases hj : j < ys.length
      · simp [cpL, va_cpy, List.getD_eq_getElem?_getD, hj]
      · have h6 : ¬ (dp.toNatClampNeg ≤ j ∧ j < dp.toNatClampNeg + n.toNatClampNeg) := by omega
        simp only [va_cpy, if_neg h6]
        simp [cpL, List.getD_eq_getElem?_getD, hj]
    rw [e1, e2]
  exact k.2 G p l e R s m args below meth c H1 locs1 cells slots Q lsA b ad A H0 n0 s0 (Cx_set hC ha hcs (by rw [ee]; exact hP1) (by rw [ee]; exact hD1) hS1)
end HP
end
section
section NW
variable {sc : cS} {d : Nat} {μ : Md} {pc : Nat} {ls : List (Option Value)} {st : List Value} {AH AH' : List AC} {r : Option Value}
def okS (AH : List AC) (ls : List (Option Value)) (st : List Value) : Bool := okH AH && okL AH.length ls && st.all (okv AH.length) && decide (AH.length ≠ scrId)
theorem okS_spec (h : okS AH ls st = true) : okH AH = true ∧ okL AH.length ls = true ∧ st.all (okv AH.length) = true ∧ AH.length ≠ scrId := by
  simp only [okS, Bool.and_eq_true, decide_eq_true_eq] at h
  exact ⟨h.1.1.1, h.1.1.2, h.1.2, h.2⟩
theorem Cx_push {G : cG} {p : Program} {l : Launch} {e : Env} {R : Room} {s : State} {m : MethodId} {args : Array Value} {below : List Frame} {meth : Method} {c : Code} {H H1 : Heap} {locs locs1 : List Loc} {cells slots : Nat} {Q : State → Prop} {lsA : Array Slot} {b q : Nat} {ad : List Nat} {A : Nat → Prop} {H0 : Heap} {n0 s0 n : Nat} (hC : Cx sc G μ d ls AH r AH' p l e R s m args below meth c H locs cells slots Q lsA b ad A H0 n0 s0) {c1 : AC} (hc : csize c1 = n) (ho : okS AH ls st = true)
    (hP1 : va_P (G.1, G.2.1) vwCl (wsl G b ad AH ++ [(q, cvc G b (ad ++ [q]) c1)]) H1) (hD1 : va_D A (wsl G b ad AH ++ [(q, cvc G b (ad ++ [q]) c1)])) (hS1 : va_S A H0 H1 locs1) : Cx sc G μ d ls (AH ++ [c1]) r AH' p l e R s m args below meth c H1 locs1 (cells + 1) (slots + n) Q lsA b (ad ++ [q]) A H0 n0 s0 := by
  obtain ⟨o1, o2, -, -⟩ := okS_spec ho
  obtain ⟨h1, h2, h3, h4, ⟨h5, h6, h7⟩, h8, ⟨h9, h10, h11, h12⟩, h13⟩ := hC
  have hq : A q := hD1.2 AH.length (q, cvc G b (ad ++ [q]) c1) (by rw [List.getElem?_append_right (by rw [wsl_len]; exact Nat.le_refl _), wsl_len, Nat.sub_self]; rfl)
  rw [wsl_push h3.1 o1] at hP1 hD1
  rw [← h3.1] at o2
  refine ⟨h1, lsOK_ext h2 o2, aW_of (by simp [h3.1]) hP1 hD1, h4, ⟨hS1, h6, fun x hx => ?_⟩, h8, ⟨by simp; omega, by rw [csz_push, hc]; omega, h11, h12⟩, fun pc' lsB st' ex H' locs' c' s' e1 e2 e3 e6 e4 e5 => ?_⟩
  · rcases List.mem_append.mp hx with h | h
    · exact h7 x h
    · rw [List.mem_singleton.mp h]; exact hq
  · rw [List.append_assoc] at e2 e6 ⊢
    exact h13 pc' lsB st' ([q] ++ ex) H' locs' c' s' e1 e2 e3 e6 e4 e5
theorem push_st {b q : Nat} {ad : List Nat} (hl : ad.length = AH.length) (ho : okS AH ls st = true) : (Value.ref AH.length :: st).map (cv b (ad ++ [q])) = .ref q :: st.map (cv b ad) := by
  obtain ⟨-, -, o3, o4⟩ := okS_spec ho
  rw [List.map_cons, cv_ref o4, st_ext (by rw [hl]; exact o3)]
  simp [List.getD_eq_getElem?_getD, ← hl]
theorem X_push_mono {c1 : AC} (h : (AH ++ [c1]).length ≤ AH'.length ∧ csz (AH ++ [c1]) ≤ csz AH') : AH.length + 1 ≤ AH'.length ∧ csz AH + csize c1 ≤ csz AH' := by
  rw [csz_push] at h
  exact ⟨by simpa using h.1, h.2⟩
def dfl (ci N : Nat) : List Value := (List.range N).map (fun j => defaultValue (cty ci j))
theorem cv_dfl {b : Nat} {ad : List Nat} (ty : FieldType) : cv b ad (defaultValue ty) = defaultValue ty := by cases ty <;> rfl
theorem x_new {idx ci : Nat} {q : vw_C} (hd : decode μ.1 pc = .ok (.new idx, 3)) (hq : vwCl[ci]? = some q) (hw1 : Cond.classLink μ.2.1.cls idx q.1 ∈ WA) (hw2 : Cond.instantiable q.1 q.2.2 ∈ WA) (hw3 : Cond.initialized q.1 ∈ WA) (ho : okS AH ls st = true) (k : X sc d μ (pc + 3) ls (.ref AH.length :: st) (AH ++ [.inl (ci, dfl ci q.2.2)]) r AH') : X sc d μ pc ls st AH r AH' := by
  have hm := X_push_mono k.1
  refine ⟨⟨by omega, by omega⟩, fun G p l e R s m args below meth c H locs cells slots Q lsA b ad A H0 n0 s0 hC => ?_⟩
  have hk := cls_ok hq
  have hts := hC.1.2.2.2.2.1
  obtain ⟨r1, r2, r3, r4⟩ := hC.2.2.2.2.2.2.1
  have hsz : csize (.inl (ci, dfl ci q.2.2)) = q.2.2 := by simp [csize, dfl]
  rw [hsz] at hm
  have ev : cvc G b (ad ++ [0]) (.inl (ci, dfl ci q.2.2)) = .inr (ci, dfl ci q.2.2) := by
    simp only [cvc, dfl, List.map_map]
    congr 2
    exact List.map_congr_left (fun j _ => cv_dfl _)
  refine va_new (ci := ci) (fs := dfl ci q.2.2) (C := q.1) (T := q.2.1) (N := q.2.2) hC.1.1 hC.1.2.1 hts hk.2.2.1 (cty ci) hk.1 hC.1.2.2.2.1 (hts _ hw1) (hts _ hw2) (hts _ hw3) hC.2.2.2.1.1.1 hC.2.2.1.2.1 (aW_D hC.2.2.1 hC.2.2.2.2.1.2.2) hC.2.2.2.2.1.1 hC.2.2.2.2.1.2.1 hq (fun j hj => by simp [vp_V, dfl, List.getD_eq_getElem?_getD, hj]) (by omega) (by omega) hd (fun q1 H1 hP1 hD1 hS1 => ?_)
  have ev1 : cvc G b (ad ++ [q1]) (.inl (ci, dfl ci q.2.2)) = .inr (ci, dfl ci q.2.2) := by
    simp only [cvc, dfl, List.map_map]
    congr 2
    exact List.map_congr_left (fun j _ => cv_dfl _)
  rw [← push_st (b := b) hC.2.2.1.1 ho]
  exact k.2 G p l e R s m args below meth c H1 locs (cells + 1) (slots + q.2.2) Q lsA b (ad ++ [q1]) A H0 n0 s0 (Cx_push hC hsz ho (by rw [ev1]; exact hP1) (by rw [ev1]; exact hD1) hS1)
theorem arr_uniq {G : cG} {s : State} {cA : ClassId} {ty : FieldType} (t : Nat) (ht : t < 4) (hty : ty = tyN t) (hK : va_K (G.1, G.2.1) vwCl (tysG G ++ [(cA, ty)]) s) : cA = G.2.2 t := by
  subst hty
  have h1 := (hK.2 4 (cA, tyN t) rfl).2
  rcases (show t = 0 ∨ t = 1 ∨ t = 2 ∨ t = 3 by omega) with rfl | rfl | rfl | rfl
  · have h2 := (hK.2 0 (G.2.2 0, .int) rfl).2
    exact Option.some.inj (h1.symm.trans h2)
  · have h2 := (hK.2 1 (G.2.2 1, .boolean) rfl).2
    exact Option.some.inj (h1.symm.trans h2)
  · have h2 := (hK.2 2 (G.2.2 2, .char) rfl).2
    exact Option.some.inj (h1.symm.trans h2)
  · have h2 := (hK.2 3 (G.2.2 3, .object "BarterRings$Market") rfl).2
    obtain ⟨-, -, -, -, -, g1⟩ := h1
    obtain ⟨-, -, -, -, -, g2⟩ := h2
    exact Option.some.inj (g1.symm.trans g2)
theorem x_newarray {atype : ArrayType} {n : Int32} (t : Nat) (ht : t < 3) (hat : newarray.typeOf atype = tyN t) (hdv : defaultValue (tyN t) = .int 0) (hw : Cond.arrayClass (newarray.typeOf atype) ∈ WA) (hd : decode μ.1 pc = .ok (.newarray atype, 2)) (hn : ¬ n < 0) (hN : n.toNatClampNeg ≤ 1000) (hcb : componentBytes (newarray.typeOf atype) ≤ 8) (ho : okS AH ls st = true) (k : X sc d μ (pc + 2) ls (.ref AH.length :: st) (AH ++ [.inr (.inl (t, List.replicate n.toNatClampNeg 0))]) r AH') : X sc d μ pc ls (.int n :: st) AH r AH' := by
  have hm := X_push_mono k.1
  refine ⟨⟨by omega, by omega⟩, fun G p l e R s m args below meth c H locs cells slots Q lsA b ad A H0 n0 s0 hC => ?_⟩
  have hts := hC.1.2.2.2.2.1
  obtain ⟨r1, r2, r3, r4⟩ := hC.2.2.2.2.2.2.1
  have hsz : csize (.inr (.inl (t, List.replicate n.toNatClampNeg 0))) = n.toNatClampNeg := by simp [csize]
  rw [hsz] at hm
  have hb : n.toNatClampNeg * componentBytes (newarray.typeOf atype) ≤ 536870912 := Nat.le_trans (Nat.mul_le_mul hN hcb) (by decide)
  refine va_newa hC.1.1 hC.1.2.1 (atype := atype) (hts _ hw) rfl hC.2.2.2.1.1.1 hC.2.2.1.2.1 (aW_D hC.2.2.1 hC.2.2.2.2.1.2.2) hC.2.2.2.2.1.1 hC.2.2.2.2.1.2.1 (a0 := (n.toNatClampNeg, .inl (fun j => (List.replicate n.toNatClampNeg 0).getD j 0))) (fun cA => ?_) hn rfl hb (by omega) (by omega) hd (fun q1 cA H1 hK1 hP1 hD1 hS1 => ?_)
  · rw [vp_cell_i, hat, hdv]
    congr 1
    funext j
    simp only [List.getD_eq_getElem?_getD, List.getElem?_replicate]
    split <;> rfl
  have hu := arr_uniq t (by omega) hat hK1
  have ev1 : cvc G b (ad ++ [q1]) (.inr (.inl (t, List.replicate n.toNatClampNeg 0))) = .inl (cA, n.toNatClampNeg, .inl (fun j => (List.replicate n.toNatClampNeg 0).getD j 0)) := by
    simp only [cvc, List.length_replicate, hu]
  rw [← push_st (b := b) hC.2.2.1.1 ho]
  exact k.2 G p l e R s m args below meth c H1 locs (cells + 1) (slots + n.toNatClampNeg) Q lsA b (ad ++ [q1]) A H0 n0 s0 (Cx_push hC hsz ho (by rw [ev1]; exact hP1) (by rw [ev1]; exact hD1) hS1)
theorem x_anewarray {idx : Nat} {n : Int32} (hd : decode μ.1 pc = .ok (.anewarray idx, 3)) (hw : Cond.classLink μ.2.1.cls idx "BarterRings$Market" ∈ WA) (hn : ¬ n < 0) (hN : n.toNatClampNeg ≤ 1000) (ho : okS AH ls st = true) (k : X sc d μ (pc + 3) ls (.ref AH.length :: st) (AH ++ [.inr (.inr (List.replicate n.toNatClampNeg none))]) r AH') : X sc d μ pc ls (.int n :: st) AH r AH' := by
  have hm := X_push_mono k.1
  refine ⟨⟨by omega, by omega⟩, fun G p l e R s m args below meth c H locs cells slots Q lsA b ad A H0 n0 s0 hC => ?_⟩
  have hts := hC.1.2.2.2.2.1
  obtain ⟨r1, r2, r3, r4⟩ := hC.2.2.2.2.2.2.1
  have hsz : csize (.inr (.inr (List.replicate n.toNatClampNeg none))) = n.toNatClampNeg := by simp [csize]
  rw [hsz] at hm
  refine va_newq hC.1.1 hC.1.2.1 hC.1.2.2.2.1 (hts _ hw) hC.2.2.2.1.1.2.2 hC.2.2.2.1.1.1 hC.2.2.1.2.1 (aW_D hC.2.2.1 hC.2.2.2.2.1.2.2) hC.2.2.2.2.1.1 hC.2.2.2.2.1.2.1 hn rfl (by omega) (by omega) (by omega) hd (fun q1 cA H1 hK1 hP1 hD1 hS1 => ?_)
  have hu := arr_uniq 3 (by omega) rfl hK1
  have ev1 : cvc G b (ad ++ [q1]) (.inr (.inr (List.replicate n.toNatClampNeg none))) = .inl (cA, n.toNatClampNeg, .inr (.inr (.inr (.inr (fun _ => none))))) := by
    simp only [cvc, List.length_replicate, hu]
    congr 7
    funext j
    simp only [List.getD_eq_getElem?_getD, List.getElem?_replicate]
    split <;> rfl
  rw [← push_st (b := b) hC.2.2.1.1 ho]
  exact k.2 G p l e R s m args below meth c H1 locs (cells + 1) (slots + n.toNatClampNeg) Q lsA b (ad ++ [q1]) A H0 n0 s0 (Cx_push hC hsz ho (by rw [ev1]; exact hP1) (by rw [ev1]; exact hD1) hS1)
theorem x_objInit {idx o : Nat} (hd : decode μ.1 pc = .ok (.invokespecial idx, 3)) (hdd : 1 ≤ d) (hn : o ≠ scrId) (hw : Cond.methodLink μ.2.1.cls idx Lib.objectInit ∈ WA) (hst : (st.map fun v => v.category).sum ≤ 8) (k : X sc d μ (pc + 3) ls st AH r AH') : X sc d μ pc ls (.ref o :: st) AH r AH' := by
  refine ⟨k.1, fun G p l e R s m args below meth c H locs cells slots Q lsA b ad A H0 n0 s0 hC => ?_⟩
  rw [List.map_cons, cv_ref hn]
  have hts := hC.1.2.2.2.2.1
  have hcat : ((st.map (cv b ad)).map fun v => v.category).sum = (st.map fun v => v.category).sum := by
    rw [List.map_map]
    congr 1
    exact List.map_congr_left (fun v _ => cv_cat v)
  refine W.objInit hC.1.1 hC.1.2.1 hC.1.2.2.2.1 (hts _ hw) (hts _ wa_oi1) (hts _ wa_oi2) rfl (hC.2.1.1.trans hC.1.2.2.1.symm) rfl hd (Nat.le_trans hdd hC.2.2.2.2.2.1.1) ?_ (k.2 G p l e R s m args below meth c H locs cells slots Q lsA b ad A H0 n0 s0 hC)
  show 2 * 0 + _ + 12 ≤ R.locals
  rw [hcat]
  have := hC.2.2.2.2.2.1.2
  omega
end NW
/-! a whole method as a contract -/
def aA (ad : List Nat) (sz : Nat) : Nat → Prop := fun q => q ∈ ad ∨ sz ≤ q
def aP (G : cG) (b : Nat) (ad : List Nat) (AH : List AC) (sz : Nat) (U : State) : Prop := U.heap.size = sz ∧ aW G b ad AH U.heap ∧ aK G U
def aQ (G : cG) (b : Nat) (ad : List Nat) (sz : Nat) (r : Option Value) (AH' : List AC) : Array Value → State → Outcome → State → Prop := fun _ st oc t => (∃ ex : List Nat, oc = .returned (r.map (cv b (ad ++ ex))) ∧ aW G b (ad ++ ex) AH' t.heap ∧ ∀ x ∈ ad ++ ex, aA ad sz x) ∧ va_F (aA ad sz) st t
theorem aK_moved {G : cG} {s U : State} (hW : s.WarmedH U.vm) (h : aK G s) : aK G U := ⟨va_K.moved hW.alike h.1, fun q hq => va_Nw.warmM hW (h.2.1 q hq), va_AO.moved hW.alike h.2.2⟩
theorem aK_calling {G : cG} {U : State} {g : JFrame} {mk : MethodId} {a : Array Value} (h : aK G U) : aK G (U.calling g mk a) := ⟨va_K.moved (u := U) (U := U.calling g mk a) (Vm.Alike.refl U.vm) h.1, fun q hq => va_Nw.same rfl rfl (h.2.1 q hq), va_AO.moved (u := U) (U := U.calling g mk a) (Vm.Alike.refl U.vm) h.2.2⟩
theorem lg_sl_one {vs : List Value} (h : ∀ v ∈ vs, v.category = 1) : lg_sl vs = vs.map Slot.val := by
  induction vs with
  | nil => rfl
  | cons v vs ih =>
    have h1 : ¬ v.category = 2 := by have := h v List.mem_cons_self; omega
    have h2 := ih (fun w hw => h w (List.mem_cons_of_mem _ hw))
    simp only [lg_sl] at h2
    simp [lg_sl, h1, h2]
theorem lsOK_entry {b : Nat} {ad : List Nat} {as : List Value} {n : Nat} (hc : ∀ v ∈ as, v.category = 1) (hl : as.length ≤ n) : lsOK ((lg_sl (as.map (cv b ad)) ++ List.replicate (n - (lg_sl (as.map (cv b ad))).length) Slot.unset).toArray) n b ad (lent n as) := by
  have hc2 : ∀ v ∈ as.map (cv b ad), v.category = 1 := by
    intro v hv
    obtain ⟨w, hw, rfl⟩ := List.mem_map.mp hv
    rw [cv_cat]
    exact hc w hw
  have hsl := lg_sl_one hc2
  have h := lv_entry (as.map (cv b ad)) (n := n) (by rw [hsl]; simpa using hl)
  refine ⟨h.1, h.2.1, fun i v hv => ?_⟩
  have hi : i < as.length := by
    rcases Nat.lt_or_ge i as.length with q | q
    · exact q
    · simp only [lent] at hv
      rw [List.getElem?_append_right (by simpa using q)] at hv
      have := List.eq_of_mem_replicate (List.mem_of_getElem? hv)
      cases this
  have hv2 : as[i]? = some v := by
    simp only [lent] at hv
    rw [List.getElem?_append_left (by simpa using hi)] at hv
    rw [List.getElem?_map] at hv
    cases hq : as[i]? with
    | none => rw [hq] at hv; cases hv
    | some w => rw [hq] at hv; simp at hv; rw [hv]
  rw [hsl]
  have hv3 := (List.getElem?_eq_some_iff.mp hv2).2
  simp [hi, List.getElem?_append_left, hv3]
theorem met_of {l : Launch} {h : Nat} {μ : Md} {as : List Value} {AH AH' : List AC} {r : Option Value} (hX : X none h μ 0 (lent μ.2.2.1 as) [] AH r AH') (hc : ∀ v ∈ as, v.category = 1) (hl : as.length ≤ μ.2.2.1) (hp : plainName μ.2.1.cls = true) (G : cG) (b : Nat) (ad : List Nat) (sz : Nat) :
    Met l μ.2.1 (.code μ.2.1 μ.1 μ.2.2.1 μ.2.2.2 :: WA) { frames := h, cells := AH'.length - AH.length, slots := csz AH' - csz AH, locals := 40 * h } (va_Pc (as.map (cv b ad)) (aP G b ad AH sz)) (aQ G b ad sz r AH') (AH'.length - AH.length) (csz AH' - csz AH) (aA ad sz) := by
  refine Met.ofW (cc := μ.1) (maxL := μ.2.2.1) (ret := μ.2.2.2) hp rfl ?_
  intro p e s m args below meth c s₁ B hml hv
  obtain ⟨rfl, hsz, hW, hK⟩ := hv
  have hts := atoms_spec (ws := Cond.code μ.2.1 μ.1 μ.2.2.1 μ.2.2.2 :: WA) B.pre
  have hown : s.vm.findClass μ.2.1.cls = some m.cls := findClass_of_methodNamed B.named
  have hlocks := B.notSynchronized
  have hr := B.returns
  have hnm : meth.name = μ.2.1.name := (name_of_methodNamed B.named B.method).1
  obtain ⟨m1, m2⟩ := hX.1
  rw [lg_entry_eq]
  subst hsz
  refine hX.2 G p l e _ s m _ below meth c s.heap [] 0 0 _ _ b ad (aA ad s.heap.size) s.heap AH.length (csz AH) ⟨⟨B.exec, B.bytes, hml, hown, fun w hw => hts w (List.mem_cons_of_mem _ hw), fun h => hnm.trans h⟩, lsOK_entry hc hl, hW, ⟨hK, trivial⟩, ⟨va_S.rf, fun q hq => Or.inr hq, fun x hx => Or.inl hx⟩, ⟨Nat.le_refl _, Nat.le_refl _⟩, ⟨by omega, by omega, by show _ ≤ (AH'.length - AH.length) + AH.length; omega, by show _ ≤ (csz AH' - csz AH) + csz AH; omega⟩, fun pc' lsB st' ex H' locs' c' s' he hW' hS' hex h1 h2 => ?_⟩
  have e1 : c' = AH'.length - AH.length := by omega
  have e2 : s' = csz AH' - csz AH := by omega
  subst e1; subst e2
  have hq : ∀ t : State, t.heap = H' → s.WarmedH t.vm → aQ G b ad s.heap.size r AH' (as.map (cv b ad)).toArray s (.returned (r.map (cv b (ad ++ ex)))) t := fun t ht _ => ⟨⟨ex, rfl, by rw [ht]; exact hW', hex⟩, hS'.F ht⟩
  rcases he with ⟨hd, rfl, rfl, hrt⟩ | ⟨v, ty, hd, rfl, rfl, hrt, hn⟩ | ⟨v, hd, rfl, rfl, hrt⟩ | ⟨k, C, hd, rfl, rfl, hrt⟩
  · exact W.vret B.exec B.bytes (hr.trans hrt) hq hS'.2.2 hd
  · exact W.zret B.exec B.bytes (hr.trans hrt) hn hq hS'.2.2 hd
  · exact W.dret B.exec B.bytes (hr.trans hrt) hq hS'.2.2 hd
  · exact W.aret B.exec B.bytes (hr.trans hrt) (Or.inl ⟨C, rfl⟩) (Or.inr ⟨_, rfl⟩) hq hS'.2.2 hd
end
section
def MdOK (μ : Md) (n : Nat) : Prop := Cond.initialized μ.2.1.cls ∈ WA ∧ Cond.code μ.2.1 μ.1 μ.2.2.1 μ.2.2.2 ∈ WA ∧ (μ.2.1.cls ≠ "java/lang/invoke/MethodHandle" ∧ μ.2.1.cls ≠ "java/lang/invoke/VarHandle") ∧ plainName μ.2.1.cls = true ∧ (parseMethodDescriptor μ.2.1.desc).map (fun d => d.parameters.length) = some n ∧ μ.2.2.1 ≤ 20
def MdV (μ : Md) (n : Nat) : Prop := MdOK μ n ∧ Cond.instanceMethod μ.2.1 ∈ WA ∧ Cond.selects μ.2.1.cls μ.2.1 μ.2.1 ∈ WA
def MdS (μ : Md) (n : Nat) : Prop := MdOK μ n ∧ Cond.static μ.2.1 ∈ WA
def MdI (μ : Md) (n : Nat) : Prop := MdOK μ n ∧ Cond.instanceMethod μ.2.1 ∈ WA ∧ μ.2.1.name = "<init>" ∧ μ.2.2.2 = none
theorem w_call {p : Program} {l : Launch} {e : Env} {R : Room} {s : State} {m : MethodId} {args : Array Value} {below : List Frame} {meth : Method} {c : Code} {H : Heap} {locs : List Loc} {cells slots mc ms : Nat} {Q : State → Prop} {pc : Nat} {lsA : Array Slot} {st0 rest : List Value} {Qa : State → Outcome → State → Prop} {free : Addr → Prop}
    (hr : va_Run p l e R s m args below meth c H locs cells slots mc ms (F0 m pc lsA st0) rest Qa free)
    (kk : ∀ (v : Option Value) (st₀ t : State) (H1 : Heap) (L : List Loc), st₀.heap = H → t.heap = H1 → Qa st₀ (.returned v) t → (∀ q ∈ L, free q.base) → W p l e R s m args below meth c H1 (locs ++ L) (cells + mc) (slots + ms) Q (F0 m (pc + 3) lsA (v.toList ++ rest))) : W p l e R s m args below meth c H locs cells slots Q (F0 m pc lsA st0) := by
  intro T hT X
  obtain ⟨v, st₀, t, T', L, h0, X', hL, e1, e2, hq, st⟩ := hr T hT X
  obtain ⟨t2, a1, b1⟩ := kk v st₀ t T'.heap L h0 e1.symm hq hL T' rfl X'
  exact ⟨t2, st t2 a1, b1⟩
section CL
variable {sc : cS} {d h : Nat} {μ μ' : Md} {pc idx n : Nat} {ls : List (Option Value)} {st as : List Value} {AH AH1 AH' : List AC} {r r1 : Option Value}
theorem x_call_aux {ls0 : List (Option Value)} (hX : X none h μ' 0 ls0 [] AH r1 AH1) (k : X sc d μ (pc + 3) ls (r1.toList ++ st) AH1 r AH') (hext : AH1.length = AH.length ∨ okS AH ls st = true)
    {G : cG} {p : Program} {l : Launch} {e : Env} {R : Room} {s : State} {m : MethodId} {args : Array Value} {below : List Frame} {meth : Method} {c : Code} {H : Heap} {locs : List Loc} {cells slots : Nat} {Q : State → Prop} {lsA : Array Slot} {b : Nat} {ad : List Nat} {A : Nat → Prop} {H0 : Heap} {n0 s0 : Nat} (hC : Cx sc G μ d ls AH r AH' p l e R s m args below meth c H locs cells slots Q lsA b ad A H0 n0 s0) {stk : List Value} {a' : Array Value}
    (hr : va_Run p l e R s m args below meth c H locs cells slots (AH1.length - AH.length) (csz AH1 - csz AH) (F0 m pc lsA stk) (st.map (cv b ad)) (aQ G b ad H.size r1 AH1 a') (aA ad H.size)) : W p l e R s m args below meth c H locs cells slots Q (F0 m pc lsA stk) := by
  refine w_call hr (fun v st₀ t H1 L h0 ht hq hL => ?_)
  obtain ⟨h1, h2, h3, h4, ⟨h5, h6, h7⟩, h8, ⟨h9, h10, h11, h12⟩, h13⟩ := hC
  obtain ⟨⟨ex, hv, hW1, hex⟩, hF1, hF2⟩ := hq
  have hv2 : v = r1.map (cv b (ad ++ ex)) := by injection hv
  subst hv2
  rw [h0] at hF1 hF2
  subst ht
  have hA1 : ∀ x, aA ad H.size x → A x := fun x hx => hx.elim (h7 x) (fun q => h6 x (Nat.le_trans h5.1 q))
  have hst : st.map (cv b ad) = st.map (cv b (ad ++ ex)) ∧ lsOK lsA μ.2.2.1 b (ad ++ ex) ls := by
    rcases hext with q | q
    · have : ex = [] := by
        have := hW1.1
        rw [List.length_append, h3.1, q] at this
        exact List.eq_nil_of_length_eq_zero (by omega)
      subst this
      rw [List.append_nil]
      exact ⟨rfl, h2⟩
    · obtain ⟨-, o2, o3, -⟩ := okS_spec q
      rw [← h3.1] at o2 o3
      exact ⟨(st_ext o3).symm, lsOK_ext h2 o2⟩
  have hstk : (r1.map (cv b (ad ++ ex))).toList ++ st.map (cv b ad) = (r1.toList ++ st).map (cv b (ad ++ ex)) := by
    rw [List.map_append, hst.1]
    cases r1 <;> rfl
  rw [hstk]
  obtain ⟨m1, m2⟩ := hX.1
  refine k.2 G p l e R s m args below meth c t.heap (locs ++ L) _ _ Q lsA b (ad ++ ex) A H0 n0 s0 ⟨h1, hst.2, hW1, h4, ⟨⟨Nat.le_trans h5.1 hF1, fun q g1 g2 => ?_, fun q hq => ?_⟩, h6, fun x hx => hA1 x (hex x hx)⟩, h8, ⟨by omega, by omega, h11, h12⟩, fun pc' lsB st' ex' H' locs' c' s' e1 e2 e3 e4 e5 e6 => ?_⟩
  · rw [hF2 q (Nat.lt_of_lt_of_le g1 h5.1) (fun z => g2 (hA1 q z))]
    exact h5.2.1 q g1 g2
  · rcases List.mem_append.mp hq with z | z
    · exact h5.2.2 q z
    · exact hA1 _ (hL q z)
  · rw [List.append_assoc] at e2 e4 ⊢
    exact h13 pc' lsB st' (ex ++ ex') H' locs' c' s' e1 e2 e3 e4 e5 e6
theorem cat_map {b : Nat} {ad : List Nat} : ((st.map (cv b ad)).map fun v => v.category).sum = (st.map fun v => v.category).sum := by
  rw [List.map_map]
  congr 1
  exact List.map_congr_left (fun v _ => cv_cat v)
theorem aP_blind {G : cG} {b sz : Nat} {ad : List Nat} {av : List Value} : FrameBlind (va_Pc av (aP G b ad AH sz)) := fun _ _ _ _ q => ⟨q.1, q.2.1, q.2.2.1, aK_calling q.2.2.2⟩
theorem aP_at {G : cG} {b : Nat} {ad : List Nat} {av : List Value} {s : State} {H : Heap} (hW : aW G b ad AH H) (hK : aK G s) : ∀ U : State, U.heap = H → s.WarmedH U.vm → va_Pc av (aP G b ad AH H.size) av.toArray U := fun U hU hV => ⟨rfl, by rw [hU], by rw [hU]; exact hW, aK_moved hV hK⟩
theorem callB_ok {R : Room} {s : State} {args : Array Value} {mc ms : Nat} (hm : MdOK μ' n) (hts : ∀ w ∈ WA, w.before args s = true) (hw : (Cond.methodLink μ.2.1.cls idx μ'.2.1) ∈ WA) (hh : h + 1 ≤ d) (h8 : d ≤ R.frames ∧ 40 * d ≤ R.locals) :
    CallB R s args μ.2.1.cls idx μ'.2.1 μ'.1 μ'.2.2.1 μ'.2.2.2 (.code μ'.2.1 μ'.1 μ'.2.2.1 μ'.2.2.2 :: WA) { frames := h, cells := mc, slots := ms, locals := 40 * h } mc ms n := by
  obtain ⟨k1, k2, k3, k4, k5, k6⟩ := hm
  refine ⟨rfl, rfl, by show h + 1 ≤ R.frames; omega, by show 8 + (μ'.2.2.1 + 11) + 40 * h ≤ R.locals; omega, pay_in hts (fun w hw => ?_), List.mem_cons_self, hts _ k2, hts _ k1, k3, fun sig hs => ?_, hts _ hw⟩
  · rcases List.mem_cons.mp hw with rfl | hw
    · exact wa_good _ k2
    · exact wa_good _ hw
  · rw [hs] at k5
    exact (Option.some.inj k5).symm
theorem x_callV {o ci : Nat} {fs stk : List Value} {q : vw_C} (hm : MdV μ' n) (hw : (Cond.methodLink μ.2.1.cls idx μ'.2.1) ∈ WA) (hd : decode μ.1 pc = .ok (.invokevirtual idx, 3)) (hs : stk = as.reverse ++ .ref o :: st) (hX : X none h μ' 0 (lent μ'.2.2.1 (.ref o :: as)) [] AH r1 AH1) (hh : h + 1 ≤ d) (hn : as.length = n) (hc : ∀ v ∈ as, v.category = 1) (hl : as.length + 1 ≤ μ'.2.2.1) (hno : o ≠ scrId) (ho : AH[o]? = some (.inl (ci, fs))) (hq : vwCl[ci]? = some q) (hcq : μ'.2.1.cls = q.1) (hst : (st.map fun v => v.category).sum ≤ 8) (hext : AH1.length = AH.length ∨ okS AH ls st = true) (k : X sc d μ (pc + 3) ls (r1.toList ++ st) AH1 r AH') : X sc d μ pc ls stk AH r AH' := by
  obtain ⟨m1, m2⟩ := hX.1
  obtain ⟨g1, g2⟩ := k.1
  refine ⟨⟨by omega, by omega⟩, fun G p l e R s m args below meth c H locs cells slots Q lsA b ad A H0 n0 s0 hC => ?_⟩
  have hts := hC.1.2.2.2.2.1
  obtain ⟨f1, f2, f3, f4⟩ := hC.2.2.2.2.2.2.1
  have hM := met_of (l := l) hX (fun v hv => (List.mem_cons.mp hv).elim (fun z => by rw [z]; rfl) (hc v)) hl hm.1.2.2.2.1 G b ad H.size
  rw [List.map_cons, cv_ref hno] at hM
  refine x_call_aux hX k hext hC (a' := (Value.ref (ad.getD o 0) :: as.map (cv b ad)).toArray) (va_runV (C := μ'.2.1.cls) (b := ad.getD o 0) (As := as.map (cv b ad)) ⟨hC.1.1, hC.1.2.1, hC.1.2.2.1, hC.1.2.2.2.1, hts⟩ hM ⟨callB_ok hm.1 hts hw hh hC.2.2.2.2.2.1, hts _ hm.2.1, hts _ hm.2.2⟩ ⟨aP_blind, ?_, aP_at hC.2.2.1 hC.2.2.2.1.1⟩ rfl (by simpa using hn) hC.2.1.1 ?_ ?_ hd ⟨by omega, by omega⟩)
  · rw [hcq]
    exact va_recv hC.2.2.2.1.1.1 hC.2.2.1.2.1 (q0 := o) hq (wsl_get ho)
  · show stk.map (cv b ad) = _
    rw [hs]
    simp [List.map_reverse, cv_ref hno]
  · show 2 * 0 + _ ≤ 8
    rw [cat_map]
    omega
theorem x_callS {stk : List Value} (hm : MdS μ' n) (hw : (Cond.methodLink μ.2.1.cls idx μ'.2.1) ∈ WA) (hd : decode μ.1 pc = .ok (.invokestatic idx, 3)) (hs : stk = as.reverse ++ st) (hX : X none h μ' 0 (lent μ'.2.2.1 as) [] AH r1 AH1) (hh : h + 1 ≤ d) (hn : as.length = n) (hc : ∀ v ∈ as, v.category = 1) (hl : as.length ≤ μ'.2.2.1) (hst : (st.map fun v => v.category).sum ≤ 8) (hext : AH1.length = AH.length ∨ okS AH ls st = true) (k : X sc d μ (pc + 3) ls (r1.toList ++ st) AH1 r AH') : X sc d μ pc ls stk AH r AH' := by
  obtain ⟨m1, m2⟩ := hX.1
  obtain ⟨g1, g2⟩ := k.1
  refine ⟨⟨by omega, by omega⟩, fun G p l e R s m args below meth c H locs cells slots Q lsA b ad A H0 n0 s0 hC => ?_⟩
  have hts := hC.1.2.2.2.2.1
  obtain ⟨f1, f2, f3, f4⟩ := hC.2.2.2.2.2.2.1
  have hM := met_of (l := l) hX hc hl hm.1.2.2.2.1 G b ad H.size
  refine x_call_aux hX k hext hC (a' := (as.map (cv b ad)).toArray) (va_runS (As := as.map (cv b ad)) ⟨hC.1.1, hC.1.2.1, hC.1.2.2.1, hC.1.2.2.2.1, hts⟩ hM ⟨callB_ok hm.1 hts hw hh hC.2.2.2.2.2.1, hts _ hm.2⟩ ⟨aP_blind, aP_at hC.2.2.1 hC.2.2.2.1.1⟩ rfl (by simpa using hn) hC.2.1.1 ?_ ?_ hd ⟨by omega, by omega⟩)
  · show stk.map (cv b ad) = _
    rw [hs]
    simp [List.map_reverse]
  · show 2 * 0 + _ ≤ 8
    rw [cat_map]
    omega
theorem x_callI {o : Nat} {stk : List Value} (hm : MdI μ' n) (hw : (Cond.methodLink μ.2.1.cls idx μ'.2.1) ∈ WA) (hd : decode μ.1 pc = .ok (.invokespecial idx, 3)) (hs : stk = as.reverse ++ .ref o :: st) (hX : X none h μ' 0 (lent μ'.2.2.1 (.ref o :: as)) [] AH r1 AH1) (hh : h + 1 ≤ d) (hn : as.length = n) (hc : ∀ v ∈ as, v.category = 1) (hl : as.length + 1 ≤ μ'.2.2.1) (hno : o ≠ scrId) (hst : (st.map fun v => v.category).sum ≤ 8) (hext : AH1.length = AH.length ∨ okS AH ls st = true) (k : X sc d μ (pc + 3) ls (r1.toList ++ st) AH1 r AH') : X sc d μ pc ls stk AH r AH' := by
  obtain ⟨m1, m2⟩ := hX.1
  obtain ⟨g1, g2⟩ := k.1
  refine ⟨⟨by omega, by omega⟩, fun G p l e R s m args below meth c H locs cells slots Q lsA b ad A H0 n0 s0 hC => ?_⟩
  have hts := hC.1.2.2.2.2.1
  obtain ⟨f1, f2, f3, f4⟩ := hC.2.2.2.2.2.2.1
  have hM := met_of (l := l) hX (fun v hv => (List.mem_cons.mp hv).elim (fun z => by rw [z]; rfl) (hc v)) hl hm.1.2.2.2.1 G b ad H.size
  rw [List.map_cons, cv_ref hno] at hM
  have hB : CallB R s args μ.2.1.cls idx μ'.2.1 μ'.1 μ'.2.2.1 none (.code μ'.2.1 μ'.1 μ'.2.2.1 μ'.2.2.2 :: WA) { frames := h, cells := AH1.length - AH.length, slots := csz AH1 - csz AH, locals := 40 * h } (AH1.length - AH.length) (csz AH1 - csz AH) n := by
    have h1 := callB_ok (μ := μ) (mc := AH1.length - AH.length) (ms := csz AH1 - csz AH) hm.1 hts hw hh hC.2.2.2.2.2.1
    rw [hm.2.2.2] at h1 ⊢
    exact h1
  refine x_call_aux hX k hext hC (a' := (Value.ref (ad.getD o 0) :: as.map (cv b ad)).toArray) (va_runI (b := ad.getD o 0) (As := as.map (cv b ad)) ⟨hC.1.1, hC.1.2.1, hC.1.2.2.1, hC.1.2.2.2.1, hts⟩ hM ⟨hB, hm.2.2.1, hts _ hm.2.1⟩ ⟨aP_blind, aP_at hC.2.2.1 hC.2.2.2.1.1⟩ rfl (by simpa using hn) hC.2.1.1 ?_ ?_ hd ⟨by omega, by omega⟩)
  · show stk.map (cv b ad) = _
    rw [hs]
    simp [List.map_reverse, cv_ref hno]
  · show 2 * 0 + _ ≤ 8
    rw [cat_map]
    omega
theorem cn_ok {R : Room} {s : State} {args : Array Value} {mc ms : Nat} {ret : Option FieldType} (hret : μ'.2.2.2 = ret) (hm : MdOK μ' n) (hts : ∀ w ∈ WA, w.before args s = true) (hw : va_Nw (.methodLinkNest μ.2.1.cls idx μ'.2.1 "BarterRings") s) (hh : h + 1 ≤ d) (h8 : d ≤ R.frames ∧ 40 * d ≤ R.locals) :
    va_CN R s args μ.2.1.cls idx μ'.2.1 "BarterRings" μ'.1 μ'.2.2.1 ret (.code μ'.2.1 μ'.1 μ'.2.2.1 μ'.2.2.2 :: WA) { frames := h, cells := mc, slots := ms, locals := 40 * h } mc ms n := by
  subst hret
  obtain ⟨k1, k2, k3, k4, k5, k6⟩ := hm
  refine ⟨⟨rfl, rfl, by show h + 1 ≤ R.frames; omega, by show 8 + (μ'.2.2.1 + 11) + 40 * h ≤ R.locals; omega, pay_in hts (fun w hw => ?_), List.mem_cons_self⟩, hts _ k2, hts _ k1, k3, fun sig hs => ?_, va_Nw.use rfl hw⟩
  · rcases List.mem_cons.mp hw with rfl | hw
    · exact wa_good _ k2
    · exact wa_good _ hw
  · rw [hs] at k5
    exact (Option.some.inj k5).symm
theorem x_callSN {stk : List Value} (hm : MdS μ' n) (hw : (μ.2.1.cls, idx, μ'.2.1) ∈ nests) (hd : decode μ.1 pc = .ok (.invokestatic idx, 3)) (hs : stk = as.reverse ++ st) (hX : X none h μ' 0 (lent μ'.2.2.1 as) [] AH r1 AH1) (hh : h + 1 ≤ d) (hn : as.length = n) (hc : ∀ v ∈ as, v.category = 1) (hl : as.length ≤ μ'.2.2.1) (hst : (st.map fun v => v.category).sum ≤ 8) (hext : AH1.length = AH.length ∨ okS AH ls st = true) (k : X sc d μ (pc + 3) ls (r1.toList ++ st) AH1 r AH') : X sc d μ pc ls stk AH r AH' := by
  obtain ⟨m1, m2⟩ := hX.1
  obtain ⟨g1, g2⟩ := k.1
  refine ⟨⟨by omega, by omega⟩, fun G p l e R s m args below meth c H locs cells slots Q lsA b ad A H0 n0 s0 hC => ?_⟩
  have hts := hC.1.2.2.2.2.1
  obtain ⟨f1, f2, f3, f4⟩ := hC.2.2.2.2.2.2.1
  have hM := met_of (l := l) hX hc hl hm.1.2.2.2.1 G b ad H.size
  have hN := hC.2.2.2.1.1.2.1 _ hw
  refine x_call_aux hX k hext hC (a' := (as.map (cv b ad)).toArray) (va_runSN (As := as.map (cv b ad)) ⟨hC.1.1, hC.1.2.1, hC.1.2.2.1, hC.1.2.2.2.1, hts⟩ hM ⟨cn_ok rfl hm.1 hts hN hh hC.2.2.2.2.2.1, hts _ hm.2, trivial⟩ ⟨aP_blind, aP_at hC.2.2.1 hC.2.2.2.1.1⟩ rfl (by simpa using hn) hC.2.1.1 ?_ ?_ hd ⟨by omega, by omega⟩)
  · show stk.map (cv b ad) = _
    rw [hs]
    simp [List.map_reverse]
  · show 2 * 0 + _ ≤ 8
    rw [cat_map]
    omega
theorem x_callIN {o : Nat} {stk : List Value} (hm : MdI μ' n) (hw : (μ.2.1.cls, idx, μ'.2.1) ∈ nests) (hd : decode μ.1 pc = .ok (.invokespecial idx, 3)) (hs : stk = as.reverse ++ .ref o :: st) (hX : X none h μ' 0 (lent μ'.2.2.1 (.ref o :: as)) [] AH r1 AH1) (hh : h + 1 ≤ d) (hn : as.length = n) (hc : ∀ v ∈ as, v.category = 1) (hl : as.length + 1 ≤ μ'.2.2.1) (hno : o ≠ scrId) (hst : (st.map fun v => v.category).sum ≤ 8) (hext : AH1.length = AH.length ∨ okS AH ls st = true) (k : X sc d μ (pc + 3) ls (r1.toList ++ st) AH1 r AH') : X sc d μ pc ls stk AH r AH' := by
  obtain ⟨m1, m2⟩ := hX.1
  obtain ⟨g1, g2⟩ := k.1
  refine ⟨⟨by omega, by omega⟩, fun G p l e R s m args below meth c H locs cells slots Q lsA b ad A H0 n0 s0 hC => ?_⟩
  have hts := hC.1.2.2.2.2.1
  obtain ⟨f1, f2, f3, f4⟩ := hC.2.2.2.2.2.2.1
  have hM := met_of (l := l) hX (fun v hv => (List.mem_cons.mp hv).elim (fun z => by rw [z]; rfl) (hc v)) hl hm.1.2.2.2.1 G b ad H.size
  rw [List.map_cons, cv_ref hno] at hM
  have hN := hC.2.2.2.1.1.2.1 _ hw
  refine x_call_aux hX k hext hC (a' := (Value.ref (ad.getD o 0) :: as.map (cv b ad)).toArray) (va_runIN (b := ad.getD o 0) (As := as.map (cv b ad)) ⟨hC.1.1, hC.1.2.1, hC.1.2.2.1, hC.1.2.2.2.1, hts⟩ hM ⟨cn_ok hm.2.2.2 hm.1 hts hN hh hC.2.2.2.2.2.1, hm.2.2.1, hts _ hm.2.1⟩ ⟨aP_blind, aP_at hC.2.2.1 hC.2.2.2.1.1⟩ rfl (by simpa using hn) hC.2.1.1 ?_ ?_ hd ⟨by omega, by omega⟩)
  · show stk.map (cv b ad) = _
    rw [hs]
    simp [List.map_reverse, cv_ref hno]
  · show 2 * 0 + _ ≤ 8
    rw [cat_map]
    omega
/-! the law's own script -/
theorem x_sld {L : Nat} {xs : Nat → Int32} {i : Int32} (hd : decode μ.1 pc = .ok (.iaload, 1)) (hi : vp_in i L) (k : X (some (L, xs)) d μ (pc + 1) ls (.int (xs i.toNatClampNeg) :: st) AH r AH') : X (some (L, xs)) d μ pc ls (.int i :: .ref scrId :: st) AH r AH' := by
  refine ⟨k.1, fun G p l e R s m args below meth c H locs cells slots Q lsA b ad A H0 n0 s0 hC => ?_⟩
  obtain ⟨hX, hbl, hbA⟩ := hC.2.2.2.1.2
  have e1 : cv b ad (.ref scrId) = .ref b := by simp [cv]
  rw [List.map_cons, List.map_cons, e1]
  exact va_sld hC.1.1 hC.1.2.1 hX hbl hbA hC.2.2.2.2.1.1 hi hd (k.2 G p l e R s m args below meth c H locs cells slots Q lsA b ad A H0 n0 s0 hC)
theorem x_slen {L : Nat} {xs : Nat → Int32} (hd : decode μ.1 pc = .ok (.arraylength, 1)) (k : X (some (L, xs)) d μ (pc + 1) ls (.int (Int32.ofNat L) :: st) AH r AH') : X (some (L, xs)) d μ pc ls (.ref scrId :: st) AH r AH' := by
  refine ⟨k.1, fun G p l e R s m args below meth c H locs cells slots Q lsA b ad A H0 n0 s0 hC => ?_⟩
  obtain ⟨hX, hbl, hbA⟩ := hC.2.2.2.1.2
  have e1 : cv b ad (.ref scrId) = .ref b := by simp [cv]
  rw [List.map_cons, e1]
  exact va_slen hC.1.1 hC.1.2.1 hX hbl hbA hC.2.2.2.2.1.1 hd (k.2 G p l e R s m args below meth c H locs cells slots Q lsA b ad A H0 n0 s0 hC)
/-- more room, or other locals -/
theorem X.more {d' : Nat} (hd : d ≤ d') (k : X sc d μ pc ls st AH r AH') : X sc d' μ pc ls st AH r AH' := ⟨k.1, fun G p l e R s m args below meth c H locs cells slots Q lsA b ad A H0 n0 s0 hC => k.2 G p l e R s m args below meth c H locs cells slots Q lsA b ad A H0 n0 s0 ⟨hC.1, hC.2.1, hC.2.2.1, hC.2.2.2.1, hC.2.2.2.2.1, ⟨by have := hC.2.2.2.2.2.1.1; omega, by have := hC.2.2.2.2.2.1.2; omega⟩, hC.2.2.2.2.2.2⟩⟩
theorem X.lsw {ls' : List (Option Value)} (hl : ∀ (i : Nat) (v : Value), ls'[i]? = some (some v) → ls[i]? = some (some v)) (k : X sc d μ pc ls' st AH r AH') : X sc d μ pc ls st AH r AH' := ⟨k.1, fun G p l e R s m args below meth c H locs cells slots Q lsA b ad A H0 n0 s0 hC => k.2 G p l e R s m args below meth c H locs cells slots Q lsA b ad A H0 n0 s0 (Cx_ls hC ⟨hC.2.1.1, hC.2.1.2.1, fun i v h => hC.2.1.2.2 i v (hl i v h)⟩)⟩
end CL
end
section
-- ===== what follows PART A in the skeleton, up to YOUR PART: the claim's own words of the law =====
/-- the streams that the claim lets the run draw from -/
abbrev lw_cs : List Choice := [Jvm.Choice.named "NaN.bits"]
theorem lw_bits : nanBits ∈ lw_cs := by first | decide | exact List.mem_cons_self | simp [lw_cs, nanBits]
-- ===== end of PART A; then your names; then what follows =====
/-! THE CLAIM OUT OF ONE WALK OF THE LAW'S BODY. Your part is whole_start (and what it stands on); all else here is the same for every law, but numbers. -/
def R_law : String := "BarterRingsLaw"
def lw_P (b : Addr) (xs : List Int32) (args : Array Value) (s : State) : Prop := args = #[.ref b] ∧ s.IntsAt b xs ∧ xs.length ≤ 1536 ∧ (Jvm.Cond.and given_1 narrow_1).before args s = true
/-- what a walk over the start with the record d0 says of its end, said of the start itself -/
theorem lw_closed {s t : State} {o : Outcome} {d0 : Drawn} {L : List Loc} {k n : Nat} (hd0 : s.drawn.sameBut d0 lw_cs) (hv : ∃ v, o = .returned v) (hW : (s.setDrawn d0).WarmedH t.vm) (hs : (s.setDrawn d0).sameButNew ({ t with vm := s.vm } : State) L k n) : State.butDraws s t lw_cs (fun t1 => Framed s o t1 L k n) := by
  have h2 : t.drawn = d0 := congrArg State.drawn hs.1
  refine ⟨⟨hv, hW, State.sameButNew.setDrawn hs s.drawn⟩, ?_, by decide⟩
  rw [h2]
  exact hd0
def lw_Q (_ : Array Value) (s : State) (o : Outcome) (t : State) : Prop := o = .returned (some (.int 1)) ∧ State.butDraws s t lw_cs (fun t1 => Framed s o t1 [] 600000 7302250)
def lw_Z (below : List Frame) (a : Array Value) (s : State) : State → Prop := fun t => ∃ o, t.status = .running ∧ Ended t below o ∧ lw_Q a s o t
/-- the law's own end, with 1 on the stack, nothing written that was there before, its room as the claim has it; d0: the record of draws at this point (at the entry s.drawn: begin with 'refine W.base ?_' and 'have hd0 := Drawn.sameBut.refl s.drawn lw_cs') -/
theorem lw_ret {p : Program} {l : Launch} {e : Env} {s : State} {m : MethodId} {below : List Frame} {meth : Method} {c : Code} {b : Nat} {d0 : Drawn} (hd0 : s.drawn.sameBut d0 lw_cs) (hx : p.tables.exec = Jvm.exec) (hb : c.code = code) (hr : meth.sig.returnType = ret) (hlocks : meth.locks = false) {pc : Nat} {H : Heap} {ls : Array Slot} (hdg : decode code pc = .ok (.ireturn, 1)) : W p l e room_1 (s.setDrawn d0) m #[Value.ref b] below meth c H [] 600000 7302250 (lw_Z below #[Value.ref b] s) (F0 m pc ls [.int 1]) := by
  intro T hT X
  obtain ⟨fs, hret, hrun, hended, hW, hframe⟩ := X.leave (v := some (.int 1)) (hlocks := hlocks) (fun h => by rw [hr] at h; cases h)
  have hmeth' : T.vm.method? m = some meth := X.method'
  refine ⟨T.setFrames fs, ?_, .returned (some (.int 1)), hrun, hended, rfl, lw_closed hd0 ⟨_, rfl⟩ hW hframe⟩
  jvm_step X.here [X.here.top, hx, hb, hdg, hmeth', hr, ret, narrow_b1]
  (try refine ⟨rfl, ?_⟩); (try refine ⟨rfl, ?_⟩)
  first | (intro acts; rw [hret _ acts rfl rfl rfl]) | rw [hret _ _ rfl rfl rfl]
  exact Steps.refl _
/-- what holds at the law's entry: the machine, the code, the tables' words (any of lw_tbl by 'hts w (by decide +kernel)'), the script of L ints xs at the cell b, what the Statement gives of the start (any of its parts by flat_of_before) -/
def lw_At (p : Program) (s : State) (m : MethodId) (meth : Method) (c : Code) (b L : Nat) (xs : Nat → Int32) : Prop :=
  p.tables.exec = Jvm.exec ∧ c.code = code ∧ meth.sig.returnType = ret ∧ c.maxLocals = 8 ∧ s.vm.findClass R_law = some m.cls ∧ (∀ w ∈ lw_tbl, w.before #[Value.ref b] s = true) ∧ va_X b L xs s s.heap ∧ b < s.heap.size ∧ meth.locks = false ∧ (Jvm.Cond.and given_1 narrow_1).before #[Value.ref b] s = true
def m_law : Md := (code, x, 8, ret)
set_option maxRecDepth 100000 in
theorem nests_in : ∀ q ∈ nests, (Cond.methodLinkNest q.1 q.2.1 q.2.2 "BarterRings") ∈ tables_1 := List.forall_mem_cons.mpr ⟨List.mem_of_getElem? (i := 126) rfl, List.forall_mem_cons.mpr ⟨List.mem_of_getElem? (i := 141) rfl, List.forall_mem_cons.mpr ⟨List.mem_of_getElem? (i := 167) rfl, List.forall_mem_cons.mpr ⟨List.mem_of_getElem? (i := 318) rfl, List.forall_mem_cons.mpr ⟨List.mem_of_getElem? (i := 326) rfl, List.forall_mem_cons.mpr ⟨List.mem_of_getElem? (i := 363) rfl, List.forall_mem_cons.mpr ⟨List.mem_of_getElem? (i := 371) rfl, List.forall_mem_cons.mpr ⟨List.mem_of_getElem? (i := 376) rfl, List.forall_mem_cons.mpr ⟨List.mem_of_getElem? (i := 447) rfl, List.forall_mem_cons.mpr ⟨List.mem_of_getElem? (i := 515) rfl, List.forall_mem_cons.mpr ⟨List.mem_of_getElem? (i := 516) rfl, fun _ h => absurd h List.not_mem_nil⟩⟩⟩⟩⟩⟩⟩⟩⟩⟩⟩
set_option maxRecDepth 100000 in
theorem G_of {s : State} {b : Nat} (hts : ∀ w ∈ lw_tbl, w.before #[Value.ref b] s = true) : ∃ G : cG, aK G s := by
  have hW : ∀ w ∈ WA, w.before #[Value.ref b] s = true := fun w hw => hts w (List.mem_filter.mp hw).1
  have hT : ∀ (w : Cond) (i : Nat), tables_1[i]? = some w → w.before #[Value.ref b] s = true := fun w i h => hts w (List.mem_append_right _ (List.mem_of_getElem? h))
  obtain ⟨c0, i0, h0⟩ := u_known (C := RX0) (T := TX0) (N := 6) (n := 6) hW cls_ok0.2.2.1 (hT _ 140 rfl)
  obtain ⟨c1, i1, h1⟩ := u_known (C := RX1) (T := TX1) (N := 3) (n := 3) hW cls_ok1.2.2.1 (hT _ 105 rfl)
  obtain ⟨c2, i2, h2⟩ := u_known (C := RX2) (T := TX2) (N := 18) (n := 18) hW cls_ok2.2.2.1 (hT _ 21 rfl)
  obtain ⟨c3, i3, h3⟩ := u_known (C := RX3) (T := TX3) (N := 2) (n := 2) hW cls_ok3.2.2.1 (hT _ 125 rfl)
  obtain ⟨c4, i4, h4⟩ := u_known (C := RX4) (T := TX4) (N := 6) (n := 6) hW cls_ok4.2.2.1 (hT _ 166 rfl)
  obtain ⟨c5, i5, h5⟩ := u_known (C := RX5) (T := TX5) (N := 10) (n := 10) hW cls_ok5.2.2.1 (hT _ 13 rfl)
  obtain ⟨c6, i6, h6⟩ := u_known (C := RX6) (T := TX6) (N := 17) (n := 17) hW cls_ok6.2.2.1 (hT _ 619 rfl)
  obtain ⟨a0, k0, m0, p1, p2, p3⟩ := Cond.arrayClass_spec (hT (.arrayClass .int) 103 rfl)
  obtain ⟨a1, k1, m1, q1, q2, q3⟩ := Cond.arrayClass_spec (hT (.arrayClass .boolean) 164 rfl)
  obtain ⟨a2, k2, m2, r1, r2, r3⟩ := Cond.arrayClass_spec (hT (.arrayClass .char) 138 rfl)
  have hAO : va_AO "BarterRings$Market" s := va_AO.of (hT (.arrayOver (.object "BarterRings$Market")) 111 rfl)
  obtain ⟨m3, a3, k3, t1, -, t3, t4, t5⟩ := Cond.arrayOver_spec hAO
  refine ⟨(fun k => match k with | 0 => c0 | 1 => c1 | 2 => c2 | 3 => c3 | 4 => c4 | 5 => c5 | _ => c6, fun k => match k with | 0 => i0 | 1 => i1 | 2 => i2 | 3 => i3 | 4 => i4 | 5 => i5 | _ => i6, fun k => match k with | 0 => a0 | 1 => a1 | 2 => a2 | _ => a3), ⟨fun k q hq => ?_, fun k q hq => ?_⟩, fun q hq => ?_, hAO⟩
  · match k, hq with
    | 0, hq => cases hq; exact h0
    | 1, hq => cases hq; exact h1
    | 2, hq => cases hq; exact h2
    | 3, hq => cases hq; exact h3
    | 4, hq => cases hq; exact h4
    | 5, hq => cases hq; exact h5
    | 6, hq => cases hq; exact h6
    | n + 7, hq => simp [vwCl] at hq
  · match k, hq with
    | 0, hq => cases hq; exact ⟨fun n z => ⟨fun k h => (by cases h), k0, p2, m0, p3⟩, p1⟩
    | 1, hq => cases hq; exact ⟨fun n z => ⟨fun k h => (by cases h), k1, q2, m1, q3⟩, q1⟩
    | 2, hq => cases hq; exact ⟨fun n z => ⟨fun k h => (by cases h), k2, r2, m2, r3⟩, r1⟩
    | 3, hq => cases hq; exact ⟨fun n z => ⟨fun k h => (by cases h), k3, t3, m3, t4⟩, k3, m3, t3, t4, t1, t5⟩
    | n + 4, hq => simp [tysG] at hq
  · have hn : ∀ q ∈ nests, (Cond.methodLinkNest q.1 q.2.1 q.2.2 "BarterRings") ∈ tables_1 := nests_in
    exact va_Nw.of rfl (hts _ (List.mem_append_right _ (hn q hq)))
set_option maxHeartbeats 4000000 in
theorem law_of_X {p : Program} {e : Env} {s : State} {m : MethodId} {below : List Frame} {meth : Method} {c : Code} (l : Launch) {b L : Nat} {xs : Nat → Int32} (C0 : lw_At p s m meth c b L xs) {d : Nat} {AH' : List AC} (hd : d ≤ 2000) (h1 : AH'.length ≤ 600000) (h2 : csz AH' ≤ 7302250)
    (hX : X (some (L, xs)) d m_law 0 (lent 8 [.ref scrId]) [] [] (some (.int 1)) AH') : W p l e room_1 s m #[Value.ref b] below meth c s.heap [] 0 0 (lw_Z below #[Value.ref b] s) (entryFrame m ([Value.ref b] : List Value).toArray 8) := by
  obtain ⟨hx, hb, hr, hml, hown, hts, hXs, hbl, hlocks, hgv⟩ := id C0
  have hd0 := Drawn.sameBut.refl s.drawn lw_cs
  obtain ⟨G, hG⟩ := G_of hts
  have e1 : cv b [] (.ref scrId) = .ref b := by simp [cv]
  have hl := lsOK_entry (b := b) (ad := []) (as := [.ref scrId]) (n := 8) (by simp [Value.category]) (by decide)
  rw [List.map_cons, List.map_nil, e1] at hl
  rw [lg_entry_eq]
  refine hX.2 G p l e room_1 s m _ below meth c s.heap [] 0 0 _ _ b [] (fun q => s.heap.size ≤ q) s.heap 0 0 ⟨⟨hx, hb, hml, hown, fun w hw => hts w (List.mem_filter.mp hw).1, fun h => absurd h (by decide)⟩, hl, ⟨rfl, fun k q h => by simp [wsl] at h, fun i j p q h => by simp [wsl] at h, fun k q h => by simp [wsl] at h⟩, ⟨hG, hXs, hbl, Nat.not_le.mpr hbl⟩, ⟨va_S.rf, fun q h => h, fun x hx => by cases hx⟩, ⟨Nat.le_trans hd (by decide), by show 40 * d ≤ 84000; omega⟩, ⟨rfl, rfl, h1, h2⟩, fun pc' lsB st' ex H' locs' c' s' he hW' hS' hex e4 e5 => ?_⟩
  rcases he with ⟨-, -, hr, -⟩ | ⟨v, ty, hdg, rfl, hr, -, -⟩ | ⟨v, -, -, hr, -⟩ | ⟨k, C, -, -, hr, -⟩
  · cases hr
  · cases hr
    refine W.widen (k := 600000) (n := 7302250) (by omega) (by omega) ?_
    refine va_forget hS'.2.2 ?_
    exact lw_ret hd0 hx hb hr hlocks hdg
  · cases hr
  · cases hr
end
section
/-! memory of fixed shape: 95 cells, M c j the number at place j of the cell c -/
abbrev Mem : Type := Nat → Nat → Int32
abbrev Sh : Type := (Nat × List (Option Nat)) ⊕ ((Nat × Nat) ⊕ List (Option Nat))
def mkL (o : Nat) : List (Option Nat) := [some (o + 1), some (o + 2), some (o + 3), some (o + 4), some (o + 5), some (o + 6), some (o + 7), none, none, none, none, none, none, none, none, none, some (o + 8), some (o + 9)]
def mkS (o i : Nat) : Sh := match i with
  | 0 => .inl (2, mkL o)
  | 6 => .inr (.inl (0, 6))
  | 7 => .inr (.inl (0, 6))
  | _ => .inr (.inl (0, 7))
def SH (k : Nat) : Sh := match k with
  | 0 => .inl (5, [some 1, some 11, some 21, some 31, some 73, some 75, some 80, none, none, none])
  | 31 => .inl (1, [none, some 32, none])
  | 32 => .inr (.inr [some 33, some 43, some 53, some 63])
  | 73 => .inl (3, [none, some 74])
  | 74 => .inr (.inl (2, 60))
  | 75 => .inl (0, [some 76, some 77, some 78, some 79, none, none])
  | 76 => .inr (.inl (0, 7))
  | 77 => .inr (.inl (0, 128))
  | 78 => .inr (.inl (1, 128))
  | 79 => .inr (.inl (1, 128))
  | 80 => .inl (4, [some 81, some 82, some 83, none, none, none])
  | 81 => .inr (.inl (0, 7))
  | 82 => .inr (.inl (0, 7))
  | 83 => .inr (.inl (0, 7))
  | 84 => .inl (6, [some 85, some 86, some 87, none, some 88, none, some 89, none, none, none, some 90, none, some 91, some 92, some 93, some 94, none])
  | 85 => .inr (.inl (0, 57))
  | 86 => .inr (.inl (0, 57))
  | 87 => .inr (.inl (0, 228))
  | 88 => .inr (.inl (0, 57))
  | 89 => .inr (.inl (0, 60))
  | 90 => .inr (.inl (0, 7))
  | 91 => .inr (.inl (0, 7))
  | 92 => .inr (.inl (0, 8))
  | 93 => .inr (.inl (0, 7))
  | 94 => .inr (.inl (0, 7))
  | n => if n ≤ 30 then mkS (n - (n - 1) % 10) ((n - 1) % 10) else mkS (n - (n - 33) % 10) ((n - 33) % 10)
def mkF (f : Nat → Int32) : Nat → List (Option Nat) → List Value
  | _, [] => []
  | j, some r :: L => .ref r :: mkF f (j + 1) L
  | j, none :: L => .int (f j) :: mkF f (j + 1) L
def cellS (s : Sh) (f : Nat → Int32) : AC := match s with
  | .inl (ci, L) => .inl (ci, mkF f 0 L)
  | .inr (.inl (t, n)) => .inr (.inl (t, (List.range n).map f))
  | .inr (.inr rs) => .inr (.inr rs)
def NC : Nat := 95
def emb (M : Mem) : List AC := (List.range NC).map (fun k => cellS (SH k) (M k))
def updM (M : Mem) (a i : Nat) (x : Int32) : Mem := fun k j => if k = a ∧ j = i then x else M k j
theorem updM_at {M : Mem} {a i k j : Nat} {x : Int32} : updM M a i x k j = if k = a ∧ j = i then x else M k j := rfl
theorem updM_ne {M : Mem} {a i k : Nat} {x : Int32} (h : k ≠ a) : updM M a i x k = M k := by
  funext j
  simp [updM, h]
theorem updM_eq {M : Mem} {a i : Nat} {x : Int32} : updM M a i x a = upd (M a) i x := by
  funext j
  simp [updM, upd]
def cpyM (M : Mem) (a0 a n : Nat) : Mem := fun k j => if k = a ∧ j < n then M a0 j else M k j
theorem cpyM_ne {M : Mem} {a0 a n k : Nat} (h : k ≠ a) : cpyM M a0 a n k = M k := by
  funext j
  simp [cpyM, h]
abbrev Y (d : Nat) (μ : Md) (pc : Nat) (ls : List (Option Value)) (st : List Value) (M : Mem) (r : Option Value) (M' : Mem) : Prop := X none d μ pc ls st (emb M) r (emb M')
theorem emb_len {M : Mem} : (emb M).length = NC := by simp [emb]
theorem emb_get {M : Mem} {k : Nat} (h : k < NC) : (emb M)[k]? = some (cellS (SH k) (M k)) := by simp [emb, h]
theorem emb_obj {M : Mem} {k ci : Nat} {L : List (Option Nat)} (h : k < NC) (hs : SH k = .inl (ci, L)) : (emb M)[k]? = some (.inl (ci, mkF (M k) 0 L)) := by rw [emb_get h, hs]; rfl
theorem emb_arr {M : Mem} {k t n : Nat} (h : k < NC) (hs : SH k = .inr (.inl (t, n))) : (emb M)[k]? = some (.inr (.inl (t, (List.range n).map (M k)))) := by rw [emb_get h, hs]; rfl
theorem emb_set {M M' : Mem} {a : Nat} {c : AC} (hne : ∀ k, k ≠ a → M' k = M k) (hc : cellS (SH a) (M' a) = c) : (emb M).set a c = emb M' := by
  subst hc
  apply List.ext_getElem?
  intro k
  rw [List.getElem?_set]
  by_cases hk : a = k
  · subst hk
    by_cases hl : a < NC
    · simp [emb, hl]
    · simp [emb, hl]
  · rw [if_neg hk]
    simp only [emb, List.getElem?_map]
    cases hq : (List.range NC)[k]? with
    | none => rfl
    | some j =>
      have hj : j = k := by
        have := (List.getElem?_eq_some_iff.mp hq).2
        simpa using this.symm
      subst hj
      simp [hne j (Ne.symm hk)]
theorem nscr {o : Nat} (h : o < NC) : o ≠ scrId := by
  have h1 : o < 95 := h
  have h2 : scrId = 4294967296 := rfl
  omega
theorem mkF_len (f : Nat → Int32) : ∀ (L : List (Option Nat)) (j : Nat), (mkF f j L).length = L.length
  | [], _ => rfl
  | some _ :: L, j => by simp [mkF, mkF_len f L]
  | none :: L, j => by simp [mkF, mkF_len f L]
theorem mkF_int (f : Nat → Int32) : ∀ (L : List (Option Nat)) (i j : Nat), L[j]? = some none → (mkF f i L)[j]? = some (.int (f (i + j)))
  | [], _, _, h => by simp at h
  | some r :: L, i, 0, h => by simp at h
  | none :: L, i, 0, h => by simp [mkF]
  | some r :: L, i, j + 1, h => by
    simp only [List.getElem?_cons_succ] at h
    simp only [mkF, List.getElem?_cons_succ]
    rw [mkF_int f L (i + 1) j h]
    congr 3
    omega
  | none :: L, i, j + 1, h => by
    simp only [List.getElem?_cons_succ] at h
    simp only [mkF, List.getElem?_cons_succ]
    rw [mkF_int f L (i + 1) j h]
    congr 3
    omega
theorem mkF_ref (f : Nat → Int32) : ∀ (L : List (Option Nat)) (i j r : Nat), L[j]? = some (some r) → (mkF f i L)[j]? = some (.ref r)
  | [], _, _, _, h => by simp at h
  | some r :: L, i, 0, _, h => by simp at h; simp [mkF, h]
  | none :: L, i, 0, _, h => by simp at h
  | some r :: L, i, j + 1, _, h => by
    simp only [List.getElem?_cons_succ] at h
    simp only [mkF, List.getElem?_cons_succ]
    exact mkF_ref f L (i + 1) j _ h
  | none :: L, i, j + 1, _, h => by
    simp only [List.getElem?_cons_succ] at h
    simp only [mkF, List.getElem?_cons_succ]
    exact mkF_ref f L (i + 1) j _ h
theorem mkF_congr (f g : Nat → Int32) : ∀ (L : List (Option Nat)) (i : Nat), (∀ j, i ≤ j → f j = g j) → mkF f i L = mkF g i L
  | [], _, _ => rfl
  | some r :: L, i, h => by simp [mkF, mkF_congr f g L (i + 1) (fun j hj => h j (by omega))]
  | none :: L, i, h => by simp [mkF, h i (Nat.le_refl i), mkF_congr f g L (i + 1) (fun j hj => h j (by omega))]
theorem mkF_set (f : Nat → Int32) (x : Int32) : ∀ (L : List (Option Nat)) (i j : Nat), L[j]? = some none → (mkF f i L).set j (.int x) = mkF (upd f (i + j) x) i L
  | [], _, _, h => by simp at h
  | some r :: L, i, 0, h => by simp at h
  | none :: L, i, 0, h => by
    simp only [mkF, List.set_cons_zero, Nat.add_zero]
    rw [mkF_congr (upd f i x) f L (i + 1) (fun j hj => by simp [upd]; omega)]
    simp [upd]
  | some r :: L, i, j + 1, h => by
    simp only [List.getElem?_cons_succ] at h
    simp only [mkF, List.set_cons_succ, mkF_set f x L (i + 1) j h]
    congr 2
    rw [show i + 1 + j = i + (j + 1) by omega]
  | none :: L, i, j + 1, h => by
    simp only [List.getElem?_cons_succ] at h
    simp only [mkF, List.set_cons_succ, mkF_set f x L (i + 1) j h]
    rw [show i + 1 + j = i + (j + 1) by omega]
    congr 2
    simp [upd]
theorem rng_get {f : Nat → Int32} {n i : Nat} (h : i < n) : ((List.range n).map f).getD i 0 = f i := by simp [List.getD_eq_getElem?_getD, h]
theorem rng_set {f : Nat → Int32} {n i : Nat} {x : Int32} : ((List.range n).map f).set i x = (List.range n).map (upd f i x) := by
  apply List.ext_getElem?
  intro k
  rw [List.getElem?_set]
  by_cases hk : i = k
  · subst hk
    by_cases hl : i < n
    · simp [hl, upd]
    · simp [hl]
  · by_cases hl : k < n
    · simp [hk, hl, upd, Ne.symm hk]
    · simp [hk, hl]
section YR
variable {d h : Nat} {μ μ' : Md} {pc : Nat} {ls : List (Option Value)} {st as : List Value} {M M1 M' : Mem} {r r1 : Option Value}
theorem y_getI {idx ci j o : Nat} {q : vw_C} {L : List (Option Nat)} (hl : LkF μ.2.1.cls idx ci j q) (hd : decode μ.1 pc = .ok (.getfield idx, 3)) (ho : o < NC) (hs : SH o = .inl (ci, L)) (hv : L[j]? = some none) (k : Y d μ (pc + 3) ls (.int (M o j) :: st) M r M') : Y d μ pc ls (.ref o :: st) M r M' :=
  x_getf hl hd (nscr ho) (emb_obj ho hs) (by rw [mkF_int _ _ _ _ hv, Nat.zero_add]) k
theorem y_getR {idx ci j o o' : Nat} {q : vw_C} {L : List (Option Nat)} (hl : LkF μ.2.1.cls idx ci j q) (hd : decode μ.1 pc = .ok (.getfield idx, 3)) (ho : o < NC) (hs : SH o = .inl (ci, L)) (hv : L[j]? = some (some o')) (k : Y d μ (pc + 3) ls (.ref o' :: st) M r M') : Y d μ pc ls (.ref o :: st) M r M' :=
  x_getf hl hd (nscr ho) (emb_obj ho hs) (mkF_ref _ _ _ _ _ hv) k
theorem y_putI {idx ci j o : Nat} {q : vw_C} {L : List (Option Nat)} {x : Int32} (hl : LkF μ.2.1.cls idx ci j q) (hd : decode μ.1 pc = .ok (.putfield idx, 3)) (ho : o < NC) (hs : SH o = .inl (ci, L)) (hv : L[j]? = some none) (hfin : (q.2.1 j).2.2.2 = false) (h1 : narrow (cty ci j) (.int x) = .int x) (h2 : fits (cty ci j) (.int x) = true) (k : Y d μ (pc + 3) ls st (updM M o j x) r M') : Y d μ pc ls (.int x :: .ref o :: st) M r M' := by
  refine x_putI hl hd (nscr ho) (emb_obj ho hs) (by rw [mkF_len]; exact (List.getElem?_eq_some_iff.mp hv).1) hfin h1 h2 ?_
  rw [mkF_set _ _ _ _ _ hv, Nat.zero_add, emb_set (M' := updM M o j x) (fun k hk => updM_ne hk) (by rw [hs, updM_eq]; rfl)]
  exact k
theorem y_iald {a n : Nat} {i : Int32} (hd : decode μ.1 pc = .ok (.iaload, 1)) (ha : a < NC) (hs : SH a = .inr (.inl (0, n))) (hi : vp_in i n) (k : Y d μ (pc + 1) ls (.int (M a i.toNatClampNeg) :: st) M r M') : Y d μ pc ls (.int i :: .ref a :: st) M r M' :=
  x_iaload hd (nscr ha) (emb_arr ha hs) (by simpa using hi) (by rw [rng_get (vp_in_lt hi)]; exact k)
theorem y_bald {a n : Nat} {i : Int32} (hd : decode μ.1 pc = .ok (.baload, 1)) (ha : a < NC) (hs : SH a = .inr (.inl (1, n))) (hi : vp_in i n) (k : Y d μ (pc + 1) ls (.int (M a i.toNatClampNeg) :: st) M r M') : Y d μ pc ls (.int i :: .ref a :: st) M r M' :=
  x_baload hd (nscr ha) (emb_arr ha hs) (by simpa using hi) (by rw [rng_get (vp_in_lt hi)]; exact k)
theorem y_cald {a n : Nat} {i : Int32} (hd : decode μ.1 pc = .ok (.caload, 1)) (ha : a < NC) (hs : SH a = .inr (.inl (2, n))) (hi : vp_in i n) (k : Y d μ (pc + 1) ls (.int (M a i.toNatClampNeg) :: st) M r M') : Y d μ pc ls (.int i :: .ref a :: st) M r M' :=
  x_caload hd (nscr ha) (emb_arr ha hs) (by simpa using hi) (by rw [rng_get (vp_in_lt hi)]; exact k)
theorem y_iast {a n : Nat} {i x : Int32} (hd : decode μ.1 pc = .ok (.iastore, 1)) (ha : a < NC) (hs : SH a = .inr (.inl (0, n))) (hi : vp_in i n) (k : Y d μ (pc + 1) ls st (updM M a i.toNatClampNeg x) r M') : Y d μ pc ls (.int x :: .int i :: .ref a :: st) M r M' := by
  refine x_iastore hd (nscr ha) (emb_arr ha hs) (by simpa using hi) ?_
  rw [rng_set, emb_set (M' := updM M a i.toNatClampNeg x) (fun k hk => updM_ne hk) (by rw [hs, updM_eq]; rfl)]
  exact k
theorem y_bast {a n : Nat} {i x : Int32} (hd : decode μ.1 pc = .ok (.bastore, 1)) (ha : a < NC) (hs : SH a = .inr (.inl (1, n))) (hi : vp_in i n) (k : Y d μ (pc + 1) ls st (updM M a i.toNatClampNeg (x &&& 1)) r M') : Y d μ pc ls (.int x :: .int i :: .ref a :: st) M r M' := by
  refine x_bastore hd (nscr ha) (emb_arr ha hs) (by simpa using hi) ?_
  rw [show vp_nar .boolean x = x &&& 1 from rfl, rng_set, emb_set (M' := updM M a i.toNatClampNeg (x &&& 1)) (fun k hk => updM_ne hk) (by rw [hs, updM_eq]; rfl)]
  exact k
theorem y_cast {a n : Nat} {i x : Int32} (hd : decode μ.1 pc = .ok (.castore, 1)) (ha : a < NC) (hs : SH a = .inr (.inl (2, n))) (hi : vp_in i n) (k : Y d μ (pc + 1) ls st (updM M a i.toNatClampNeg (vp_nar .char x)) r M') : Y d μ pc ls (.int x :: .int i :: .ref a :: st) M r M' := by
  refine x_castore hd (nscr ha) (emb_arr ha hs) (by simpa using hi) ?_
  rw [rng_set, emb_set (M' := updM M a i.toNatClampNeg (vp_nar .char x)) (fun k hk => updM_ne hk) (by rw [hs, updM_eq]; rfl)]
  exact k
theorem y_alen {a n t : Nat} (ht : t < 3) (hd : decode μ.1 pc = .ok (.arraylength, 1)) (ha : a < NC) (hs : SH a = .inr (.inl (t, n))) (k : Y d μ (pc + 1) ls (.int (nI n) :: st) M r M') : Y d μ pc ls (.ref a :: st) M r M' :=
  x_alen ht hd (nscr ha) (emb_arr ha hs) (by simp only [List.length_map, List.length_range]; exact k)
theorem y_aald {a k0 : Nat} {i : Int32} {rs : List (Option Nat)} (hd : decode μ.1 pc = .ok (.aaload, 1)) (ha : a < NC) (hs : SH a = .inr (.inr rs)) (hn0 : k0 < NC) (hi : vp_in i rs.length) (hk : rs.getD i.toNatClampNeg none = some k0) (k : Y d μ (pc + 1) ls (.ref k0 :: st) M r M') : Y d μ pc ls (.int i :: .ref a :: st) M r M' :=
  x_aaload hd (nscr ha) (nscr hn0) (by rw [emb_get ha, hs]; rfl) hi hk k
theorem y_copy {idx a0 a n0 n1 : Nat} {n : Int32} (hd : decode μ.1 pc = .ok (.invokestatic idx, 3)) (hw : Cond.methodLink μ.2.1.cls idx arraycopyName ∈ WA) (hdd : 1 ≤ d) (h0 : a0 < NC) (ha : a < NC) (hs0 : SH a0 = .inr (.inl (0, n0))) (hs : SH a = .inr (.inl (0, n1))) (h3 : ¬ n < 0) (h4 : n.toNatClampNeg ≤ n0) (h5 : n.toNatClampNeg ≤ n1) (hst : (st.map fun v => v.category).sum ≤ 8)
    (k : Y d μ (pc + 3) ls st (cpyM M a0 a n.toNatClampNeg) r M') : Y d μ pc ls (.int n :: .int 0 :: .ref a :: .int 0 :: .ref a0 :: st) M r M' := by
  have z : (0 : Int32).toNatClampNeg = 0 := by decide
  refine x_copy hd hw hdd (nscr h0) (nscr ha) (emb_arr h0 hs0) (emb_arr ha hs) (by decide) (by decide) h3 (by rw [z]; simpa using h4) (by rw [z]; simpa using h5) hst ?_
  have e : cpL ((List.range n0).map (M a0)) ((List.range n1).map (M a)) (0 : Int32).toNatClampNeg (0 : Int32).toNatClampNeg n.toNatClampNeg = (List.range n1).map (cpyM M a0 a n.toNatClampNeg a) := by
    rw [z]
    apply List.ext_getElem?
    intro j
    simp only [cpL, List.getElem?_map, List.length_map, List.length_range, Nat.zero_add, Nat.sub_zero, Nat.zero_le, true_and]
    by_cases hj : j < n1
    · rw [List.getElem?_range hj]
      simp only [Option.map_some, Option.some.injEq, cpyM, true_and]
      by_cases hq : j < n.toNatClampNeg
      · rw [if_pos hq, if_pos hq, rng_get (by omega)]
      · rw [if_neg hq, if_neg hq, rng_get hj]
    · simp [hj]
  rw [e, emb_set (M' := cpyM M a0 a n.toNatClampNeg) (fun k hk => cpyM_ne hk) (by rw [hs]; rfl)]
  exact k
theorem y_callV {idx n o ci : Nat} {L : List (Option Nat)} {stk : List Value} {q : vw_C} (hm : MdV μ' n) (hw : (Cond.methodLink μ.2.1.cls idx μ'.2.1) ∈ WA) (hd : decode μ.1 pc = .ok (.invokevirtual idx, 3)) (hs : stk = as.reverse ++ .ref o :: st) (ho : o < NC) (hsh : SH o = .inl (ci, L)) (hX : Y h μ' 0 (lent μ'.2.2.1 (.ref o :: as)) [] M r1 M1) (hh : h + 1 ≤ d) (hn : as.length = n) (hc : ∀ v ∈ as, v.category = 1) (hl : as.length + 1 ≤ μ'.2.2.1) (hq : vwCl[ci]? = some q) (hcq : μ'.2.1.cls = q.1) (hst : (st.map fun v => v.category).sum ≤ 8) (k : Y d μ (pc + 3) ls (r1.toList ++ st) M1 r M') : Y d μ pc ls stk M r M' :=
  x_callV hm hw hd hs hX hh hn hc hl (nscr ho) (emb_obj ho hsh) hq hcq hst (Or.inl (by rw [emb_len, emb_len])) k
theorem y_callS {idx n : Nat} {stk : List Value} (hm : MdS μ' n) (hw : (Cond.methodLink μ.2.1.cls idx μ'.2.1) ∈ WA) (hd : decode μ.1 pc = .ok (.invokestatic idx, 3)) (hs : stk = as.reverse ++ st) (hX : Y h μ' 0 (lent μ'.2.2.1 as) [] M r1 M1) (hh : h + 1 ≤ d) (hn : as.length = n) (hc : ∀ v ∈ as, v.category = 1) (hl : as.length ≤ μ'.2.2.1) (hst : (st.map fun v => v.category).sum ≤ 8) (k : Y d μ (pc + 3) ls (r1.toList ++ st) M1 r M') : Y d μ pc ls stk M r M' :=
  x_callS hm hw hd hs hX hh hn hc hl hst (Or.inl (by rw [emb_len, emb_len])) k
theorem y_callSN {idx n : Nat} {stk : List Value} (hm : MdS μ' n) (hw : (μ.2.1.cls, idx, μ'.2.1) ∈ nests) (hd : decode μ.1 pc = .ok (.invokestatic idx, 3)) (hs : stk = as.reverse ++ st) (hX : Y h μ' 0 (lent μ'.2.2.1 as) [] M r1 M1) (hh : h + 1 ≤ d) (hn : as.length = n) (hc : ∀ v ∈ as, v.category = 1) (hl : as.length ≤ μ'.2.2.1) (hst : (st.map fun v => v.category).sum ≤ 8) (k : Y d μ (pc + 3) ls (r1.toList ++ st) M1 r M') : Y d μ pc ls stk M r M' :=
  x_callSN hm hw hd hs hX hh hn hc hl hst (Or.inl (by rw [emb_len, emb_len])) k
theorem y_ret {v w : Int32} {ty : FieldType} (hd : decode μ.1 pc = .ok (.ireturn, 1)) (hr : μ.2.2.2 = some ty) (hn : narrow ty (.int v) = .int v) (hv : v = w) (hM : M = M') : Y d μ pc ls [.int v] M (some (.int w)) M' := by
  subst hv; subst hM
  exact x_ireturn hd hr hn
theorem y_vret (hd : decode μ.1 pc = .ok (.return_, 1)) (hr : μ.2.2.2 = none) (hM : M = M') : Y d μ pc ls [] M none M' := by
  subst hM
  exact x_return hd hr
end YR
end
section
theorem dX0_init_0 : decode cX0_init 0 = .ok (.aload_n 0, 1) := by decide +kernel
theorem dX0_init_1 : decode cX0_init 1 = .ok (.invokespecial 3, 3) := by decide +kernel
theorem dX0_init_4 : decode cX0_init 4 = .ok (.aload_n 0, 1) := by decide +kernel
theorem dX0_init_5 : decode cX0_init 5 = .ok (.bipush 7, 2) := by decide +kernel
theorem dX0_init_7 : decode cX0_init 7 = .ok (.newarray .int, 2) := by decide +kernel
theorem dX0_init_9 : decode cX0_init 9 = .ok (.putfield 9, 3) := by decide +kernel
theorem dX0_init_12 : decode cX0_init 12 = .ok (.aload_n 0, 1) := by decide +kernel
theorem dX0_init_13 : decode cX0_init 13 = .ok (.sipush 128, 3) := by decide +kernel
theorem dX0_init_16 : decode cX0_init 16 = .ok (.newarray .int, 2) := by decide +kernel
theorem dX0_init_18 : decode cX0_init 18 = .ok (.putfield 15, 3) := by decide +kernel
theorem dX0_init_21 : decode cX0_init 21 = .ok (.aload_n 0, 1) := by decide +kernel
theorem dX0_init_22 : decode cX0_init 22 = .ok (.sipush 128, 3) := by decide +kernel
theorem dX0_init_25 : decode cX0_init 25 = .ok (.newarray .boolean, 2) := by decide +kernel
theorem dX0_init_27 : decode cX0_init 27 = .ok (.putfield 18, 3) := by decide +kernel
theorem dX0_init_30 : decode cX0_init 30 = .ok (.aload_n 0, 1) := by decide +kernel
theorem dX0_init_31 : decode cX0_init 31 = .ok (.sipush 128, 3) := by decide +kernel
theorem dX0_init_34 : decode cX0_init 34 = .ok (.newarray .boolean, 2) := by decide +kernel
theorem dX0_init_36 : decode cX0_init 36 = .ok (.putfield 22, 3) := by decide +kernel
theorem dX0_init_39 : decode cX0_init 39 = .ok (.return_, 1) := by decide +kernel
theorem dX0_mostTraders_0 : decode cX0_mostTraders 0 = .ok (.aload_n 0, 1) := by decide +kernel
theorem dX0_mostTraders_1 : decode cX0_mostTraders 1 = .ok (.aload_n 1, 1) := by decide +kernel
theorem dX0_mostTraders_2 : decode cX0_mostTraders 2 = .ok (.invokevirtual 25, 3) := by decide +kernel
theorem dX0_mostTraders_5 : decode cX0_mostTraders 5 = .ok (.aload_n 0, 1) := by decide +kernel
theorem dX0_mostTraders_6 : decode cX0_mostTraders 6 = .ok (.invokevirtual 29, 3) := by decide +kernel
theorem dX0_mostTraders_9 : decode cX0_mostTraders 9 = .ok (.aload_n 0, 1) := by decide +kernel
theorem dX0_mostTraders_10 : decode cX0_mostTraders 10 = .ok (.iload_n 2, 1) := by decide +kernel
theorem dX0_mostTraders_11 : decode cX0_mostTraders 11 = .ok (.invokevirtual 32, 3) := by decide +kernel
theorem dX0_mostTraders_14 : decode cX0_mostTraders 14 = .ok (.aload_n 0, 1) := by decide +kernel
theorem dX0_mostTraders_15 : decode cX0_mostTraders 15 = .ok (.invokevirtual 36, 3) := by decide +kernel
theorem dX0_mostTraders_18 : decode cX0_mostTraders 18 = .ok (.ireturn, 1) := by decide +kernel
theorem dX0_readTakers_0 : decode cX0_readTakers 0 = .ok (.aload_n 0, 1) := by decide +kernel
theorem dX0_readTakers_1 : decode cX0_readTakers 1 = .ok (.iconst 0, 1) := by decide +kernel
theorem dX0_readTakers_2 : decode cX0_readTakers 2 = .ok (.aload_n 1, 1) := by decide +kernel
theorem dX0_readTakers_3 : decode cX0_readTakers 3 = .ok (.getfield 40, 3) := by decide +kernel
theorem dX0_readTakers_6 : decode cX0_readTakers 6 = .ok (.bipush 7, 2) := by decide +kernel
theorem dX0_readTakers_8 : decode cX0_readTakers 8 = .ok (.invokestatic 46, 3) := by decide +kernel
theorem dX0_readTakers_11 : decode cX0_readTakers 11 = .ok (.invokestatic 52, 3) := by decide +kernel
theorem dX0_readTakers_14 : decode cX0_readTakers 14 = .ok (.putfield 55, 3) := by decide +kernel
theorem dX0_readTakers_17 : decode cX0_readTakers 17 = .ok (.aload_n 0, 1) := by decide +kernel
theorem dX0_readTakers_18 : decode cX0_readTakers 18 = .ok (.iconst 1, 1) := by decide +kernel
theorem dX0_readTakers_19 : decode cX0_readTakers 19 = .ok (.aload_n 0, 1) := by decide +kernel
theorem dX0_readTakers_20 : decode cX0_readTakers 20 = .ok (.getfield 55, 3) := by decide +kernel
theorem dX0_readTakers_23 : decode cX0_readTakers 23 = .ok (.ishl, 1) := by decide +kernel
theorem dX0_readTakers_24 : decode cX0_readTakers 24 = .ok (.putfield 56, 3) := by decide +kernel
theorem dX0_readTakers_27 : decode cX0_readTakers 27 = .ok (.aload_n 0, 1) := by decide +kernel
theorem dX0_readTakers_28 : decode cX0_readTakers 28 = .ok (.getfield 9, 3) := by decide +kernel
theorem dX0_readTakers_31 : decode cX0_readTakers 31 = .ok (.iconst 0, 1) := by decide +kernel
theorem dX0_readTakers_32 : decode cX0_readTakers 32 = .ok (.invokestatic 59, 3) := by decide +kernel
theorem dX0_readTakers_35 : decode cX0_readTakers 35 = .ok (.iconst 0, 1) := by decide +kernel
theorem dX0_readTakers_36 : decode cX0_readTakers 36 = .ok (.istore_n 2, 1) := by decide +kernel
theorem dX0_readTakers_37 : decode cX0_readTakers 37 = .ok (.iload_n 2, 1) := by decide +kernel
theorem dX0_readTakers_38 : decode cX0_readTakers 38 = .ok (.aload_n 0, 1) := by decide +kernel
theorem dX0_readTakers_39 : decode cX0_readTakers 39 = .ok (.getfield 55, 3) := by decide +kernel
theorem dX0_readTakers_42 : decode cX0_readTakers 42 = .ok (.if_icmp .ge 60, 3) := by decide +kernel
theorem dX0_readTakers_45 : decode cX0_readTakers 45 = .ok (.aload_n 1, 1) := by decide +kernel
theorem dX0_readTakers_46 : decode cX0_readTakers 46 = .ok (.iload_n 2, 1) := by decide +kernel
theorem dX0_readTakers_47 : decode cX0_readTakers 47 = .ok (.invokevirtual 65, 3) := by decide +kernel
theorem dX0_readTakers_50 : decode cX0_readTakers 50 = .ok (.istore_n 3, 1) := by decide +kernel
theorem dX0_readTakers_51 : decode cX0_readTakers 51 = .ok (.iconst 0, 1) := by decide +kernel
theorem dX0_readTakers_52 : decode cX0_readTakers 52 = .ok (.istore 4, 2) := by decide +kernel
theorem dX0_readTakers_54 : decode cX0_readTakers 54 = .ok (.iload 4, 2) := by decide +kernel
theorem dX0_readTakers_56 : decode cX0_readTakers 56 = .ok (.aload_n 0, 1) := by decide +kernel
theorem dX0_readTakers_57 : decode cX0_readTakers 57 = .ok (.getfield 55, 3) := by decide +kernel
theorem dX0_readTakers_60 : decode cX0_readTakers 60 = .ok (.if_icmp .ge 36, 3) := by decide +kernel
theorem dX0_readTakers_63 : decode cX0_readTakers 63 = .ok (.iload_n 3, 1) := by decide +kernel
theorem dX0_readTakers_64 : decode cX0_readTakers 64 = .ok (.iload 4, 2) := by decide +kernel
theorem dX0_readTakers_66 : decode cX0_readTakers 66 = .ok (.invokestatic 69, 3) := by decide +kernel
theorem dX0_readTakers_69 : decode cX0_readTakers 69 = .ok (.ifCond .eq 21, 3) := by decide +kernel
theorem dX0_readTakers_72 : decode cX0_readTakers 72 = .ok (.aload_n 0, 1) := by decide +kernel
theorem dX0_readTakers_73 : decode cX0_readTakers 73 = .ok (.getfield 9, 3) := by decide +kernel
theorem dX0_readTakers_76 : decode cX0_readTakers 76 = .ok (.iload 4, 2) := by decide +kernel
theorem dX0_readTakers_78 : decode cX0_readTakers 78 = .ok (.aload_n 0, 1) := by decide +kernel
theorem dX0_readTakers_79 : decode cX0_readTakers 79 = .ok (.getfield 9, 3) := by decide +kernel
theorem dX0_readTakers_82 : decode cX0_readTakers 82 = .ok (.iload 4, 2) := by decide +kernel
theorem dX0_readTakers_84 : decode cX0_readTakers 84 = .ok (.iaload, 1) := by decide +kernel
theorem dX0_readTakers_85 : decode cX0_readTakers 85 = .ok (.iload_n 2, 1) := by decide +kernel
theorem dX0_readTakers_86 : decode cX0_readTakers 86 = .ok (.invokestatic 73, 3) := by decide +kernel
theorem dX0_readTakers_89 : decode cX0_readTakers 89 = .ok (.iastore, 1) := by decide +kernel
theorem dX0_readTakers_90 : decode cX0_readTakers 90 = .ok (.iinc 4 1, 3) := by decide +kernel
theorem dX0_readTakers_93 : decode cX0_readTakers 93 = .ok (.goto (-39), 3) := by decide +kernel
theorem dX0_readTakers_96 : decode cX0_readTakers 96 = .ok (.iinc 2 1, 3) := by decide +kernel
theorem dX0_readTakers_99 : decode cX0_readTakers 99 = .ok (.goto (-62), 3) := by decide +kernel
theorem dX0_readTakers_102 : decode cX0_readTakers 102 = .ok (.return_, 1) := by decide +kernel
theorem dX0_findChains_0 : decode cX0_findChains 0 = .ok (.aload_n 0, 1) := by decide +kernel
theorem dX0_findChains_1 : decode cX0_findChains 1 = .ok (.getfield 15, 3) := by decide +kernel
theorem dX0_findChains_4 : decode cX0_findChains 4 = .ok (.iconst 0, 1) := by decide +kernel
theorem dX0_findChains_5 : decode cX0_findChains 5 = .ok (.invokestatic 59, 3) := by decide +kernel
theorem dX0_findChains_8 : decode cX0_findChains 8 = .ok (.iconst 0, 1) := by decide +kernel
theorem dX0_findChains_9 : decode cX0_findChains 9 = .ok (.istore_n 1, 1) := by decide +kernel
theorem dX0_findChains_10 : decode cX0_findChains 10 = .ok (.iload_n 1, 1) := by decide +kernel
theorem dX0_findChains_11 : decode cX0_findChains 11 = .ok (.aload_n 0, 1) := by decide +kernel
theorem dX0_findChains_12 : decode cX0_findChains 12 = .ok (.getfield 55, 3) := by decide +kernel
theorem dX0_findChains_15 : decode cX0_findChains 15 = .ok (.if_icmp .ge 20, 3) := by decide +kernel
theorem dX0_findChains_18 : decode cX0_findChains 18 = .ok (.aload_n 0, 1) := by decide +kernel
theorem dX0_findChains_19 : decode cX0_findChains 19 = .ok (.getfield 15, 3) := by decide +kernel
theorem dX0_findChains_22 : decode cX0_findChains 22 = .ok (.iconst 1, 1) := by decide +kernel
theorem dX0_findChains_23 : decode cX0_findChains 23 = .ok (.iload_n 1, 1) := by decide +kernel
theorem dX0_findChains_24 : decode cX0_findChains 24 = .ok (.ishl, 1) := by decide +kernel
theorem dX0_findChains_25 : decode cX0_findChains 25 = .ok (.iconst 1, 1) := by decide +kernel
theorem dX0_findChains_26 : decode cX0_findChains 26 = .ok (.iload_n 1, 1) := by decide +kernel
theorem dX0_findChains_27 : decode cX0_findChains 27 = .ok (.ishl, 1) := by decide +kernel
theorem dX0_findChains_28 : decode cX0_findChains 28 = .ok (.iastore, 1) := by decide +kernel
theorem dX0_findChains_29 : decode cX0_findChains 29 = .ok (.iinc 1 1, 3) := by decide +kernel
theorem dX0_findChains_32 : decode cX0_findChains 32 = .ok (.goto (-22), 3) := by decide +kernel
theorem dX0_findChains_35 : decode cX0_findChains 35 = .ok (.iconst 1, 1) := by decide +kernel
theorem dX0_findChains_36 : decode cX0_findChains 36 = .ok (.istore_n 1, 1) := by decide +kernel
theorem dX0_findChains_37 : decode cX0_findChains 37 = .ok (.iload_n 1, 1) := by decide +kernel
theorem dX0_findChains_38 : decode cX0_findChains 38 = .ok (.aload_n 0, 1) := by decide +kernel
theorem dX0_findChains_39 : decode cX0_findChains 39 = .ok (.getfield 56, 3) := by decide +kernel
theorem dX0_findChains_42 : decode cX0_findChains 42 = .ok (.if_icmp .ge 76, 3) := by decide +kernel
theorem dX0_findChains_45 : decode cX0_findChains 45 = .ok (.iload_n 1, 1) := by decide +kernel
theorem dX0_findChains_46 : decode cX0_findChains 46 = .ok (.invokestatic 76, 3) := by decide +kernel
theorem dX0_findChains_49 : decode cX0_findChains 49 = .ok (.iconst 1, 1) := by decide +kernel
theorem dX0_findChains_50 : decode cX0_findChains 50 = .ok (.iadd, 1) := by decide +kernel
theorem dX0_findChains_51 : decode cX0_findChains 51 = .ok (.istore_n 2, 1) := by decide +kernel
theorem dX0_findChains_52 : decode cX0_findChains 52 = .ok (.iload_n 2, 1) := by decide +kernel
theorem dX0_findChains_53 : decode cX0_findChains 53 = .ok (.aload_n 0, 1) := by decide +kernel
theorem dX0_findChains_54 : decode cX0_findChains 54 = .ok (.getfield 55, 3) := by decide +kernel
theorem dX0_findChains_57 : decode cX0_findChains 57 = .ok (.if_icmp .ge 55, 3) := by decide +kernel
theorem dX0_findChains_60 : decode cX0_findChains 60 = .ok (.iload_n 1, 1) := by decide +kernel
theorem dX0_findChains_61 : decode cX0_findChains 61 = .ok (.iload_n 2, 1) := by decide +kernel
theorem dX0_findChains_62 : decode cX0_findChains 62 = .ok (.invokestatic 69, 3) := by decide +kernel
theorem dX0_findChains_65 : decode cX0_findChains 65 = .ok (.ifCond .ne 41, 3) := by decide +kernel
theorem dX0_findChains_68 : decode cX0_findChains 68 = .ok (.aload_n 0, 1) := by decide +kernel
theorem dX0_findChains_69 : decode cX0_findChains 69 = .ok (.getfield 15, 3) := by decide +kernel
theorem dX0_findChains_72 : decode cX0_findChains 72 = .ok (.iload_n 1, 1) := by decide +kernel
theorem dX0_findChains_73 : decode cX0_findChains 73 = .ok (.iaload, 1) := by decide +kernel
theorem dX0_findChains_74 : decode cX0_findChains 74 = .ok (.aload_n 0, 1) := by decide +kernel
theorem dX0_findChains_75 : decode cX0_findChains 75 = .ok (.getfield 9, 3) := by decide +kernel
theorem dX0_findChains_78 : decode cX0_findChains 78 = .ok (.iload_n 2, 1) := by decide +kernel
theorem dX0_findChains_79 : decode cX0_findChains 79 = .ok (.iaload, 1) := by decide +kernel
theorem dX0_findChains_80 : decode cX0_findChains 80 = .ok (.iand, 1) := by decide +kernel
theorem dX0_findChains_81 : decode cX0_findChains 81 = .ok (.ifCond .eq 25, 3) := by decide +kernel
theorem dX0_findChains_84 : decode cX0_findChains 84 = .ok (.iload_n 1, 1) := by decide +kernel
theorem dX0_findChains_85 : decode cX0_findChains 85 = .ok (.iload_n 2, 1) := by decide +kernel
theorem dX0_findChains_86 : decode cX0_findChains 86 = .ok (.invokestatic 73, 3) := by decide +kernel
theorem dX0_findChains_89 : decode cX0_findChains 89 = .ok (.istore_n 3, 1) := by decide +kernel
theorem dX0_findChains_90 : decode cX0_findChains 90 = .ok (.aload_n 0, 1) := by decide +kernel
theorem dX0_findChains_91 : decode cX0_findChains 91 = .ok (.getfield 15, 3) := by decide +kernel
theorem dX0_findChains_94 : decode cX0_findChains 94 = .ok (.iload_n 3, 1) := by decide +kernel
theorem dX0_findChains_95 : decode cX0_findChains 95 = .ok (.aload_n 0, 1) := by decide +kernel
theorem dX0_findChains_96 : decode cX0_findChains 96 = .ok (.getfield 15, 3) := by decide +kernel
theorem dX0_findChains_99 : decode cX0_findChains 99 = .ok (.iload_n 3, 1) := by decide +kernel
theorem dX0_findChains_100 : decode cX0_findChains 100 = .ok (.iaload, 1) := by decide +kernel
theorem dX0_findChains_101 : decode cX0_findChains 101 = .ok (.iload_n 2, 1) := by decide +kernel
theorem dX0_findChains_102 : decode cX0_findChains 102 = .ok (.invokestatic 73, 3) := by decide +kernel
theorem dX0_findChains_105 : decode cX0_findChains 105 = .ok (.iastore, 1) := by decide +kernel
theorem dX0_findChains_106 : decode cX0_findChains 106 = .ok (.iinc 2 1, 3) := by decide +kernel
theorem dX0_findChains_109 : decode cX0_findChains 109 = .ok (.goto (-57), 3) := by decide +kernel
theorem dX0_findChains_112 : decode cX0_findChains 112 = .ok (.iinc 1 1, 3) := by decide +kernel
theorem dX0_findChains_115 : decode cX0_findChains 115 = .ok (.goto (-78), 3) := by decide +kernel
theorem dX0_findChains_118 : decode cX0_findChains 118 = .ok (.return_, 1) := by decide +kernel
theorem dX0_findCircles_0 : decode cX0_findCircles 0 = .ok (.iconst 1, 1) := by decide +kernel
theorem dX0_findCircles_1 : decode cX0_findCircles 1 = .ok (.istore_n 2, 1) := by decide +kernel
theorem dX0_findCircles_2 : decode cX0_findCircles 2 = .ok (.iload_n 2, 1) := by decide +kernel
theorem dX0_findCircles_3 : decode cX0_findCircles 3 = .ok (.aload_n 0, 1) := by decide +kernel
theorem dX0_findCircles_4 : decode cX0_findCircles 4 = .ok (.getfield 56, 3) := by decide +kernel
theorem dX0_findCircles_7 : decode cX0_findCircles 7 = .ok (.if_icmp .ge 54, 3) := by decide +kernel
theorem dX0_findCircles_10 : decode cX0_findCircles 10 = .ok (.iload_n 2, 1) := by decide +kernel
theorem dX0_findCircles_11 : decode cX0_findCircles 11 = .ok (.invokestatic 79, 3) := by decide +kernel
theorem dX0_findCircles_14 : decode cX0_findCircles 14 = .ok (.istore_n 3, 1) := by decide +kernel
theorem dX0_findCircles_15 : decode cX0_findCircles 15 = .ok (.aload_n 0, 1) := by decide +kernel
theorem dX0_findCircles_16 : decode cX0_findCircles 16 = .ok (.getfield 18, 3) := by decide +kernel
theorem dX0_findCircles_19 : decode cX0_findCircles 19 = .ok (.iload_n 2, 1) := by decide +kernel
theorem dX0_findCircles_20 : decode cX0_findCircles 20 = .ok (.iload_n 3, 1) := by decide +kernel
theorem dX0_findCircles_21 : decode cX0_findCircles 21 = .ok (.iconst 2, 1) := by decide +kernel
theorem dX0_findCircles_22 : decode cX0_findCircles 22 = .ok (.if_icmp .lt 31, 3) := by decide +kernel
theorem dX0_findCircles_25 : decode cX0_findCircles 25 = .ok (.iload_n 3, 1) := by decide +kernel
theorem dX0_findCircles_26 : decode cX0_findCircles 26 = .ok (.iload_n 1, 1) := by decide +kernel
theorem dX0_findCircles_27 : decode cX0_findCircles 27 = .ok (.if_icmp .gt 26, 3) := by decide +kernel
theorem dX0_findCircles_30 : decode cX0_findCircles 30 = .ok (.aload_n 0, 1) := by decide +kernel
theorem dX0_findCircles_31 : decode cX0_findCircles 31 = .ok (.getfield 15, 3) := by decide +kernel
theorem dX0_findCircles_34 : decode cX0_findCircles 34 = .ok (.iload_n 2, 1) := by decide +kernel
theorem dX0_findCircles_35 : decode cX0_findCircles 35 = .ok (.iaload, 1) := by decide +kernel
theorem dX0_findCircles_36 : decode cX0_findCircles 36 = .ok (.aload_n 0, 1) := by decide +kernel
theorem dX0_findCircles_37 : decode cX0_findCircles 37 = .ok (.getfield 9, 3) := by decide +kernel
theorem dX0_findCircles_40 : decode cX0_findCircles 40 = .ok (.iload_n 2, 1) := by decide +kernel
theorem dX0_findCircles_41 : decode cX0_findCircles 41 = .ok (.invokestatic 76, 3) := by decide +kernel
theorem dX0_findCircles_44 : decode cX0_findCircles 44 = .ok (.iaload, 1) := by decide +kernel
theorem dX0_findCircles_45 : decode cX0_findCircles 45 = .ok (.iand, 1) := by decide +kernel
theorem dX0_findCircles_46 : decode cX0_findCircles 46 = .ok (.ifCond .eq 7, 3) := by decide +kernel
theorem dX0_findCircles_49 : decode cX0_findCircles 49 = .ok (.iconst 1, 1) := by decide +kernel
theorem dX0_findCircles_50 : decode cX0_findCircles 50 = .ok (.goto 4, 3) := by decide +kernel
theorem dX0_findCircles_53 : decode cX0_findCircles 53 = .ok (.iconst 0, 1) := by decide +kernel
theorem dX0_findCircles_54 : decode cX0_findCircles 54 = .ok (.bastore, 1) := by decide +kernel
theorem dX0_findCircles_55 : decode cX0_findCircles 55 = .ok (.iinc 2 1, 3) := by decide +kernel
theorem dX0_findCircles_58 : decode cX0_findCircles 58 = .ok (.goto (-56), 3) := by decide +kernel
theorem dX0_findCircles_61 : decode cX0_findCircles 61 = .ok (.return_, 1) := by decide +kernel
theorem dX0_findBarters_0 : decode cX0_findBarters 0 = .ok (.iconst 0, 1) := by decide +kernel
theorem dX0_findBarters_1 : decode cX0_findBarters 1 = .ok (.istore_n 1, 1) := by decide +kernel
theorem dX0_findBarters_2 : decode cX0_findBarters 2 = .ok (.aload_n 0, 1) := by decide +kernel
theorem dX0_findBarters_3 : decode cX0_findBarters 3 = .ok (.getfield 22, 3) := by decide +kernel
theorem dX0_findBarters_6 : decode cX0_findBarters 6 = .ok (.iconst 0, 1) := by decide +kernel
theorem dX0_findBarters_7 : decode cX0_findBarters 7 = .ok (.iconst 1, 1) := by decide +kernel
theorem dX0_findBarters_8 : decode cX0_findBarters 8 = .ok (.bastore, 1) := by decide +kernel
theorem dX0_findBarters_9 : decode cX0_findBarters 9 = .ok (.iconst 1, 1) := by decide +kernel
theorem dX0_findBarters_10 : decode cX0_findBarters 10 = .ok (.istore_n 2, 1) := by decide +kernel
theorem dX0_findBarters_11 : decode cX0_findBarters 11 = .ok (.iload_n 2, 1) := by decide +kernel
theorem dX0_findBarters_12 : decode cX0_findBarters 12 = .ok (.aload_n 0, 1) := by decide +kernel
theorem dX0_findBarters_13 : decode cX0_findBarters 13 = .ok (.getfield 56, 3) := by decide +kernel
theorem dX0_findBarters_16 : decode cX0_findBarters 16 = .ok (.if_icmp .ge 38, 3) := by decide +kernel
theorem dX0_findBarters_19 : decode cX0_findBarters 19 = .ok (.aload_n 0, 1) := by decide +kernel
theorem dX0_findBarters_20 : decode cX0_findBarters 20 = .ok (.getfield 22, 3) := by decide +kernel
theorem dX0_findBarters_23 : decode cX0_findBarters 23 = .ok (.iload_n 2, 1) := by decide +kernel
theorem dX0_findBarters_24 : decode cX0_findBarters 24 = .ok (.aload_n 0, 1) := by decide +kernel
theorem dX0_findBarters_25 : decode cX0_findBarters 25 = .ok (.iload_n 2, 1) := by decide +kernel
theorem dX0_findBarters_26 : decode cX0_findBarters 26 = .ok (.invokevirtual 84, 3) := by decide +kernel
theorem dX0_findBarters_29 : decode cX0_findBarters 29 = .ok (.bastore, 1) := by decide +kernel
theorem dX0_findBarters_30 : decode cX0_findBarters 30 = .ok (.aload_n 0, 1) := by decide +kernel
theorem dX0_findBarters_31 : decode cX0_findBarters 31 = .ok (.getfield 22, 3) := by decide +kernel
theorem dX0_findBarters_34 : decode cX0_findBarters 34 = .ok (.iload_n 2, 1) := by decide +kernel
theorem dX0_findBarters_35 : decode cX0_findBarters 35 = .ok (.baload, 1) := by decide +kernel
theorem dX0_findBarters_36 : decode cX0_findBarters 36 = .ok (.ifCond .eq 12, 3) := by decide +kernel
theorem dX0_findBarters_39 : decode cX0_findBarters 39 = .ok (.iload_n 1, 1) := by decide +kernel
theorem dX0_findBarters_40 : decode cX0_findBarters 40 = .ok (.iload_n 2, 1) := by decide +kernel
theorem dX0_findBarters_41 : decode cX0_findBarters 41 = .ok (.invokestatic 79, 3) := by decide +kernel
theorem dX0_findBarters_44 : decode cX0_findBarters 44 = .ok (.invokestatic 52, 3) := by decide +kernel
theorem dX0_findBarters_47 : decode cX0_findBarters 47 = .ok (.istore_n 1, 1) := by decide +kernel
theorem dX0_findBarters_48 : decode cX0_findBarters 48 = .ok (.iinc 2 1, 3) := by decide +kernel
theorem dX0_findBarters_51 : decode cX0_findBarters 51 = .ok (.goto (-40), 3) := by decide +kernel
theorem dX0_findBarters_54 : decode cX0_findBarters 54 = .ok (.iload_n 1, 1) := by decide +kernel
theorem dX0_findBarters_55 : decode cX0_findBarters 55 = .ok (.ireturn, 1) := by decide +kernel
theorem dX0_isMadeOfCircles_0 : decode cX0_isMadeOfCircles 0 = .ok (.iload_n 1, 1) := by decide +kernel
theorem dX0_isMadeOfCircles_1 : decode cX0_isMadeOfCircles 1 = .ok (.iload_n 1, 1) := by decide +kernel
theorem dX0_isMadeOfCircles_2 : decode cX0_isMadeOfCircles 2 = .ok (.iconst 1, 1) := by decide +kernel
theorem dX0_isMadeOfCircles_3 : decode cX0_isMadeOfCircles 3 = .ok (.isub, 1) := by decide +kernel
theorem dX0_isMadeOfCircles_4 : decode cX0_isMadeOfCircles 4 = .ok (.iand, 1) := by decide +kernel
theorem dX0_isMadeOfCircles_5 : decode cX0_isMadeOfCircles 5 = .ok (.istore_n 2, 1) := by decide +kernel
theorem dX0_isMadeOfCircles_6 : decode cX0_isMadeOfCircles 6 = .ok (.iload_n 1, 1) := by decide +kernel
theorem dX0_isMadeOfCircles_7 : decode cX0_isMadeOfCircles 7 = .ok (.iload_n 2, 1) := by decide +kernel
theorem dX0_isMadeOfCircles_8 : decode cX0_isMadeOfCircles 8 = .ok (.ixor, 1) := by decide +kernel
theorem dX0_isMadeOfCircles_9 : decode cX0_isMadeOfCircles 9 = .ok (.istore_n 3, 1) := by decide +kernel
theorem dX0_isMadeOfCircles_10 : decode cX0_isMadeOfCircles 10 = .ok (.iload_n 2, 1) := by decide +kernel
theorem dX0_isMadeOfCircles_11 : decode cX0_isMadeOfCircles 11 = .ok (.istore 4, 2) := by decide +kernel
theorem dX0_isMadeOfCircles_13 : decode cX0_isMadeOfCircles 13 = .ok (.iload 4, 2) := by decide +kernel
theorem dX0_isMadeOfCircles_15 : decode cX0_isMadeOfCircles 15 = .ok (.ifCond .le 40, 3) := by decide +kernel
theorem dX0_isMadeOfCircles_18 : decode cX0_isMadeOfCircles 18 = .ok (.aload_n 0, 1) := by decide +kernel
theorem dX0_isMadeOfCircles_19 : decode cX0_isMadeOfCircles 19 = .ok (.getfield 18, 3) := by decide +kernel
theorem dX0_isMadeOfCircles_22 : decode cX0_isMadeOfCircles 22 = .ok (.iload_n 3, 1) := by decide +kernel
theorem dX0_isMadeOfCircles_23 : decode cX0_isMadeOfCircles 23 = .ok (.iload 4, 2) := by decide +kernel
theorem dX0_isMadeOfCircles_25 : decode cX0_isMadeOfCircles 25 = .ok (.ior, 1) := by decide +kernel
theorem dX0_isMadeOfCircles_26 : decode cX0_isMadeOfCircles 26 = .ok (.baload, 1) := by decide +kernel
theorem dX0_isMadeOfCircles_27 : decode cX0_isMadeOfCircles 27 = .ok (.ifCond .eq 17, 3) := by decide +kernel
theorem dX0_isMadeOfCircles_30 : decode cX0_isMadeOfCircles 30 = .ok (.aload_n 0, 1) := by decide +kernel
theorem dX0_isMadeOfCircles_31 : decode cX0_isMadeOfCircles 31 = .ok (.getfield 22, 3) := by decide +kernel
theorem dX0_isMadeOfCircles_34 : decode cX0_isMadeOfCircles 34 = .ok (.iload_n 2, 1) := by decide +kernel
theorem dX0_isMadeOfCircles_35 : decode cX0_isMadeOfCircles 35 = .ok (.iload 4, 2) := by decide +kernel
theorem dX0_isMadeOfCircles_37 : decode cX0_isMadeOfCircles 37 = .ok (.ixor, 1) := by decide +kernel
theorem dX0_isMadeOfCircles_38 : decode cX0_isMadeOfCircles 38 = .ok (.baload, 1) := by decide +kernel
theorem dX0_isMadeOfCircles_39 : decode cX0_isMadeOfCircles 39 = .ok (.ifCond .eq 5, 3) := by decide +kernel
theorem dX0_isMadeOfCircles_42 : decode cX0_isMadeOfCircles 42 = .ok (.iconst 1, 1) := by decide +kernel
theorem dX0_isMadeOfCircles_43 : decode cX0_isMadeOfCircles 43 = .ok (.ireturn, 1) := by decide +kernel
theorem dX0_isMadeOfCircles_44 : decode cX0_isMadeOfCircles 44 = .ok (.iload 4, 2) := by decide +kernel
theorem dX0_isMadeOfCircles_46 : decode cX0_isMadeOfCircles 46 = .ok (.iconst 1, 1) := by decide +kernel
theorem dX0_isMadeOfCircles_47 : decode cX0_isMadeOfCircles 47 = .ok (.isub, 1) := by decide +kernel
theorem dX0_isMadeOfCircles_48 : decode cX0_isMadeOfCircles 48 = .ok (.iload_n 2, 1) := by decide +kernel
theorem dX0_isMadeOfCircles_49 : decode cX0_isMadeOfCircles 49 = .ok (.iand, 1) := by decide +kernel
theorem dX0_isMadeOfCircles_50 : decode cX0_isMadeOfCircles 50 = .ok (.istore 4, 2) := by decide +kernel
theorem dX0_isMadeOfCircles_52 : decode cX0_isMadeOfCircles 52 = .ok (.goto (-39), 3) := by decide +kernel
theorem dX0_isMadeOfCircles_55 : decode cX0_isMadeOfCircles 55 = .ok (.iconst 0, 1) := by decide +kernel
theorem dX0_isMadeOfCircles_56 : decode cX0_isMadeOfCircles 56 = .ok (.ireturn, 1) := by decide +kernel
theorem dX0_leastOf_0 : decode cX0_leastOf 0 = .ok (.iconst 0, 1) := by decide +kernel
theorem dX0_leastOf_1 : decode cX0_leastOf 1 = .ok (.istore_n 1, 1) := by decide +kernel
theorem dX0_leastOf_2 : decode cX0_leastOf 2 = .ok (.iload_n 1, 1) := by decide +kernel
theorem dX0_leastOf_3 : decode cX0_leastOf 3 = .ok (.bipush 6, 2) := by decide +kernel
theorem dX0_leastOf_5 : decode cX0_leastOf 5 = .ok (.if_icmp .ge 17, 3) := by decide +kernel
theorem dX0_leastOf_8 : decode cX0_leastOf 8 = .ok (.iload_n 0, 1) := by decide +kernel
theorem dX0_leastOf_9 : decode cX0_leastOf 9 = .ok (.iload_n 1, 1) := by decide +kernel
theorem dX0_leastOf_10 : decode cX0_leastOf 10 = .ok (.invokestatic 69, 3) := by decide +kernel
theorem dX0_leastOf_13 : decode cX0_leastOf 13 = .ok (.ifCond .ne 9, 3) := by decide +kernel
theorem dX0_leastOf_16 : decode cX0_leastOf 16 = .ok (.iinc 1 1, 3) := by decide +kernel
theorem dX0_leastOf_19 : decode cX0_leastOf 19 = .ok (.goto (-17), 3) := by decide +kernel
theorem dX0_leastOf_22 : decode cX0_leastOf 22 = .ok (.iload_n 1, 1) := by decide +kernel
theorem dX0_leastOf_23 : decode cX0_leastOf 23 = .ok (.ireturn, 1) := by decide +kernel
theorem dX1_init_0 : decode cX1_init 0 = .ok (.aload_n 0, 1) := by decide +kernel
theorem dX1_init_1 : decode cX1_init 1 = .ok (.invokespecial 3, 3) := by decide +kernel
theorem dX1_init_4 : decode cX1_init 4 = .ok (.aload_n 0, 1) := by decide +kernel
theorem dX1_init_5 : decode cX1_init 5 = .ok (.iconst 4, 1) := by decide +kernel
theorem dX1_init_6 : decode cX1_init 6 = .ok (.anewarray 9, 3) := by decide +kernel
theorem dX1_init_9 : decode cX1_init 9 = .ok (.putfield 11, 3) := by decide +kernel
theorem dX1_init_12 : decode cX1_init 12 = .ok (.iconst 0, 1) := by decide +kernel
theorem dX1_init_13 : decode cX1_init 13 = .ok (.istore_n 1, 1) := by decide +kernel
theorem dX1_init_14 : decode cX1_init 14 = .ok (.iload_n 1, 1) := by decide +kernel
theorem dX1_init_15 : decode cX1_init 15 = .ok (.iconst 4, 1) := by decide +kernel
theorem dX1_init_16 : decode cX1_init 16 = .ok (.if_icmp .ge 22, 3) := by decide +kernel
theorem dX1_init_19 : decode cX1_init 19 = .ok (.aload_n 0, 1) := by decide +kernel
theorem dX1_init_20 : decode cX1_init 20 = .ok (.getfield 11, 3) := by decide +kernel
theorem dX1_init_23 : decode cX1_init 23 = .ok (.iload_n 1, 1) := by decide +kernel
theorem dX1_init_24 : decode cX1_init 24 = .ok (.new 9, 3) := by decide +kernel
theorem dX1_init_27 : decode cX1_init 27 = .ok (.dup, 1) := by decide +kernel
theorem dX1_init_28 : decode cX1_init 28 = .ok (.invokespecial 17, 3) := by decide +kernel
theorem dX1_init_31 : decode cX1_init 31 = .ok (.aastore, 1) := by decide +kernel
theorem dX1_init_32 : decode cX1_init 32 = .ok (.iinc 1 1, 3) := by decide +kernel
theorem dX1_init_35 : decode cX1_init 35 = .ok (.goto (-21), 3) := by decide +kernel
theorem dX1_init_38 : decode cX1_init 38 = .ok (.return_, 1) := by decide +kernel
theorem dX1_record_0 : decode cX1_record 0 = .ok (.aload_n 0, 1) := by decide +kernel
theorem dX1_record_1 : decode cX1_record 1 = .ok (.aload_n 0, 1) := by decide +kernel
theorem dX1_record_2 : decode cX1_record 2 = .ok (.getfield 18, 3) := by decide +kernel
theorem dX1_record_5 : decode cX1_record 5 = .ok (.iconst 1, 1) := by decide +kernel
theorem dX1_record_6 : decode cX1_record 6 = .ok (.iadd, 1) := by decide +kernel
theorem dX1_record_7 : decode cX1_record 7 = .ok (.iconst 4, 1) := by decide +kernel
theorem dX1_record_8 : decode cX1_record 8 = .ok (.irem, 1) := by decide +kernel
theorem dX1_record_9 : decode cX1_record 9 = .ok (.putfield 18, 3) := by decide +kernel
theorem dX1_record_12 : decode cX1_record 12 = .ok (.aload_n 0, 1) := by decide +kernel
theorem dX1_record_13 : decode cX1_record 13 = .ok (.aload_n 0, 1) := by decide +kernel
theorem dX1_record_14 : decode cX1_record 14 = .ok (.getfield 18, 3) := by decide +kernel
theorem dX1_record_17 : decode cX1_record 17 = .ok (.invokevirtual 22, 3) := by decide +kernel
theorem dX1_record_20 : decode cX1_record 20 = .ok (.astore_n 2, 1) := by decide +kernel
theorem dX1_record_21 : decode cX1_record 21 = .ok (.aload_n 2, 1) := by decide +kernel
theorem dX1_record_22 : decode cX1_record 22 = .ok (.ifnull 22, 3) := by decide +kernel
theorem dX1_record_25 : decode cX1_record 25 = .ok (.aload_n 2, 1) := by decide +kernel
theorem dX1_record_26 : decode cX1_record 26 = .ok (.aload_n 1, 1) := by decide +kernel
theorem dX1_record_27 : decode cX1_record 27 = .ok (.invokevirtual 26, 3) := by decide +kernel
theorem dX1_record_30 : decode cX1_record 30 = .ok (.aload_n 0, 1) := by decide +kernel
theorem dX1_record_31 : decode cX1_record 31 = .ok (.aload_n 0, 1) := by decide +kernel
theorem dX1_record_32 : decode cX1_record 32 = .ok (.getfield 30, 3) := by decide +kernel
theorem dX1_record_35 : decode cX1_record 35 = .ok (.iconst 1, 1) := by decide +kernel
theorem dX1_record_36 : decode cX1_record 36 = .ok (.iadd, 1) := by decide +kernel
theorem dX1_record_37 : decode cX1_record 37 = .ok (.iconst 4, 1) := by decide +kernel
theorem dX1_record_38 : decode cX1_record 38 = .ok (.invokestatic 33, 3) := by decide +kernel
theorem dX1_record_41 : decode cX1_record 41 = .ok (.putfield 30, 3) := by decide +kernel
theorem dX1_record_44 : decode cX1_record 44 = .ok (.return_, 1) := by decide +kernel
theorem dX1_takeBack_0 : decode cX1_takeBack 0 = .ok (.aload_n 0, 1) := by decide +kernel
theorem dX1_takeBack_1 : decode cX1_takeBack 1 = .ok (.aload_n 0, 1) := by decide +kernel
theorem dX1_takeBack_2 : decode cX1_takeBack 2 = .ok (.getfield 18, 3) := by decide +kernel
theorem dX1_takeBack_5 : decode cX1_takeBack 5 = .ok (.invokevirtual 22, 3) := by decide +kernel
theorem dX1_takeBack_8 : decode cX1_takeBack 8 = .ok (.astore_n 2, 1) := by decide +kernel
theorem dX1_takeBack_9 : decode cX1_takeBack 9 = .ok (.aload_n 0, 1) := by decide +kernel
theorem dX1_takeBack_10 : decode cX1_takeBack 10 = .ok (.getfield 30, 3) := by decide +kernel
theorem dX1_takeBack_13 : decode cX1_takeBack 13 = .ok (.ifCond .le 36, 3) := by decide +kernel
theorem dX1_takeBack_16 : decode cX1_takeBack 16 = .ok (.aload_n 2, 1) := by decide +kernel
theorem dX1_takeBack_17 : decode cX1_takeBack 17 = .ok (.ifnull 32, 3) := by decide +kernel
theorem dX1_takeBack_20 : decode cX1_takeBack 20 = .ok (.aload_n 1, 1) := by decide +kernel
theorem dX1_takeBack_21 : decode cX1_takeBack 21 = .ok (.aload_n 2, 1) := by decide +kernel
theorem dX1_takeBack_22 : decode cX1_takeBack 22 = .ok (.invokevirtual 26, 3) := by decide +kernel
theorem dX1_takeBack_25 : decode cX1_takeBack 25 = .ok (.aload_n 0, 1) := by decide +kernel
theorem dX1_takeBack_26 : decode cX1_takeBack 26 = .ok (.dup, 1) := by decide +kernel
theorem dX1_takeBack_27 : decode cX1_takeBack 27 = .ok (.getfield 30, 3) := by decide +kernel
theorem dX1_takeBack_30 : decode cX1_takeBack 30 = .ok (.iconst 1, 1) := by decide +kernel
theorem dX1_takeBack_31 : decode cX1_takeBack 31 = .ok (.isub, 1) := by decide +kernel
theorem dX1_takeBack_32 : decode cX1_takeBack 32 = .ok (.putfield 30, 3) := by decide +kernel
theorem dX1_takeBack_35 : decode cX1_takeBack 35 = .ok (.aload_n 0, 1) := by decide +kernel
theorem dX1_takeBack_36 : decode cX1_takeBack 36 = .ok (.aload_n 0, 1) := by decide +kernel
theorem dX1_takeBack_37 : decode cX1_takeBack 37 = .ok (.getfield 18, 3) := by decide +kernel
theorem dX1_takeBack_40 : decode cX1_takeBack 40 = .ok (.iconst 4, 1) := by decide +kernel
theorem dX1_takeBack_41 : decode cX1_takeBack 41 = .ok (.iadd, 1) := by decide +kernel
theorem dX1_takeBack_42 : decode cX1_takeBack 42 = .ok (.iconst 1, 1) := by decide +kernel
theorem dX1_takeBack_43 : decode cX1_takeBack 43 = .ok (.isub, 1) := by decide +kernel
theorem dX1_takeBack_44 : decode cX1_takeBack 44 = .ok (.iconst 4, 1) := by decide +kernel
theorem dX1_takeBack_45 : decode cX1_takeBack 45 = .ok (.irem, 1) := by decide +kernel
theorem dX1_takeBack_46 : decode cX1_takeBack 46 = .ok (.putfield 18, 3) := by decide +kernel
theorem dX1_takeBack_49 : decode cX1_takeBack 49 = .ok (.return_, 1) := by decide +kernel
theorem dX1_rowAt_0 : decode cX1_rowAt 0 = .ok (.iload_n 1, 1) := by decide +kernel
theorem dX1_rowAt_1 : decode cX1_rowAt 1 = .ok (.ifCond .lt 17, 3) := by decide +kernel
theorem dX1_rowAt_4 : decode cX1_rowAt 4 = .ok (.iload_n 1, 1) := by decide +kernel
theorem dX1_rowAt_5 : decode cX1_rowAt 5 = .ok (.iconst 4, 1) := by decide +kernel
theorem dX1_rowAt_6 : decode cX1_rowAt 6 = .ok (.if_icmp .ge 12, 3) := by decide +kernel
theorem dX1_rowAt_9 : decode cX1_rowAt 9 = .ok (.aload_n 0, 1) := by decide +kernel
theorem dX1_rowAt_10 : decode cX1_rowAt 10 = .ok (.getfield 11, 3) := by decide +kernel
theorem dX1_rowAt_13 : decode cX1_rowAt 13 = .ok (.iload_n 1, 1) := by decide +kernel
theorem dX1_rowAt_14 : decode cX1_rowAt 14 = .ok (.aaload, 1) := by decide +kernel
theorem dX1_rowAt_15 : decode cX1_rowAt 15 = .ok (.goto 4, 3) := by decide +kernel
theorem dX1_rowAt_18 : decode cX1_rowAt 18 = .ok (.aconst_null, 1) := by decide +kernel
theorem dX1_rowAt_19 : decode cX1_rowAt 19 = .ok (.areturn, 1) := by decide +kernel
theorem dX2_init_0 : decode cX2_init 0 = .ok (.aload_n 0, 1) := by decide +kernel
theorem dX2_init_1 : decode cX2_init 1 = .ok (.invokespecial 3, 3) := by decide +kernel
theorem dX2_init_4 : decode cX2_init 4 = .ok (.aload_n 0, 1) := by decide +kernel
theorem dX2_init_5 : decode cX2_init 5 = .ok (.bipush 7, 2) := by decide +kernel
theorem dX2_init_7 : decode cX2_init 7 = .ok (.newarray .int, 2) := by decide +kernel
theorem dX2_init_9 : decode cX2_init 9 = .ok (.putfield 9, 3) := by decide +kernel
theorem dX2_init_12 : decode cX2_init 12 = .ok (.aload_n 0, 1) := by decide +kernel
theorem dX2_init_13 : decode cX2_init 13 = .ok (.bipush 7, 2) := by decide +kernel
theorem dX2_init_15 : decode cX2_init 15 = .ok (.newarray .int, 2) := by decide +kernel
theorem dX2_init_17 : decode cX2_init 17 = .ok (.putfield 15, 3) := by decide +kernel
theorem dX2_init_20 : decode cX2_init 20 = .ok (.aload_n 0, 1) := by decide +kernel
theorem dX2_init_21 : decode cX2_init 21 = .ok (.bipush 7, 2) := by decide +kernel
theorem dX2_init_23 : decode cX2_init 23 = .ok (.newarray .int, 2) := by decide +kernel
theorem dX2_init_25 : decode cX2_init 25 = .ok (.putfield 18, 3) := by decide +kernel
theorem dX2_init_28 : decode cX2_init 28 = .ok (.aload_n 0, 1) := by decide +kernel
theorem dX2_init_29 : decode cX2_init 29 = .ok (.bipush 7, 2) := by decide +kernel
theorem dX2_init_31 : decode cX2_init 31 = .ok (.newarray .int, 2) := by decide +kernel
theorem dX2_init_33 : decode cX2_init 33 = .ok (.putfield 21, 3) := by decide +kernel
theorem dX2_init_36 : decode cX2_init 36 = .ok (.aload_n 0, 1) := by decide +kernel
theorem dX2_init_37 : decode cX2_init 37 = .ok (.bipush 7, 2) := by decide +kernel
theorem dX2_init_39 : decode cX2_init 39 = .ok (.newarray .int, 2) := by decide +kernel
theorem dX2_init_41 : decode cX2_init 41 = .ok (.putfield 24, 3) := by decide +kernel
theorem dX2_init_44 : decode cX2_init 44 = .ok (.aload_n 0, 1) := by decide +kernel
theorem dX2_init_45 : decode cX2_init 45 = .ok (.bipush 6, 2) := by decide +kernel
theorem dX2_init_47 : decode cX2_init 47 = .ok (.newarray .int, 2) := by decide +kernel
theorem dX2_init_49 : decode cX2_init 49 = .ok (.putfield 27, 3) := by decide +kernel
theorem dX2_init_52 : decode cX2_init 52 = .ok (.aload_n 0, 1) := by decide +kernel
theorem dX2_init_53 : decode cX2_init 53 = .ok (.bipush 6, 2) := by decide +kernel
theorem dX2_init_55 : decode cX2_init 55 = .ok (.newarray .int, 2) := by decide +kernel
theorem dX2_init_57 : decode cX2_init 57 = .ok (.putfield 30, 3) := by decide +kernel
theorem dX2_init_60 : decode cX2_init 60 = .ok (.aload_n 0, 1) := by decide +kernel
theorem dX2_init_61 : decode cX2_init 61 = .ok (.bipush 7, 2) := by decide +kernel
theorem dX2_init_63 : decode cX2_init 63 = .ok (.putfield 33, 3) := by decide +kernel
theorem dX2_init_66 : decode cX2_init 66 = .ok (.aload_n 0, 1) := by decide +kernel
theorem dX2_init_67 : decode cX2_init 67 = .ok (.iconst 1, 1) := by decide +kernel
theorem dX2_init_68 : decode cX2_init 68 = .ok (.putfield 37, 3) := by decide +kernel
theorem dX2_init_71 : decode cX2_init 71 = .ok (.aload_n 0, 1) := by decide +kernel
theorem dX2_init_72 : decode cX2_init 72 = .ok (.iconst (-1), 1) := by decide +kernel
theorem dX2_init_73 : decode cX2_init 73 = .ok (.putfield 40, 3) := by decide +kernel
theorem dX2_init_76 : decode cX2_init 76 = .ok (.aload_n 0, 1) := by decide +kernel
theorem dX2_init_77 : decode cX2_init 77 = .ok (.bipush 7, 2) := by decide +kernel
theorem dX2_init_79 : decode cX2_init 79 = .ok (.newarray .int, 2) := by decide +kernel
theorem dX2_init_81 : decode cX2_init 81 = .ok (.putfield 43, 3) := by decide +kernel
theorem dX2_init_84 : decode cX2_init 84 = .ok (.aload_n 0, 1) := by decide +kernel
theorem dX2_init_85 : decode cX2_init 85 = .ok (.bipush 7, 2) := by decide +kernel
theorem dX2_init_87 : decode cX2_init 87 = .ok (.newarray .int, 2) := by decide +kernel
theorem dX2_init_89 : decode cX2_init 89 = .ok (.putfield 46, 3) := by decide +kernel
theorem dX2_init_92 : decode cX2_init 92 = .ok (.aload_n 0, 1) := by decide +kernel
theorem dX2_init_93 : decode cX2_init 93 = .ok (.getfield 27, 3) := by decide +kernel
theorem dX2_init_96 : decode cX2_init 96 = .ok (.iconst 3, 1) := by decide +kernel
theorem dX2_init_97 : decode cX2_init 97 = .ok (.invokestatic 49, 3) := by decide +kernel
theorem dX2_init_100 : decode cX2_init 100 = .ok (.return_, 1) := by decide +kernel
theorem dX2_copyFrom_0 : decode cX2_copyFrom 0 = .ok (.aload_n 1, 1) := by decide +kernel
theorem dX2_copyFrom_1 : decode cX2_copyFrom 1 = .ok (.getfield 9, 3) := by decide +kernel
theorem dX2_copyFrom_4 : decode cX2_copyFrom 4 = .ok (.iconst 0, 1) := by decide +kernel
theorem dX2_copyFrom_5 : decode cX2_copyFrom 5 = .ok (.aload_n 0, 1) := by decide +kernel
theorem dX2_copyFrom_6 : decode cX2_copyFrom 6 = .ok (.getfield 9, 3) := by decide +kernel
theorem dX2_copyFrom_9 : decode cX2_copyFrom 9 = .ok (.iconst 0, 1) := by decide +kernel
theorem dX2_copyFrom_10 : decode cX2_copyFrom 10 = .ok (.bipush 7, 2) := by decide +kernel
theorem dX2_copyFrom_12 : decode cX2_copyFrom 12 = .ok (.invokestatic 55, 3) := by decide +kernel
theorem dX2_copyFrom_15 : decode cX2_copyFrom 15 = .ok (.aload_n 1, 1) := by decide +kernel
theorem dX2_copyFrom_16 : decode cX2_copyFrom 16 = .ok (.getfield 15, 3) := by decide +kernel
theorem dX2_copyFrom_19 : decode cX2_copyFrom 19 = .ok (.iconst 0, 1) := by decide +kernel
theorem dX2_copyFrom_20 : decode cX2_copyFrom 20 = .ok (.aload_n 0, 1) := by decide +kernel
theorem dX2_copyFrom_21 : decode cX2_copyFrom 21 = .ok (.getfield 15, 3) := by decide +kernel
theorem dX2_copyFrom_24 : decode cX2_copyFrom 24 = .ok (.iconst 0, 1) := by decide +kernel
theorem dX2_copyFrom_25 : decode cX2_copyFrom 25 = .ok (.bipush 7, 2) := by decide +kernel
theorem dX2_copyFrom_27 : decode cX2_copyFrom 27 = .ok (.invokestatic 55, 3) := by decide +kernel
theorem dX2_copyFrom_30 : decode cX2_copyFrom 30 = .ok (.aload_n 1, 1) := by decide +kernel
theorem dX2_copyFrom_31 : decode cX2_copyFrom 31 = .ok (.getfield 18, 3) := by decide +kernel
theorem dX2_copyFrom_34 : decode cX2_copyFrom 34 = .ok (.iconst 0, 1) := by decide +kernel
theorem dX2_copyFrom_35 : decode cX2_copyFrom 35 = .ok (.aload_n 0, 1) := by decide +kernel
theorem dX2_copyFrom_36 : decode cX2_copyFrom 36 = .ok (.getfield 18, 3) := by decide +kernel
theorem dX2_copyFrom_39 : decode cX2_copyFrom 39 = .ok (.iconst 0, 1) := by decide +kernel
theorem dX2_copyFrom_40 : decode cX2_copyFrom 40 = .ok (.bipush 7, 2) := by decide +kernel
theorem dX2_copyFrom_42 : decode cX2_copyFrom 42 = .ok (.invokestatic 55, 3) := by decide +kernel
theorem dX2_copyFrom_45 : decode cX2_copyFrom 45 = .ok (.aload_n 1, 1) := by decide +kernel
theorem dX2_copyFrom_46 : decode cX2_copyFrom 46 = .ok (.getfield 21, 3) := by decide +kernel
theorem dX2_copyFrom_49 : decode cX2_copyFrom 49 = .ok (.iconst 0, 1) := by decide +kernel
theorem dX2_copyFrom_50 : decode cX2_copyFrom 50 = .ok (.aload_n 0, 1) := by decide +kernel
theorem dX2_copyFrom_51 : decode cX2_copyFrom 51 = .ok (.getfield 21, 3) := by decide +kernel
theorem dX2_copyFrom_54 : decode cX2_copyFrom 54 = .ok (.iconst 0, 1) := by decide +kernel
theorem dX2_copyFrom_55 : decode cX2_copyFrom 55 = .ok (.bipush 7, 2) := by decide +kernel
theorem dX2_copyFrom_57 : decode cX2_copyFrom 57 = .ok (.invokestatic 55, 3) := by decide +kernel
theorem dX2_copyFrom_60 : decode cX2_copyFrom 60 = .ok (.aload_n 1, 1) := by decide +kernel
theorem dX2_copyFrom_61 : decode cX2_copyFrom 61 = .ok (.getfield 24, 3) := by decide +kernel
theorem dX2_copyFrom_64 : decode cX2_copyFrom 64 = .ok (.iconst 0, 1) := by decide +kernel
theorem dX2_copyFrom_65 : decode cX2_copyFrom 65 = .ok (.aload_n 0, 1) := by decide +kernel
theorem dX2_copyFrom_66 : decode cX2_copyFrom 66 = .ok (.getfield 24, 3) := by decide +kernel
theorem dX2_copyFrom_69 : decode cX2_copyFrom 69 = .ok (.iconst 0, 1) := by decide +kernel
theorem dX2_copyFrom_70 : decode cX2_copyFrom 70 = .ok (.bipush 7, 2) := by decide +kernel
theorem dX2_copyFrom_72 : decode cX2_copyFrom 72 = .ok (.invokestatic 55, 3) := by decide +kernel
theorem dX2_copyFrom_75 : decode cX2_copyFrom 75 = .ok (.aload_n 1, 1) := by decide +kernel
theorem dX2_copyFrom_76 : decode cX2_copyFrom 76 = .ok (.getfield 27, 3) := by decide +kernel
theorem dX2_copyFrom_79 : decode cX2_copyFrom 79 = .ok (.iconst 0, 1) := by decide +kernel
theorem dX2_copyFrom_80 : decode cX2_copyFrom 80 = .ok (.aload_n 0, 1) := by decide +kernel
theorem dX2_copyFrom_81 : decode cX2_copyFrom 81 = .ok (.getfield 27, 3) := by decide +kernel
theorem dX2_copyFrom_84 : decode cX2_copyFrom 84 = .ok (.iconst 0, 1) := by decide +kernel
theorem dX2_copyFrom_85 : decode cX2_copyFrom 85 = .ok (.bipush 6, 2) := by decide +kernel
theorem dX2_copyFrom_87 : decode cX2_copyFrom 87 = .ok (.invokestatic 55, 3) := by decide +kernel
theorem dX2_copyFrom_90 : decode cX2_copyFrom 90 = .ok (.aload_n 1, 1) := by decide +kernel
theorem dX2_copyFrom_91 : decode cX2_copyFrom 91 = .ok (.getfield 30, 3) := by decide +kernel
theorem dX2_copyFrom_94 : decode cX2_copyFrom 94 = .ok (.iconst 0, 1) := by decide +kernel
theorem dX2_copyFrom_95 : decode cX2_copyFrom 95 = .ok (.aload_n 0, 1) := by decide +kernel
theorem dX2_copyFrom_96 : decode cX2_copyFrom 96 = .ok (.getfield 30, 3) := by decide +kernel
theorem dX2_copyFrom_99 : decode cX2_copyFrom 99 = .ok (.iconst 0, 1) := by decide +kernel
theorem dX2_copyFrom_100 : decode cX2_copyFrom 100 = .ok (.bipush 6, 2) := by decide +kernel
theorem dX2_copyFrom_102 : decode cX2_copyFrom 102 = .ok (.invokestatic 55, 3) := by decide +kernel
theorem dX2_copyFrom_105 : decode cX2_copyFrom 105 = .ok (.aload_n 0, 1) := by decide +kernel
theorem dX2_copyFrom_106 : decode cX2_copyFrom 106 = .ok (.aload_n 1, 1) := by decide +kernel
theorem dX2_copyFrom_107 : decode cX2_copyFrom 107 = .ok (.getfield 61, 3) := by decide +kernel
theorem dX2_copyFrom_110 : decode cX2_copyFrom 110 = .ok (.putfield 61, 3) := by decide +kernel
theorem dX2_copyFrom_113 : decode cX2_copyFrom 113 = .ok (.aload_n 0, 1) := by decide +kernel
theorem dX2_copyFrom_114 : decode cX2_copyFrom 114 = .ok (.aload_n 1, 1) := by decide +kernel
theorem dX2_copyFrom_115 : decode cX2_copyFrom 115 = .ok (.getfield 33, 3) := by decide +kernel
theorem dX2_copyFrom_118 : decode cX2_copyFrom 118 = .ok (.putfield 33, 3) := by decide +kernel
theorem dX2_copyFrom_121 : decode cX2_copyFrom 121 = .ok (.aload_n 0, 1) := by decide +kernel
theorem dX2_copyFrom_122 : decode cX2_copyFrom 122 = .ok (.aload_n 1, 1) := by decide +kernel
theorem dX2_copyFrom_123 : decode cX2_copyFrom 123 = .ok (.getfield 64, 3) := by decide +kernel
theorem dX2_copyFrom_126 : decode cX2_copyFrom 126 = .ok (.putfield 64, 3) := by decide +kernel
theorem dX2_copyFrom_129 : decode cX2_copyFrom 129 = .ok (.aload_n 0, 1) := by decide +kernel
theorem dX2_copyFrom_130 : decode cX2_copyFrom 130 = .ok (.aload_n 1, 1) := by decide +kernel
theorem dX2_copyFrom_131 : decode cX2_copyFrom 131 = .ok (.getfield 37, 3) := by decide +kernel
theorem dX2_copyFrom_134 : decode cX2_copyFrom 134 = .ok (.putfield 37, 3) := by decide +kernel
theorem dX2_copyFrom_137 : decode cX2_copyFrom 137 = .ok (.aload_n 0, 1) := by decide +kernel
theorem dX2_copyFrom_138 : decode cX2_copyFrom 138 = .ok (.aload_n 1, 1) := by decide +kernel
theorem dX2_copyFrom_139 : decode cX2_copyFrom 139 = .ok (.getfield 40, 3) := by decide +kernel
theorem dX2_copyFrom_142 : decode cX2_copyFrom 142 = .ok (.putfield 40, 3) := by decide +kernel
theorem dX2_copyFrom_145 : decode cX2_copyFrom 145 = .ok (.aload_n 0, 1) := by decide +kernel
theorem dX2_copyFrom_146 : decode cX2_copyFrom 146 = .ok (.aload_n 1, 1) := by decide +kernel
theorem dX2_copyFrom_147 : decode cX2_copyFrom 147 = .ok (.getfield 67, 3) := by decide +kernel
theorem dX2_copyFrom_150 : decode cX2_copyFrom 150 = .ok (.putfield 67, 3) := by decide +kernel
theorem dX2_copyFrom_153 : decode cX2_copyFrom 153 = .ok (.aload_n 0, 1) := by decide +kernel
theorem dX2_copyFrom_154 : decode cX2_copyFrom 154 = .ok (.aload_n 1, 1) := by decide +kernel
theorem dX2_copyFrom_155 : decode cX2_copyFrom 155 = .ok (.getfield 70, 3) := by decide +kernel
theorem dX2_copyFrom_158 : decode cX2_copyFrom 158 = .ok (.putfield 70, 3) := by decide +kernel
theorem dX2_copyFrom_161 : decode cX2_copyFrom 161 = .ok (.aload_n 0, 1) := by decide +kernel
theorem dX2_copyFrom_162 : decode cX2_copyFrom 162 = .ok (.aload_n 1, 1) := by decide +kernel
theorem dX2_copyFrom_163 : decode cX2_copyFrom 163 = .ok (.getfield 73, 3) := by decide +kernel
theorem dX2_copyFrom_166 : decode cX2_copyFrom 166 = .ok (.putfield 73, 3) := by decide +kernel
theorem dX2_copyFrom_169 : decode cX2_copyFrom 169 = .ok (.aload_n 0, 1) := by decide +kernel
theorem dX2_copyFrom_170 : decode cX2_copyFrom 170 = .ok (.aload_n 1, 1) := by decide +kernel
theorem dX2_copyFrom_171 : decode cX2_copyFrom 171 = .ok (.getfield 76, 3) := by decide +kernel
theorem dX2_copyFrom_174 : decode cX2_copyFrom 174 = .ok (.putfield 76, 3) := by decide +kernel
theorem dX2_copyFrom_177 : decode cX2_copyFrom 177 = .ok (.return_, 1) := by decide +kernel
theorem dX2_has_0 : decode cX2_has 0 = .ok (.iload_n 1, 1) := by decide +kernel
theorem dX2_has_1 : decode cX2_has 1 = .ok (.ifCond .lt 24, 3) := by decide +kernel
theorem dX2_has_4 : decode cX2_has 4 = .ok (.iload_n 1, 1) := by decide +kernel
theorem dX2_has_5 : decode cX2_has 5 = .ok (.aload_n 0, 1) := by decide +kernel
theorem dX2_has_6 : decode cX2_has 6 = .ok (.getfield 61, 3) := by decide +kernel
theorem dX2_has_9 : decode cX2_has 9 = .ok (.if_icmp .ge 16, 3) := by decide +kernel
theorem dX2_has_12 : decode cX2_has 12 = .ok (.aload_n 0, 1) := by decide +kernel
theorem dX2_has_13 : decode cX2_has 13 = .ok (.getfield 61, 3) := by decide +kernel
theorem dX2_has_16 : decode cX2_has 16 = .ok (.bipush 7, 2) := by decide +kernel
theorem dX2_has_18 : decode cX2_has 18 = .ok (.if_icmp .gt 7, 3) := by decide +kernel
theorem dX2_has_21 : decode cX2_has 21 = .ok (.iconst 1, 1) := by decide +kernel
theorem dX2_has_22 : decode cX2_has 22 = .ok (.goto 4, 3) := by decide +kernel
theorem dX2_has_25 : decode cX2_has 25 = .ok (.iconst 0, 1) := by decide +kernel
theorem dX2_has_26 : decode cX2_has 26 = .ok (.ireturn, 1) := by decide +kernel
theorem dX2_hasBoth_0 : decode cX2_hasBoth 0 = .ok (.aload_n 0, 1) := by decide +kernel
theorem dX2_hasBoth_1 : decode cX2_hasBoth 1 = .ok (.iload_n 1, 1) := by decide +kernel
theorem dX2_hasBoth_2 : decode cX2_hasBoth 2 = .ok (.invokevirtual 79, 3) := by decide +kernel
theorem dX2_hasBoth_5 : decode cX2_hasBoth 5 = .ok (.ifCond .eq 20, 3) := by decide +kernel
theorem dX2_hasBoth_8 : decode cX2_hasBoth 8 = .ok (.aload_n 0, 1) := by decide +kernel
theorem dX2_hasBoth_9 : decode cX2_hasBoth 9 = .ok (.iload_n 2, 1) := by decide +kernel
theorem dX2_hasBoth_10 : decode cX2_hasBoth 10 = .ok (.invokevirtual 79, 3) := by decide +kernel
theorem dX2_hasBoth_13 : decode cX2_hasBoth 13 = .ok (.ifCond .eq 12, 3) := by decide +kernel
theorem dX2_hasBoth_16 : decode cX2_hasBoth 16 = .ok (.iload_n 1, 1) := by decide +kernel
theorem dX2_hasBoth_17 : decode cX2_hasBoth 17 = .ok (.iload_n 2, 1) := by decide +kernel
theorem dX2_hasBoth_18 : decode cX2_hasBoth 18 = .ok (.if_icmp .eq 7, 3) := by decide +kernel
theorem dX2_hasBoth_21 : decode cX2_hasBoth 21 = .ok (.iconst 1, 1) := by decide +kernel
theorem dX2_hasBoth_22 : decode cX2_hasBoth 22 = .ok (.goto 4, 3) := by decide +kernel
theorem dX2_hasBoth_25 : decode cX2_hasBoth 25 = .ok (.iconst 0, 1) := by decide +kernel
theorem dX2_hasBoth_26 : decode cX2_hasBoth 26 = .ok (.ireturn, 1) := by decide +kernel
theorem dX2_add_0 : decode cX2_add 0 = .ok (.aload_n 0, 1) := by decide +kernel
theorem dX2_add_1 : decode cX2_add 1 = .ok (.getfield 61, 3) := by decide +kernel
theorem dX2_add_4 : decode cX2_add 4 = .ok (.ifCond .lt 12, 3) := by decide +kernel
theorem dX2_add_7 : decode cX2_add 7 = .ok (.aload_n 0, 1) := by decide +kernel
theorem dX2_add_8 : decode cX2_add 8 = .ok (.getfield 61, 3) := by decide +kernel
theorem dX2_add_11 : decode cX2_add 11 = .ok (.bipush 7, 2) := by decide +kernel
theorem dX2_add_13 : decode cX2_add 13 = .ok (.if_icmp .lt 4, 3) := by decide +kernel
theorem dX2_add_16 : decode cX2_add 16 = .ok (.return_, 1) := by decide +kernel
theorem dX2_add_17 : decode cX2_add 17 = .ok (.aload_n 0, 1) := by decide +kernel
theorem dX2_add_18 : decode cX2_add 18 = .ok (.getfield 9, 3) := by decide +kernel
theorem dX2_add_21 : decode cX2_add 21 = .ok (.aload_n 0, 1) := by decide +kernel
theorem dX2_add_22 : decode cX2_add 22 = .ok (.getfield 61, 3) := by decide +kernel
theorem dX2_add_25 : decode cX2_add 25 = .ok (.iload_n 1, 1) := by decide +kernel
theorem dX2_add_26 : decode cX2_add 26 = .ok (.iastore, 1) := by decide +kernel
theorem dX2_add_27 : decode cX2_add 27 = .ok (.aload_n 0, 1) := by decide +kernel
theorem dX2_add_28 : decode cX2_add 28 = .ok (.getfield 15, 3) := by decide +kernel
theorem dX2_add_31 : decode cX2_add 31 = .ok (.aload_n 0, 1) := by decide +kernel
theorem dX2_add_32 : decode cX2_add 32 = .ok (.getfield 61, 3) := by decide +kernel
theorem dX2_add_35 : decode cX2_add 35 = .ok (.iload_n 2, 1) := by decide +kernel
theorem dX2_add_36 : decode cX2_add 36 = .ok (.iastore, 1) := by decide +kernel
theorem dX2_add_37 : decode cX2_add 37 = .ok (.aload_n 0, 1) := by decide +kernel
theorem dX2_add_38 : decode cX2_add 38 = .ok (.getfield 24, 3) := by decide +kernel
theorem dX2_add_41 : decode cX2_add 41 = .ok (.aload_n 0, 1) := by decide +kernel
theorem dX2_add_42 : decode cX2_add 42 = .ok (.getfield 61, 3) := by decide +kernel
theorem dX2_add_45 : decode cX2_add 45 = .ok (.iconst 0, 1) := by decide +kernel
theorem dX2_add_46 : decode cX2_add 46 = .ok (.iastore, 1) := by decide +kernel
theorem dX2_add_47 : decode cX2_add 47 = .ok (.aload_n 0, 1) := by decide +kernel
theorem dX2_add_48 : decode cX2_add 48 = .ok (.aload_n 0, 1) := by decide +kernel
theorem dX2_add_49 : decode cX2_add 49 = .ok (.getfield 61, 3) := by decide +kernel
theorem dX2_add_52 : decode cX2_add 52 = .ok (.invokevirtual 83, 3) := by decide +kernel
theorem dX2_add_55 : decode cX2_add 55 = .ok (.aload_n 0, 1) := by decide +kernel
theorem dX2_add_56 : decode cX2_add 56 = .ok (.dup, 1) := by decide +kernel
theorem dX2_add_57 : decode cX2_add 57 = .ok (.getfield 61, 3) := by decide +kernel
theorem dX2_add_60 : decode cX2_add 60 = .ok (.iconst 1, 1) := by decide +kernel
theorem dX2_add_61 : decode cX2_add 61 = .ok (.iadd, 1) := by decide +kernel
theorem dX2_add_62 : decode cX2_add 62 = .ok (.putfield 61, 3) := by decide +kernel
theorem dX2_add_65 : decode cX2_add 65 = .ok (.return_, 1) := by decide +kernel
theorem dX2_remove_0 : decode cX2_remove 0 = .ok (.iload_n 1, 1) := by decide +kernel
theorem dX2_remove_1 : decode cX2_remove 1 = .ok (.istore_n 2, 1) := by decide +kernel
theorem dX2_remove_2 : decode cX2_remove 2 = .ok (.iload_n 2, 1) := by decide +kernel
theorem dX2_remove_3 : decode cX2_remove 3 = .ok (.ifCond .lt 89, 3) := by decide +kernel
theorem dX2_remove_6 : decode cX2_remove 6 = .ok (.iload_n 2, 1) := by decide +kernel
theorem dX2_remove_7 : decode cX2_remove 7 = .ok (.aload_n 0, 1) := by decide +kernel
theorem dX2_remove_8 : decode cX2_remove 8 = .ok (.getfield 61, 3) := by decide +kernel
theorem dX2_remove_11 : decode cX2_remove 11 = .ok (.iconst 1, 1) := by decide +kernel
theorem dX2_remove_12 : decode cX2_remove 12 = .ok (.isub, 1) := by decide +kernel
theorem dX2_remove_13 : decode cX2_remove 13 = .ok (.if_icmp .ge 79, 3) := by decide +kernel
theorem dX2_remove_16 : decode cX2_remove 16 = .ok (.aload_n 0, 1) := by decide +kernel
theorem dX2_remove_17 : decode cX2_remove 17 = .ok (.getfield 9, 3) := by decide +kernel
theorem dX2_remove_20 : decode cX2_remove 20 = .ok (.iload_n 2, 1) := by decide +kernel
theorem dX2_remove_21 : decode cX2_remove 21 = .ok (.aload_n 0, 1) := by decide +kernel
theorem dX2_remove_22 : decode cX2_remove 22 = .ok (.getfield 9, 3) := by decide +kernel
theorem dX2_remove_25 : decode cX2_remove 25 = .ok (.iload_n 2, 1) := by decide +kernel
theorem dX2_remove_26 : decode cX2_remove 26 = .ok (.iconst 1, 1) := by decide +kernel
theorem dX2_remove_27 : decode cX2_remove 27 = .ok (.iadd, 1) := by decide +kernel
theorem dX2_remove_28 : decode cX2_remove 28 = .ok (.iaload, 1) := by decide +kernel
theorem dX2_remove_29 : decode cX2_remove 29 = .ok (.iastore, 1) := by decide +kernel
theorem dX2_remove_30 : decode cX2_remove 30 = .ok (.aload_n 0, 1) := by decide +kernel
theorem dX2_remove_31 : decode cX2_remove 31 = .ok (.getfield 15, 3) := by decide +kernel
theorem dX2_remove_34 : decode cX2_remove 34 = .ok (.iload_n 2, 1) := by decide +kernel
theorem dX2_remove_35 : decode cX2_remove 35 = .ok (.aload_n 0, 1) := by decide +kernel
theorem dX2_remove_36 : decode cX2_remove 36 = .ok (.getfield 15, 3) := by decide +kernel
theorem dX2_remove_39 : decode cX2_remove 39 = .ok (.iload_n 2, 1) := by decide +kernel
theorem dX2_remove_40 : decode cX2_remove 40 = .ok (.iconst 1, 1) := by decide +kernel
theorem dX2_remove_41 : decode cX2_remove 41 = .ok (.iadd, 1) := by decide +kernel
theorem dX2_remove_42 : decode cX2_remove 42 = .ok (.iaload, 1) := by decide +kernel
theorem dX2_remove_43 : decode cX2_remove 43 = .ok (.iastore, 1) := by decide +kernel
theorem dX2_remove_44 : decode cX2_remove 44 = .ok (.aload_n 0, 1) := by decide +kernel
theorem dX2_remove_45 : decode cX2_remove 45 = .ok (.getfield 18, 3) := by decide +kernel
theorem dX2_remove_48 : decode cX2_remove 48 = .ok (.iload_n 2, 1) := by decide +kernel
theorem dX2_remove_49 : decode cX2_remove 49 = .ok (.aload_n 0, 1) := by decide +kernel
theorem dX2_remove_50 : decode cX2_remove 50 = .ok (.getfield 18, 3) := by decide +kernel
theorem dX2_remove_53 : decode cX2_remove 53 = .ok (.iload_n 2, 1) := by decide +kernel
theorem dX2_remove_54 : decode cX2_remove 54 = .ok (.iconst 1, 1) := by decide +kernel
theorem dX2_remove_55 : decode cX2_remove 55 = .ok (.iadd, 1) := by decide +kernel
theorem dX2_remove_56 : decode cX2_remove 56 = .ok (.iaload, 1) := by decide +kernel
theorem dX2_remove_57 : decode cX2_remove 57 = .ok (.iastore, 1) := by decide +kernel
theorem dX2_remove_58 : decode cX2_remove 58 = .ok (.aload_n 0, 1) := by decide +kernel
theorem dX2_remove_59 : decode cX2_remove 59 = .ok (.getfield 21, 3) := by decide +kernel
theorem dX2_remove_62 : decode cX2_remove 62 = .ok (.iload_n 2, 1) := by decide +kernel
theorem dX2_remove_63 : decode cX2_remove 63 = .ok (.aload_n 0, 1) := by decide +kernel
theorem dX2_remove_64 : decode cX2_remove 64 = .ok (.getfield 21, 3) := by decide +kernel
theorem dX2_remove_67 : decode cX2_remove 67 = .ok (.iload_n 2, 1) := by decide +kernel
theorem dX2_remove_68 : decode cX2_remove 68 = .ok (.iconst 1, 1) := by decide +kernel
theorem dX2_remove_69 : decode cX2_remove 69 = .ok (.iadd, 1) := by decide +kernel
theorem dX2_remove_70 : decode cX2_remove 70 = .ok (.iaload, 1) := by decide +kernel
theorem dX2_remove_71 : decode cX2_remove 71 = .ok (.iastore, 1) := by decide +kernel
theorem dX2_remove_72 : decode cX2_remove 72 = .ok (.aload_n 0, 1) := by decide +kernel
theorem dX2_remove_73 : decode cX2_remove 73 = .ok (.getfield 24, 3) := by decide +kernel
theorem dX2_remove_76 : decode cX2_remove 76 = .ok (.iload_n 2, 1) := by decide +kernel
theorem dX2_remove_77 : decode cX2_remove 77 = .ok (.aload_n 0, 1) := by decide +kernel
theorem dX2_remove_78 : decode cX2_remove 78 = .ok (.getfield 24, 3) := by decide +kernel
theorem dX2_remove_81 : decode cX2_remove 81 = .ok (.iload_n 2, 1) := by decide +kernel
theorem dX2_remove_82 : decode cX2_remove 82 = .ok (.iconst 1, 1) := by decide +kernel
theorem dX2_remove_83 : decode cX2_remove 83 = .ok (.iadd, 1) := by decide +kernel
theorem dX2_remove_84 : decode cX2_remove 84 = .ok (.iaload, 1) := by decide +kernel
theorem dX2_remove_85 : decode cX2_remove 85 = .ok (.iastore, 1) := by decide +kernel
theorem dX2_remove_86 : decode cX2_remove 86 = .ok (.iinc 2 1, 3) := by decide +kernel
theorem dX2_remove_89 : decode cX2_remove 89 = .ok (.goto (-87), 3) := by decide +kernel
theorem dX2_remove_92 : decode cX2_remove 92 = .ok (.aload_n 0, 1) := by decide +kernel
theorem dX2_remove_93 : decode cX2_remove 93 = .ok (.dup, 1) := by decide +kernel
theorem dX2_remove_94 : decode cX2_remove 94 = .ok (.getfield 61, 3) := by decide +kernel
theorem dX2_remove_97 : decode cX2_remove 97 = .ok (.iconst 1, 1) := by decide +kernel
theorem dX2_remove_98 : decode cX2_remove 98 = .ok (.isub, 1) := by decide +kernel
theorem dX2_remove_99 : decode cX2_remove 99 = .ok (.putfield 61, 3) := by decide +kernel
theorem dX2_remove_102 : decode cX2_remove 102 = .ok (.aload_n 0, 1) := by decide +kernel
theorem dX2_remove_103 : decode cX2_remove 103 = .ok (.getfield 40, 3) := by decide +kernel
theorem dX2_remove_106 : decode cX2_remove 106 = .ok (.iload_n 1, 1) := by decide +kernel
theorem dX2_remove_107 : decode cX2_remove 107 = .ok (.if_icmp .ne 11, 3) := by decide +kernel
theorem dX2_remove_110 : decode cX2_remove 110 = .ok (.aload_n 0, 1) := by decide +kernel
theorem dX2_remove_111 : decode cX2_remove 111 = .ok (.iconst (-1), 1) := by decide +kernel
theorem dX2_remove_112 : decode cX2_remove 112 = .ok (.putfield 40, 3) := by decide +kernel
theorem dX2_remove_115 : decode cX2_remove 115 = .ok (.goto 21, 3) := by decide +kernel
theorem dX2_remove_118 : decode cX2_remove 118 = .ok (.aload_n 0, 1) := by decide +kernel
theorem dX2_remove_119 : decode cX2_remove 119 = .ok (.getfield 40, 3) := by decide +kernel
theorem dX2_remove_122 : decode cX2_remove 122 = .ok (.iload_n 1, 1) := by decide +kernel
theorem dX2_remove_123 : decode cX2_remove 123 = .ok (.if_icmp .le 13, 3) := by decide +kernel
theorem dX2_remove_126 : decode cX2_remove 126 = .ok (.aload_n 0, 1) := by decide +kernel
theorem dX2_remove_127 : decode cX2_remove 127 = .ok (.dup, 1) := by decide +kernel
theorem dX2_remove_128 : decode cX2_remove 128 = .ok (.getfield 40, 3) := by decide +kernel
theorem dX2_remove_131 : decode cX2_remove 131 = .ok (.iconst 1, 1) := by decide +kernel
theorem dX2_remove_132 : decode cX2_remove 132 = .ok (.isub, 1) := by decide +kernel
theorem dX2_remove_133 : decode cX2_remove 133 = .ok (.putfield 40, 3) := by decide +kernel
theorem dX2_remove_136 : decode cX2_remove 136 = .ok (.return_, 1) := by decide +kernel
theorem dX2_makeWare_0 : decode cX2_makeWare 0 = .ok (.aload_n 0, 1) := by decide +kernel
theorem dX2_makeWare_1 : decode cX2_makeWare 1 = .ok (.getfield 18, 3) := by decide +kernel
theorem dX2_makeWare_4 : decode cX2_makeWare 4 = .ok (.iload_n 1, 1) := by decide +kernel
theorem dX2_makeWare_5 : decode cX2_makeWare 5 = .ok (.aload_n 0, 1) := by decide +kernel
theorem dX2_makeWare_6 : decode cX2_makeWare 6 = .ok (.getfield 9, 3) := by decide +kernel
theorem dX2_makeWare_9 : decode cX2_makeWare 9 = .ok (.iload_n 1, 1) := by decide +kernel
theorem dX2_makeWare_10 : decode cX2_makeWare 10 = .ok (.iaload, 1) := by decide +kernel
theorem dX2_makeWare_11 : decode cX2_makeWare 11 = .ok (.iastore, 1) := by decide +kernel
theorem dX2_makeWare_12 : decode cX2_makeWare 12 = .ok (.aload_n 0, 1) := by decide +kernel
theorem dX2_makeWare_13 : decode cX2_makeWare 13 = .ok (.getfield 21, 3) := by decide +kernel
theorem dX2_makeWare_16 : decode cX2_makeWare 16 = .ok (.iload_n 1, 1) := by decide +kernel
theorem dX2_makeWare_17 : decode cX2_makeWare 17 = .ok (.iconst 0, 1) := by decide +kernel
theorem dX2_makeWare_18 : decode cX2_makeWare 18 = .ok (.iastore, 1) := by decide +kernel
theorem dX2_makeWare_19 : decode cX2_makeWare 19 = .ok (.aload_n 0, 1) := by decide +kernel
theorem dX2_makeWare_20 : decode cX2_makeWare 20 = .ok (.dup, 1) := by decide +kernel
theorem dX2_makeWare_21 : decode cX2_makeWare 21 = .ok (.getfield 70, 3) := by decide +kernel
theorem dX2_makeWare_24 : decode cX2_makeWare 24 = .ok (.iconst 1, 1) := by decide +kernel
theorem dX2_makeWare_25 : decode cX2_makeWare 25 = .ok (.iadd, 1) := by decide +kernel
theorem dX2_makeWare_26 : decode cX2_makeWare 26 = .ok (.putfield 70, 3) := by decide +kernel
theorem dX2_makeWare_29 : decode cX2_makeWare 29 = .ok (.return_, 1) := by decide +kernel
theorem dX2_hasWare_0 : decode cX2_hasWare 0 = .ok (.aload_n 0, 1) := by decide +kernel
theorem dX2_hasWare_1 : decode cX2_hasWare 1 = .ok (.iload_n 1, 1) := by decide +kernel
theorem dX2_hasWare_2 : decode cX2_hasWare 2 = .ok (.invokevirtual 79, 3) := by decide +kernel
theorem dX2_hasWare_5 : decode cX2_hasWare 5 = .ok (.ifCond .eq 19, 3) := by decide +kernel
theorem dX2_hasWare_8 : decode cX2_hasWare 8 = .ok (.aload_n 0, 1) := by decide +kernel
theorem dX2_hasWare_9 : decode cX2_hasWare 9 = .ok (.getfield 18, 3) := by decide +kernel
theorem dX2_hasWare_12 : decode cX2_hasWare 12 = .ok (.iload_n 1, 1) := by decide +kernel
theorem dX2_hasWare_13 : decode cX2_hasWare 13 = .ok (.iaload, 1) := by decide +kernel
theorem dX2_hasWare_14 : decode cX2_hasWare 14 = .ok (.invokestatic 87, 3) := by decide +kernel
theorem dX2_hasWare_17 : decode cX2_hasWare 17 = .ok (.ifCond .eq 7, 3) := by decide +kernel
theorem dX2_hasWare_20 : decode cX2_hasWare 20 = .ok (.iconst 1, 1) := by decide +kernel
theorem dX2_hasWare_21 : decode cX2_hasWare 21 = .ok (.goto 4, 3) := by decide +kernel
theorem dX2_hasWare_24 : decode cX2_hasWare 24 = .ok (.iconst 0, 1) := by decide +kernel
theorem dX2_hasWare_25 : decode cX2_hasWare 25 = .ok (.ireturn, 1) := by decide +kernel
theorem dX2_hasSoundWare_0 : decode cX2_hasSoundWare 0 = .ok (.aload_n 0, 1) := by decide +kernel
theorem dX2_hasSoundWare_1 : decode cX2_hasSoundWare 1 = .ok (.iload_n 1, 1) := by decide +kernel
theorem dX2_hasSoundWare_2 : decode cX2_hasSoundWare 2 = .ok (.invokevirtual 90, 3) := by decide +kernel
theorem dX2_hasSoundWare_5 : decode cX2_hasSoundWare 5 = .ok (.ifCond .le 7, 3) := by decide +kernel
theorem dX2_hasSoundWare_8 : decode cX2_hasSoundWare 8 = .ok (.iconst 1, 1) := by decide +kernel
theorem dX2_hasSoundWare_9 : decode cX2_hasSoundWare 9 = .ok (.goto 4, 3) := by decide +kernel
theorem dX2_hasSoundWare_12 : decode cX2_hasSoundWare 12 = .ok (.iconst 0, 1) := by decide +kernel
theorem dX2_hasSoundWare_13 : decode cX2_hasSoundWare 13 = .ok (.ireturn, 1) := by decide +kernel
theorem dX2_daysLeft_0 : decode cX2_daysLeft 0 = .ok (.aload_n 0, 1) := by decide +kernel
theorem dX2_daysLeft_1 : decode cX2_daysLeft 1 = .ok (.iload_n 1, 1) := by decide +kernel
theorem dX2_daysLeft_2 : decode cX2_daysLeft 2 = .ok (.invokevirtual 94, 3) := by decide +kernel
theorem dX2_daysLeft_5 : decode cX2_daysLeft 5 = .ok (.ifCond .eq 28, 3) := by decide +kernel
theorem dX2_daysLeft_8 : decode cX2_daysLeft 8 = .ok (.iconst 0, 1) := by decide +kernel
theorem dX2_daysLeft_9 : decode cX2_daysLeft 9 = .ok (.aload_n 0, 1) := by decide +kernel
theorem dX2_daysLeft_10 : decode cX2_daysLeft 10 = .ok (.getfield 27, 3) := by decide +kernel
theorem dX2_daysLeft_13 : decode cX2_daysLeft 13 = .ok (.aload_n 0, 1) := by decide +kernel
theorem dX2_daysLeft_14 : decode cX2_daysLeft 14 = .ok (.getfield 18, 3) := by decide +kernel
theorem dX2_daysLeft_17 : decode cX2_daysLeft 17 = .ok (.iload_n 1, 1) := by decide +kernel
theorem dX2_daysLeft_18 : decode cX2_daysLeft 18 = .ok (.iaload, 1) := by decide +kernel
theorem dX2_daysLeft_19 : decode cX2_daysLeft 19 = .ok (.iaload, 1) := by decide +kernel
theorem dX2_daysLeft_20 : decode cX2_daysLeft 20 = .ok (.aload_n 0, 1) := by decide +kernel
theorem dX2_daysLeft_21 : decode cX2_daysLeft 21 = .ok (.getfield 21, 3) := by decide +kernel
theorem dX2_daysLeft_24 : decode cX2_daysLeft 24 = .ok (.iload_n 1, 1) := by decide +kernel
theorem dX2_daysLeft_25 : decode cX2_daysLeft 25 = .ok (.iaload, 1) := by decide +kernel
theorem dX2_daysLeft_26 : decode cX2_daysLeft 26 = .ok (.isub, 1) := by decide +kernel
theorem dX2_daysLeft_27 : decode cX2_daysLeft 27 = .ok (.invokestatic 97, 3) := by decide +kernel
theorem dX2_daysLeft_30 : decode cX2_daysLeft 30 = .ok (.goto 4, 3) := by decide +kernel
theorem dX2_daysLeft_33 : decode cX2_daysLeft 33 = .ok (.iconst 0, 1) := by decide +kernel
theorem dX2_daysLeft_34 : decode cX2_daysLeft 34 = .ok (.ireturn, 1) := by decide +kernel
theorem dX2_wantsWareOf_0 : decode cX2_wantsWareOf 0 = .ok (.aload_n 0, 1) := by decide +kernel
theorem dX2_wantsWareOf_1 : decode cX2_wantsWareOf 1 = .ok (.iload_n 2, 1) := by decide +kernel
theorem dX2_wantsWareOf_2 : decode cX2_wantsWareOf 2 = .ok (.invokevirtual 94, 3) := by decide +kernel
theorem dX2_wantsWareOf_5 : decode cX2_wantsWareOf 5 = .ok (.ifCond .eq 33, 3) := by decide +kernel
theorem dX2_wantsWareOf_8 : decode cX2_wantsWareOf 8 = .ok (.aload_n 0, 1) := by decide +kernel
theorem dX2_wantsWareOf_9 : decode cX2_wantsWareOf 9 = .ok (.iload_n 1, 1) := by decide +kernel
theorem dX2_wantsWareOf_10 : decode cX2_wantsWareOf 10 = .ok (.invokevirtual 79, 3) := by decide +kernel
theorem dX2_wantsWareOf_13 : decode cX2_wantsWareOf 13 = .ok (.ifCond .eq 25, 3) := by decide +kernel
theorem dX2_wantsWareOf_16 : decode cX2_wantsWareOf 16 = .ok (.aload_n 0, 1) := by decide +kernel
theorem dX2_wantsWareOf_17 : decode cX2_wantsWareOf 17 = .ok (.getfield 15, 3) := by decide +kernel
theorem dX2_wantsWareOf_20 : decode cX2_wantsWareOf 20 = .ok (.iload_n 1, 1) := by decide +kernel
theorem dX2_wantsWareOf_21 : decode cX2_wantsWareOf 21 = .ok (.iaload, 1) := by decide +kernel
theorem dX2_wantsWareOf_22 : decode cX2_wantsWareOf 22 = .ok (.aload_n 0, 1) := by decide +kernel
theorem dX2_wantsWareOf_23 : decode cX2_wantsWareOf 23 = .ok (.getfield 18, 3) := by decide +kernel
theorem dX2_wantsWareOf_26 : decode cX2_wantsWareOf 26 = .ok (.iload_n 2, 1) := by decide +kernel
theorem dX2_wantsWareOf_27 : decode cX2_wantsWareOf 27 = .ok (.iaload, 1) := by decide +kernel
theorem dX2_wantsWareOf_28 : decode cX2_wantsWareOf 28 = .ok (.invokestatic 103, 3) := by decide +kernel
theorem dX2_wantsWareOf_31 : decode cX2_wantsWareOf 31 = .ok (.ifCond .eq 7, 3) := by decide +kernel
theorem dX2_wantsWareOf_34 : decode cX2_wantsWareOf 34 = .ok (.iconst 1, 1) := by decide +kernel
theorem dX2_wantsWareOf_35 : decode cX2_wantsWareOf 35 = .ok (.goto 4, 3) := by decide +kernel
theorem dX2_wantsWareOf_38 : decode cX2_wantsWareOf 38 = .ok (.iconst 0, 1) := by decide +kernel
theorem dX2_wantsWareOf_39 : decode cX2_wantsWareOf 39 = .ok (.ireturn, 1) := by decide +kernel
theorem dX2_mayBarter_0 : decode cX2_mayBarter 0 = .ok (.iload_n 1, 1) := by decide +kernel
theorem dX2_mayBarter_1 : decode cX2_mayBarter 1 = .ok (.aload_n 0, 1) := by decide +kernel
theorem dX2_mayBarter_2 : decode cX2_mayBarter 2 = .ok (.getfield 40, 3) := by decide +kernel
theorem dX2_mayBarter_5 : decode cX2_mayBarter 5 = .ok (.if_icmp .eq 15, 3) := by decide +kernel
theorem dX2_mayBarter_8 : decode cX2_mayBarter 8 = .ok (.aload_n 0, 1) := by decide +kernel
theorem dX2_mayBarter_9 : decode cX2_mayBarter 9 = .ok (.iload_n 1, 1) := by decide +kernel
theorem dX2_mayBarter_10 : decode cX2_mayBarter 10 = .ok (.invokevirtual 107, 3) := by decide +kernel
theorem dX2_mayBarter_13 : decode cX2_mayBarter 13 = .ok (.ifCond .eq 7, 3) := by decide +kernel
theorem dX2_mayBarter_16 : decode cX2_mayBarter 16 = .ok (.iconst 1, 1) := by decide +kernel
theorem dX2_mayBarter_17 : decode cX2_mayBarter 17 = .ok (.goto 4, 3) := by decide +kernel
theorem dX2_mayBarter_20 : decode cX2_mayBarter 20 = .ok (.iconst 0, 1) := by decide +kernel
theorem dX2_mayBarter_21 : decode cX2_mayBarter 21 = .ok (.ireturn, 1) := by decide +kernel
theorem dX2_canTake_0 : decode cX2_canTake 0 = .ok (.iload_n 1, 1) := by decide +kernel
theorem dX2_canTake_1 : decode cX2_canTake 1 = .ok (.iload_n 2, 1) := by decide +kernel
theorem dX2_canTake_2 : decode cX2_canTake 2 = .ok (.if_icmp .eq 32, 3) := by decide +kernel
theorem dX2_canTake_5 : decode cX2_canTake 5 = .ok (.aload_n 0, 1) := by decide +kernel
theorem dX2_canTake_6 : decode cX2_canTake 6 = .ok (.iload_n 1, 1) := by decide +kernel
theorem dX2_canTake_7 : decode cX2_canTake 7 = .ok (.invokevirtual 110, 3) := by decide +kernel
theorem dX2_canTake_10 : decode cX2_canTake 10 = .ok (.ifCond .eq 24, 3) := by decide +kernel
theorem dX2_canTake_13 : decode cX2_canTake 13 = .ok (.aload_n 0, 1) := by decide +kernel
theorem dX2_canTake_14 : decode cX2_canTake 14 = .ok (.iload_n 2, 1) := by decide +kernel
theorem dX2_canTake_15 : decode cX2_canTake 15 = .ok (.invokevirtual 110, 3) := by decide +kernel
theorem dX2_canTake_18 : decode cX2_canTake 18 = .ok (.ifCond .eq 16, 3) := by decide +kernel
theorem dX2_canTake_21 : decode cX2_canTake 21 = .ok (.aload_n 0, 1) := by decide +kernel
theorem dX2_canTake_22 : decode cX2_canTake 22 = .ok (.iload_n 1, 1) := by decide +kernel
theorem dX2_canTake_23 : decode cX2_canTake 23 = .ok (.iload_n 2, 1) := by decide +kernel
theorem dX2_canTake_24 : decode cX2_canTake 24 = .ok (.invokevirtual 113, 3) := by decide +kernel
theorem dX2_canTake_27 : decode cX2_canTake 27 = .ok (.ifCond .eq 7, 3) := by decide +kernel
theorem dX2_canTake_30 : decode cX2_canTake 30 = .ok (.iconst 1, 1) := by decide +kernel
theorem dX2_canTake_31 : decode cX2_canTake 31 = .ok (.goto 4, 3) := by decide +kernel
theorem dX2_canTake_34 : decode cX2_canTake 34 = .ok (.iconst 0, 1) := by decide +kernel
theorem dX2_canTake_35 : decode cX2_canTake 35 = .ok (.ireturn, 1) := by decide +kernel
theorem dX2_giversOf_0 : decode cX2_giversOf 0 = .ok (.iconst 0, 1) := by decide +kernel
theorem dX2_giversOf_1 : decode cX2_giversOf 1 = .ok (.istore_n 2, 1) := by decide +kernel
theorem dX2_giversOf_2 : decode cX2_giversOf 2 = .ok (.iconst 0, 1) := by decide +kernel
theorem dX2_giversOf_3 : decode cX2_giversOf 3 = .ok (.istore_n 3, 1) := by decide +kernel
theorem dX2_giversOf_4 : decode cX2_giversOf 4 = .ok (.iload_n 3, 1) := by decide +kernel
theorem dX2_giversOf_5 : decode cX2_giversOf 5 = .ok (.aload_n 0, 1) := by decide +kernel
theorem dX2_giversOf_6 : decode cX2_giversOf 6 = .ok (.getfield 61, 3) := by decide +kernel
theorem dX2_giversOf_9 : decode cX2_giversOf 9 = .ok (.if_icmp .ge 24, 3) := by decide +kernel
theorem dX2_giversOf_12 : decode cX2_giversOf 12 = .ok (.aload_n 0, 1) := by decide +kernel
theorem dX2_giversOf_13 : decode cX2_giversOf 13 = .ok (.iload_n 1, 1) := by decide +kernel
theorem dX2_giversOf_14 : decode cX2_giversOf 14 = .ok (.iload_n 3, 1) := by decide +kernel
theorem dX2_giversOf_15 : decode cX2_giversOf 15 = .ok (.invokevirtual 116, 3) := by decide +kernel
theorem dX2_giversOf_18 : decode cX2_giversOf 18 = .ok (.ifCond .eq 9, 3) := by decide +kernel
theorem dX2_giversOf_21 : decode cX2_giversOf 21 = .ok (.iload_n 2, 1) := by decide +kernel
theorem dX2_giversOf_22 : decode cX2_giversOf 22 = .ok (.iload_n 3, 1) := by decide +kernel
theorem dX2_giversOf_23 : decode cX2_giversOf 23 = .ok (.invokestatic 119, 3) := by decide +kernel
theorem dX2_giversOf_26 : decode cX2_giversOf 26 = .ok (.istore_n 2, 1) := by decide +kernel
theorem dX2_giversOf_27 : decode cX2_giversOf 27 = .ok (.iinc 3 1, 3) := by decide +kernel
theorem dX2_giversOf_30 : decode cX2_giversOf 30 = .ok (.goto (-26), 3) := by decide +kernel
theorem dX2_giversOf_33 : decode cX2_giversOf 33 = .ok (.iload_n 2, 1) := by decide +kernel
theorem dX2_giversOf_34 : decode cX2_giversOf 34 = .ok (.ireturn, 1) := by decide +kernel
theorem dX2_numberOfTakers_0 : decode cX2_numberOfTakers 0 = .ok (.iconst 0, 1) := by decide +kernel
theorem dX2_numberOfTakers_1 : decode cX2_numberOfTakers 1 = .ok (.istore_n 2, 1) := by decide +kernel
theorem dX2_numberOfTakers_2 : decode cX2_numberOfTakers 2 = .ok (.iconst 0, 1) := by decide +kernel
theorem dX2_numberOfTakers_3 : decode cX2_numberOfTakers 3 = .ok (.istore_n 3, 1) := by decide +kernel
theorem dX2_numberOfTakers_4 : decode cX2_numberOfTakers 4 = .ok (.iload_n 3, 1) := by decide +kernel
theorem dX2_numberOfTakers_5 : decode cX2_numberOfTakers 5 = .ok (.aload_n 0, 1) := by decide +kernel
theorem dX2_numberOfTakers_6 : decode cX2_numberOfTakers 6 = .ok (.getfield 61, 3) := by decide +kernel
theorem dX2_numberOfTakers_9 : decode cX2_numberOfTakers 9 = .ok (.if_icmp .ge 21, 3) := by decide +kernel
theorem dX2_numberOfTakers_12 : decode cX2_numberOfTakers 12 = .ok (.aload_n 0, 1) := by decide +kernel
theorem dX2_numberOfTakers_13 : decode cX2_numberOfTakers 13 = .ok (.iload_n 3, 1) := by decide +kernel
theorem dX2_numberOfTakers_14 : decode cX2_numberOfTakers 14 = .ok (.iload_n 1, 1) := by decide +kernel
theorem dX2_numberOfTakers_15 : decode cX2_numberOfTakers 15 = .ok (.invokevirtual 116, 3) := by decide +kernel
theorem dX2_numberOfTakers_18 : decode cX2_numberOfTakers 18 = .ok (.ifCond .eq 6, 3) := by decide +kernel
theorem dX2_numberOfTakers_21 : decode cX2_numberOfTakers 21 = .ok (.iinc 2 1, 3) := by decide +kernel
theorem dX2_numberOfTakers_24 : decode cX2_numberOfTakers 24 = .ok (.iinc 3 1, 3) := by decide +kernel
theorem dX2_numberOfTakers_27 : decode cX2_numberOfTakers 27 = .ok (.goto (-23), 3) := by decide +kernel
theorem dX2_numberOfTakers_30 : decode cX2_numberOfTakers 30 = .ok (.iload_n 2, 1) := by decide +kernel
theorem dX2_numberOfTakers_31 : decode cX2_numberOfTakers 31 = .ok (.ireturn, 1) := by decide +kernel
theorem dX2_refusal_0 : decode cX2_refusal 0 = .ok (.iload_n 1, 1) := by decide +kernel
theorem dX2_refusal_1 : decode cX2_refusal 1 = .ok (.aload_n 0, 1) := by decide +kernel
theorem dX2_refusal_2 : decode cX2_refusal 2 = .ok (.getfield 40, 3) := by decide +kernel
theorem dX2_refusal_5 : decode cX2_refusal 5 = .ok (.if_icmp .eq 11, 3) := by decide +kernel
theorem dX2_refusal_8 : decode cX2_refusal 8 = .ok (.iload_n 2, 1) := by decide +kernel
theorem dX2_refusal_9 : decode cX2_refusal 9 = .ok (.aload_n 0, 1) := by decide +kernel
theorem dX2_refusal_10 : decode cX2_refusal 10 = .ok (.getfield 40, 3) := by decide +kernel
theorem dX2_refusal_13 : decode cX2_refusal 13 = .ok (.if_icmp .ne 5, 3) := by decide +kernel
theorem dX2_refusal_16 : decode cX2_refusal 16 = .ok (.iconst 1, 1) := by decide +kernel
theorem dX2_refusal_17 : decode cX2_refusal 17 = .ok (.ireturn, 1) := by decide +kernel
theorem dX2_refusal_18 : decode cX2_refusal 18 = .ok (.aload_n 0, 1) := by decide +kernel
theorem dX2_refusal_19 : decode cX2_refusal 19 = .ok (.iload_n 1, 1) := by decide +kernel
theorem dX2_refusal_20 : decode cX2_refusal 20 = .ok (.invokevirtual 107, 3) := by decide +kernel
theorem dX2_refusal_23 : decode cX2_refusal 23 = .ok (.ifCond .eq 11, 3) := by decide +kernel
theorem dX2_refusal_26 : decode cX2_refusal 26 = .ok (.aload_n 0, 1) := by decide +kernel
theorem dX2_refusal_27 : decode cX2_refusal 27 = .ok (.iload_n 2, 1) := by decide +kernel
theorem dX2_refusal_28 : decode cX2_refusal 28 = .ok (.invokevirtual 107, 3) := by decide +kernel
theorem dX2_refusal_31 : decode cX2_refusal 31 = .ok (.ifCond .ne 5, 3) := by decide +kernel
theorem dX2_refusal_34 : decode cX2_refusal 34 = .ok (.iconst 2, 1) := by decide +kernel
theorem dX2_refusal_35 : decode cX2_refusal 35 = .ok (.ireturn, 1) := by decide +kernel
theorem dX2_refusal_36 : decode cX2_refusal 36 = .ok (.aload_n 0, 1) := by decide +kernel
theorem dX2_refusal_37 : decode cX2_refusal 37 = .ok (.iload_n 1, 1) := by decide +kernel
theorem dX2_refusal_38 : decode cX2_refusal 38 = .ok (.iload_n 2, 1) := by decide +kernel
theorem dX2_refusal_39 : decode cX2_refusal 39 = .ok (.invokevirtual 113, 3) := by decide +kernel
theorem dX2_refusal_42 : decode cX2_refusal 42 = .ok (.ifCond .ne 5, 3) := by decide +kernel
theorem dX2_refusal_45 : decode cX2_refusal 45 = .ok (.iconst 3, 1) := by decide +kernel
theorem dX2_refusal_46 : decode cX2_refusal 46 = .ok (.ireturn, 1) := by decide +kernel
theorem dX2_refusal_47 : decode cX2_refusal 47 = .ok (.aload_n 0, 1) := by decide +kernel
theorem dX2_refusal_48 : decode cX2_refusal 48 = .ok (.iload_n 2, 1) := by decide +kernel
theorem dX2_refusal_49 : decode cX2_refusal 49 = .ok (.iload_n 1, 1) := by decide +kernel
theorem dX2_refusal_50 : decode cX2_refusal 50 = .ok (.invokevirtual 113, 3) := by decide +kernel
theorem dX2_refusal_53 : decode cX2_refusal 53 = .ok (.ifCond .eq 7, 3) := by decide +kernel
theorem dX2_refusal_56 : decode cX2_refusal 56 = .ok (.iconst 0, 1) := by decide +kernel
theorem dX2_refusal_57 : decode cX2_refusal 57 = .ok (.goto 4, 3) := by decide +kernel
theorem dX2_refusal_60 : decode cX2_refusal 60 = .ok (.iconst 4, 1) := by decide +kernel
theorem dX2_refusal_61 : decode cX2_refusal 61 = .ok (.ireturn, 1) := by decide +kernel
theorem dX2_barterByHand_0 : decode cX2_barterByHand 0 = .ok (.aload_n 0, 1) := by decide +kernel
theorem dX2_barterByHand_1 : decode cX2_barterByHand 1 = .ok (.iload_n 1, 1) := by decide +kernel
theorem dX2_barterByHand_2 : decode cX2_barterByHand 2 = .ok (.iload_n 2, 1) := by decide +kernel
theorem dX2_barterByHand_3 : decode cX2_barterByHand 3 = .ok (.invokevirtual 122, 3) := by decide +kernel
theorem dX2_barterByHand_6 : decode cX2_barterByHand 6 = .ok (.istore_n 3, 1) := by decide +kernel
theorem dX2_barterByHand_7 : decode cX2_barterByHand 7 = .ok (.iload_n 3, 1) := by decide +kernel
theorem dX2_barterByHand_8 : decode cX2_barterByHand 8 = .ok (.ifCond .eq 15, 3) := by decide +kernel
theorem dX2_barterByHand_11 : decode cX2_barterByHand 11 = .ok (.aload_n 0, 1) := by decide +kernel
theorem dX2_barterByHand_12 : decode cX2_barterByHand 12 = .ok (.dup, 1) := by decide +kernel
theorem dX2_barterByHand_13 : decode cX2_barterByHand 13 = .ok (.getfield 76, 3) := by decide +kernel
theorem dX2_barterByHand_16 : decode cX2_barterByHand 16 = .ok (.iconst 1, 1) := by decide +kernel
theorem dX2_barterByHand_17 : decode cX2_barterByHand 17 = .ok (.iadd, 1) := by decide +kernel
theorem dX2_barterByHand_18 : decode cX2_barterByHand 18 = .ok (.putfield 76, 3) := by decide +kernel
theorem dX2_barterByHand_21 : decode cX2_barterByHand 21 = .ok (.iload_n 3, 1) := by decide +kernel
theorem dX2_barterByHand_22 : decode cX2_barterByHand 22 = .ok (.ireturn, 1) := by decide +kernel
theorem dX2_barterByHand_23 : decode cX2_barterByHand 23 = .ok (.aload_n 0, 1) := by decide +kernel
theorem dX2_barterByHand_24 : decode cX2_barterByHand 24 = .ok (.invokevirtual 125, 3) := by decide +kernel
theorem dX2_barterByHand_27 : decode cX2_barterByHand 27 = .ok (.aload_n 0, 1) := by decide +kernel
theorem dX2_barterByHand_28 : decode cX2_barterByHand 28 = .ok (.iload_n 1, 1) := by decide +kernel
theorem dX2_barterByHand_29 : decode cX2_barterByHand 29 = .ok (.iload_n 2, 1) := by decide +kernel
theorem dX2_barterByHand_30 : decode cX2_barterByHand 30 = .ok (.invokevirtual 128, 3) := by decide +kernel
theorem dX2_barterByHand_33 : decode cX2_barterByHand 33 = .ok (.aload_n 0, 1) := by decide +kernel
theorem dX2_barterByHand_34 : decode cX2_barterByHand 34 = .ok (.iload_n 2, 1) := by decide +kernel
theorem dX2_barterByHand_35 : decode cX2_barterByHand 35 = .ok (.iload_n 1, 1) := by decide +kernel
theorem dX2_barterByHand_36 : decode cX2_barterByHand 36 = .ok (.invokevirtual 128, 3) := by decide +kernel
theorem dX2_barterByHand_39 : decode cX2_barterByHand 39 = .ok (.bipush 10, 2) := by decide +kernel
theorem dX2_barterByHand_41 : decode cX2_barterByHand 41 = .ok (.ireturn, 1) := by decide +kernel
theorem dX2_doBarter_0 : decode cX2_doBarter 0 = .ok (.aload_n 0, 1) := by decide +kernel
theorem dX2_doBarter_1 : decode cX2_doBarter 1 = .ok (.invokevirtual 125, 3) := by decide +kernel
theorem dX2_doBarter_4 : decode cX2_doBarter 4 = .ok (.iconst 0, 1) := by decide +kernel
theorem dX2_doBarter_5 : decode cX2_doBarter 5 = .ok (.istore_n 2, 1) := by decide +kernel
theorem dX2_doBarter_6 : decode cX2_doBarter 6 = .ok (.iload_n 2, 1) := by decide +kernel
theorem dX2_doBarter_7 : decode cX2_doBarter 7 = .ok (.aload_n 0, 1) := by decide +kernel
theorem dX2_doBarter_8 : decode cX2_doBarter 8 = .ok (.getfield 61, 3) := by decide +kernel
theorem dX2_doBarter_11 : decode cX2_doBarter 11 = .ok (.if_icmp .ge 23, 3) := by decide +kernel
theorem dX2_doBarter_14 : decode cX2_doBarter 14 = .ok (.iload_n 2, 1) := by decide +kernel
theorem dX2_doBarter_15 : decode cX2_doBarter 15 = .ok (.aload_n 1, 1) := by decide +kernel
theorem dX2_doBarter_16 : decode cX2_doBarter 16 = .ok (.arraylength, 1) := by decide +kernel
theorem dX2_doBarter_17 : decode cX2_doBarter 17 = .ok (.if_icmp .ge 17, 3) := by decide +kernel
theorem dX2_doBarter_20 : decode cX2_doBarter 20 = .ok (.aload_n 0, 1) := by decide +kernel
theorem dX2_doBarter_21 : decode cX2_doBarter 21 = .ok (.iload_n 2, 1) := by decide +kernel
theorem dX2_doBarter_22 : decode cX2_doBarter 22 = .ok (.aload_n 1, 1) := by decide +kernel
theorem dX2_doBarter_23 : decode cX2_doBarter 23 = .ok (.iload_n 2, 1) := by decide +kernel
theorem dX2_doBarter_24 : decode cX2_doBarter 24 = .ok (.iaload, 1) := by decide +kernel
theorem dX2_doBarter_25 : decode cX2_doBarter 25 = .ok (.invokevirtual 128, 3) := by decide +kernel
theorem dX2_doBarter_28 : decode cX2_doBarter 28 = .ok (.iinc 2 1, 3) := by decide +kernel
theorem dX2_doBarter_31 : decode cX2_doBarter 31 = .ok (.goto (-25), 3) := by decide +kernel
theorem dX2_doBarter_34 : decode cX2_doBarter 34 = .ok (.return_, 1) := by decide +kernel
theorem dX2_keepWares_0 : decode cX2_keepWares 0 = .ok (.aload_n 0, 1) := by decide +kernel
theorem dX2_keepWares_1 : decode cX2_keepWares 1 = .ok (.getfield 18, 3) := by decide +kernel
theorem dX2_keepWares_4 : decode cX2_keepWares 4 = .ok (.iconst 0, 1) := by decide +kernel
theorem dX2_keepWares_5 : decode cX2_keepWares 5 = .ok (.aload_n 0, 1) := by decide +kernel
theorem dX2_keepWares_6 : decode cX2_keepWares 6 = .ok (.getfield 43, 3) := by decide +kernel
theorem dX2_keepWares_9 : decode cX2_keepWares 9 = .ok (.iconst 0, 1) := by decide +kernel
theorem dX2_keepWares_10 : decode cX2_keepWares 10 = .ok (.bipush 7, 2) := by decide +kernel
theorem dX2_keepWares_12 : decode cX2_keepWares 12 = .ok (.invokestatic 55, 3) := by decide +kernel
theorem dX2_keepWares_15 : decode cX2_keepWares 15 = .ok (.aload_n 0, 1) := by decide +kernel
theorem dX2_keepWares_16 : decode cX2_keepWares 16 = .ok (.getfield 21, 3) := by decide +kernel
theorem dX2_keepWares_19 : decode cX2_keepWares 19 = .ok (.iconst 0, 1) := by decide +kernel
theorem dX2_keepWares_20 : decode cX2_keepWares 20 = .ok (.aload_n 0, 1) := by decide +kernel
theorem dX2_keepWares_21 : decode cX2_keepWares 21 = .ok (.getfield 46, 3) := by decide +kernel
theorem dX2_keepWares_24 : decode cX2_keepWares 24 = .ok (.iconst 0, 1) := by decide +kernel
theorem dX2_keepWares_25 : decode cX2_keepWares 25 = .ok (.bipush 7, 2) := by decide +kernel
theorem dX2_keepWares_27 : decode cX2_keepWares 27 = .ok (.invokestatic 55, 3) := by decide +kernel
theorem dX2_keepWares_30 : decode cX2_keepWares 30 = .ok (.return_, 1) := by decide +kernel
theorem dX2_takeWare_0 : decode cX2_takeWare 0 = .ok (.aload_n 0, 1) := by decide +kernel
theorem dX2_takeWare_1 : decode cX2_takeWare 1 = .ok (.iload_n 1, 1) := by decide +kernel
theorem dX2_takeWare_2 : decode cX2_takeWare 2 = .ok (.invokevirtual 79, 3) := by decide +kernel
theorem dX2_takeWare_5 : decode cX2_takeWare 5 = .ok (.ifCond .eq 23, 3) := by decide +kernel
theorem dX2_takeWare_8 : decode cX2_takeWare 8 = .ok (.aload_n 0, 1) := by decide +kernel
theorem dX2_takeWare_9 : decode cX2_takeWare 9 = .ok (.iload_n 2, 1) := by decide +kernel
theorem dX2_takeWare_10 : decode cX2_takeWare 10 = .ok (.invokevirtual 79, 3) := by decide +kernel
theorem dX2_takeWare_13 : decode cX2_takeWare 13 = .ok (.ifCond .eq 15, 3) := by decide +kernel
theorem dX2_takeWare_16 : decode cX2_takeWare 16 = .ok (.aload_n 0, 1) := by decide +kernel
theorem dX2_takeWare_17 : decode cX2_takeWare 17 = .ok (.getfield 43, 3) := by decide +kernel
theorem dX2_takeWare_20 : decode cX2_takeWare 20 = .ok (.iload_n 2, 1) := by decide +kernel
theorem dX2_takeWare_21 : decode cX2_takeWare 21 = .ok (.iaload, 1) := by decide +kernel
theorem dX2_takeWare_22 : decode cX2_takeWare 22 = .ok (.invokestatic 87, 3) := by decide +kernel
theorem dX2_takeWare_25 : decode cX2_takeWare 25 = .ok (.ifCond .ne 4, 3) := by decide +kernel
theorem dX2_takeWare_28 : decode cX2_takeWare 28 = .ok (.return_, 1) := by decide +kernel
theorem dX2_takeWare_29 : decode cX2_takeWare 29 = .ok (.aload_n 0, 1) := by decide +kernel
theorem dX2_takeWare_30 : decode cX2_takeWare 30 = .ok (.getfield 43, 3) := by decide +kernel
theorem dX2_takeWare_33 : decode cX2_takeWare 33 = .ok (.iload_n 2, 1) := by decide +kernel
theorem dX2_takeWare_34 : decode cX2_takeWare 34 = .ok (.iaload, 1) := by decide +kernel
theorem dX2_takeWare_35 : decode cX2_takeWare 35 = .ok (.istore_n 3, 1) := by decide +kernel
theorem dX2_takeWare_36 : decode cX2_takeWare 36 = .ok (.aload_n 0, 1) := by decide +kernel
theorem dX2_takeWare_37 : decode cX2_takeWare 37 = .ok (.getfield 18, 3) := by decide +kernel
theorem dX2_takeWare_40 : decode cX2_takeWare 40 = .ok (.iload_n 1, 1) := by decide +kernel
theorem dX2_takeWare_41 : decode cX2_takeWare 41 = .ok (.iload_n 3, 1) := by decide +kernel
theorem dX2_takeWare_42 : decode cX2_takeWare 42 = .ok (.iastore, 1) := by decide +kernel
theorem dX2_takeWare_43 : decode cX2_takeWare 43 = .ok (.aload_n 0, 1) := by decide +kernel
theorem dX2_takeWare_44 : decode cX2_takeWare 44 = .ok (.getfield 21, 3) := by decide +kernel
theorem dX2_takeWare_47 : decode cX2_takeWare 47 = .ok (.iload_n 1, 1) := by decide +kernel
theorem dX2_takeWare_48 : decode cX2_takeWare 48 = .ok (.aload_n 0, 1) := by decide +kernel
theorem dX2_takeWare_49 : decode cX2_takeWare 49 = .ok (.getfield 46, 3) := by decide +kernel
theorem dX2_takeWare_52 : decode cX2_takeWare 52 = .ok (.iload_n 2, 1) := by decide +kernel
theorem dX2_takeWare_53 : decode cX2_takeWare 53 = .ok (.iaload, 1) := by decide +kernel
theorem dX2_takeWare_54 : decode cX2_takeWare 54 = .ok (.iastore, 1) := by decide +kernel
theorem dX2_takeWare_55 : decode cX2_takeWare 55 = .ok (.aload_n 0, 1) := by decide +kernel
theorem dX2_takeWare_56 : decode cX2_takeWare 56 = .ok (.getfield 15, 3) := by decide +kernel
theorem dX2_takeWare_59 : decode cX2_takeWare 59 = .ok (.iload_n 1, 1) := by decide +kernel
theorem dX2_takeWare_60 : decode cX2_takeWare 60 = .ok (.dup2, 1) := by decide +kernel
theorem dX2_takeWare_61 : decode cX2_takeWare 61 = .ok (.iaload, 1) := by decide +kernel
theorem dX2_takeWare_62 : decode cX2_takeWare 62 = .ok (.iconst 1, 1) := by decide +kernel
theorem dX2_takeWare_63 : decode cX2_takeWare 63 = .ok (.iload_n 3, 1) := by decide +kernel
theorem dX2_takeWare_64 : decode cX2_takeWare 64 = .ok (.ishl, 1) := by decide +kernel
theorem dX2_takeWare_65 : decode cX2_takeWare 65 = .ok (.iconst (-1), 1) := by decide +kernel
theorem dX2_takeWare_66 : decode cX2_takeWare 66 = .ok (.ixor, 1) := by decide +kernel
theorem dX2_takeWare_67 : decode cX2_takeWare 67 = .ok (.iand, 1) := by decide +kernel
theorem dX2_takeWare_68 : decode cX2_takeWare 68 = .ok (.iastore, 1) := by decide +kernel
theorem dX2_takeWare_69 : decode cX2_takeWare 69 = .ok (.aload_n 0, 1) := by decide +kernel
theorem dX2_takeWare_70 : decode cX2_takeWare 70 = .ok (.getfield 24, 3) := by decide +kernel
theorem dX2_takeWare_73 : decode cX2_takeWare 73 = .ok (.iload_n 1, 1) := by decide +kernel
theorem dX2_takeWare_74 : decode cX2_takeWare 74 = .ok (.dup2, 1) := by decide +kernel
theorem dX2_takeWare_75 : decode cX2_takeWare 75 = .ok (.iaload, 1) := by decide +kernel
theorem dX2_takeWare_76 : decode cX2_takeWare 76 = .ok (.iconst 1, 1) := by decide +kernel
theorem dX2_takeWare_77 : decode cX2_takeWare 77 = .ok (.iadd, 1) := by decide +kernel
theorem dX2_takeWare_78 : decode cX2_takeWare 78 = .ok (.iastore, 1) := by decide +kernel
theorem dX2_takeWare_79 : decode cX2_takeWare 79 = .ok (.aload_n 0, 1) := by decide +kernel
theorem dX2_takeWare_80 : decode cX2_takeWare 80 = .ok (.getfield 30, 3) := by decide +kernel
theorem dX2_takeWare_83 : decode cX2_takeWare 83 = .ok (.iload_n 3, 1) := by decide +kernel
theorem dX2_takeWare_84 : decode cX2_takeWare 84 = .ok (.dup2, 1) := by decide +kernel
theorem dX2_takeWare_85 : decode cX2_takeWare 85 = .ok (.iaload, 1) := by decide +kernel
theorem dX2_takeWare_86 : decode cX2_takeWare 86 = .ok (.iconst 1, 1) := by decide +kernel
theorem dX2_takeWare_87 : decode cX2_takeWare 87 = .ok (.iadd, 1) := by decide +kernel
theorem dX2_takeWare_88 : decode cX2_takeWare 88 = .ok (.iastore, 1) := by decide +kernel
theorem dX2_takeWare_89 : decode cX2_takeWare 89 = .ok (.return_, 1) := by decide +kernel
theorem dX2_passDay_0 : decode cX2_passDay 0 = .ok (.aload_n 0, 1) := by decide +kernel
theorem dX2_passDay_1 : decode cX2_passDay 1 = .ok (.getfield 67, 3) := by decide +kernel
theorem dX2_passDay_4 : decode cX2_passDay 4 = .ok (.istore_n 1, 1) := by decide +kernel
theorem dX2_passDay_5 : decode cX2_passDay 5 = .ok (.aload_n 0, 1) := by decide +kernel
theorem dX2_passDay_6 : decode cX2_passDay 6 = .ok (.dup, 1) := by decide +kernel
theorem dX2_passDay_7 : decode cX2_passDay 7 = .ok (.getfield 64, 3) := by decide +kernel
theorem dX2_passDay_10 : decode cX2_passDay 10 = .ok (.iconst 1, 1) := by decide +kernel
theorem dX2_passDay_11 : decode cX2_passDay 11 = .ok (.iadd, 1) := by decide +kernel
theorem dX2_passDay_12 : decode cX2_passDay 12 = .ok (.putfield 64, 3) := by decide +kernel
theorem dX2_passDay_15 : decode cX2_passDay 15 = .ok (.iconst 0, 1) := by decide +kernel
theorem dX2_passDay_16 : decode cX2_passDay 16 = .ok (.istore_n 2, 1) := by decide +kernel
theorem dX2_passDay_17 : decode cX2_passDay 17 = .ok (.iload_n 2, 1) := by decide +kernel
theorem dX2_passDay_18 : decode cX2_passDay 18 = .ok (.aload_n 0, 1) := by decide +kernel
theorem dX2_passDay_19 : decode cX2_passDay 19 = .ok (.getfield 61, 3) := by decide +kernel
theorem dX2_passDay_22 : decode cX2_passDay 22 = .ok (.if_icmp .ge 24, 3) := by decide +kernel
theorem dX2_passDay_25 : decode cX2_passDay 25 = .ok (.aload_n 0, 1) := by decide +kernel
theorem dX2_passDay_26 : decode cX2_passDay 26 = .ok (.getfield 21, 3) := by decide +kernel
theorem dX2_passDay_29 : decode cX2_passDay 29 = .ok (.iload_n 2, 1) := by decide +kernel
theorem dX2_passDay_30 : decode cX2_passDay 30 = .ok (.dup2, 1) := by decide +kernel
theorem dX2_passDay_31 : decode cX2_passDay 31 = .ok (.iaload, 1) := by decide +kernel
theorem dX2_passDay_32 : decode cX2_passDay 32 = .ok (.iconst 1, 1) := by decide +kernel
theorem dX2_passDay_33 : decode cX2_passDay 33 = .ok (.iadd, 1) := by decide +kernel
theorem dX2_passDay_34 : decode cX2_passDay 34 = .ok (.iastore, 1) := by decide +kernel
theorem dX2_passDay_35 : decode cX2_passDay 35 = .ok (.aload_n 0, 1) := by decide +kernel
theorem dX2_passDay_36 : decode cX2_passDay 36 = .ok (.iload_n 2, 1) := by decide +kernel
theorem dX2_passDay_37 : decode cX2_passDay 37 = .ok (.invokevirtual 132, 3) := by decide +kernel
theorem dX2_passDay_40 : decode cX2_passDay 40 = .ok (.iinc 2 1, 3) := by decide +kernel
theorem dX2_passDay_43 : decode cX2_passDay 43 = .ok (.goto (-26), 3) := by decide +kernel
theorem dX2_passDay_46 : decode cX2_passDay 46 = .ok (.aload_n 0, 1) := by decide +kernel
theorem dX2_passDay_47 : decode cX2_passDay 47 = .ok (.invokevirtual 135, 3) := by decide +kernel
theorem dX2_passDay_50 : decode cX2_passDay 50 = .ok (.aload_n 0, 1) := by decide +kernel
theorem dX2_passDay_51 : decode cX2_passDay 51 = .ok (.getfield 67, 3) := by decide +kernel
theorem dX2_passDay_54 : decode cX2_passDay 54 = .ok (.iload_n 1, 1) := by decide +kernel
theorem dX2_passDay_55 : decode cX2_passDay 55 = .ok (.isub, 1) := by decide +kernel
theorem dX2_passDay_56 : decode cX2_passDay 56 = .ok (.ireturn, 1) := by decide +kernel
theorem dX2_renewWare_0 : decode cX2_renewWare 0 = .ok (.aload_n 0, 1) := by decide +kernel
theorem dX2_renewWare_1 : decode cX2_renewWare 1 = .ok (.iload_n 1, 1) := by decide +kernel
theorem dX2_renewWare_2 : decode cX2_renewWare 2 = .ok (.invokevirtual 107, 3) := by decide +kernel
theorem dX2_renewWare_5 : decode cX2_renewWare 5 = .ok (.ifCond .eq 4, 3) := by decide +kernel
theorem dX2_renewWare_8 : decode cX2_renewWare 8 = .ok (.return_, 1) := by decide +kernel
theorem dX2_renewWare_9 : decode cX2_renewWare 9 = .ok (.aload_n 0, 1) := by decide +kernel
theorem dX2_renewWare_10 : decode cX2_renewWare 10 = .ok (.iload_n 1, 1) := by decide +kernel
theorem dX2_renewWare_11 : decode cX2_renewWare 11 = .ok (.invokevirtual 94, 3) := by decide +kernel
theorem dX2_renewWare_14 : decode cX2_renewWare 14 = .ok (.ifCond .eq 13, 3) := by decide +kernel
theorem dX2_renewWare_17 : decode cX2_renewWare 17 = .ok (.aload_n 0, 1) := by decide +kernel
theorem dX2_renewWare_18 : decode cX2_renewWare 18 = .ok (.dup, 1) := by decide +kernel
theorem dX2_renewWare_19 : decode cX2_renewWare 19 = .ok (.getfield 67, 3) := by decide +kernel
theorem dX2_renewWare_22 : decode cX2_renewWare 22 = .ok (.iconst 1, 1) := by decide +kernel
theorem dX2_renewWare_23 : decode cX2_renewWare 23 = .ok (.iadd, 1) := by decide +kernel
theorem dX2_renewWare_24 : decode cX2_renewWare 24 = .ok (.putfield 67, 3) := by decide +kernel
theorem dX2_renewWare_27 : decode cX2_renewWare 27 = .ok (.aload_n 0, 1) := by decide +kernel
theorem dX2_renewWare_28 : decode cX2_renewWare 28 = .ok (.iload_n 1, 1) := by decide +kernel
theorem dX2_renewWare_29 : decode cX2_renewWare 29 = .ok (.invokevirtual 83, 3) := by decide +kernel
theorem dX2_renewWare_32 : decode cX2_renewWare 32 = .ok (.return_, 1) := by decide +kernel
theorem dX2_drawLot_0 : decode cX2_drawLot 0 = .ok (.aload_n 0, 1) := by decide +kernel
theorem dX2_drawLot_1 : decode cX2_drawLot 1 = .ok (.sipush 421, 3) := by decide +kernel
theorem dX2_drawLot_4 : decode cX2_drawLot 4 = .ok (.aload_n 0, 1) := by decide +kernel
theorem dX2_drawLot_5 : decode cX2_drawLot 5 = .ok (.getfield 37, 3) := by decide +kernel
theorem dX2_drawLot_8 : decode cX2_drawLot 8 = .ok (.imul, 1) := by decide +kernel
theorem dX2_drawLot_9 : decode cX2_drawLot 9 = .ok (.sipush 1663, 3) := by decide +kernel
theorem dX2_drawLot_12 : decode cX2_drawLot 12 = .ok (.iadd, 1) := by decide +kernel
theorem dX2_drawLot_13 : decode cX2_drawLot 13 = .ok (.sipush 10000, 3) := by decide +kernel
theorem dX2_drawLot_16 : decode cX2_drawLot 16 = .ok (.irem, 1) := by decide +kernel
theorem dX2_drawLot_17 : decode cX2_drawLot 17 = .ok (.putfield 37, 3) := by decide +kernel
theorem dX2_drawLot_20 : decode cX2_drawLot 20 = .ok (.aload_n 0, 1) := by decide +kernel
theorem dX2_drawLot_21 : decode cX2_drawLot 21 = .ok (.getfield 61, 3) := by decide +kernel
theorem dX2_drawLot_24 : decode cX2_drawLot 24 = .ok (.iconst 1, 1) := by decide +kernel
theorem dX2_drawLot_25 : decode cX2_drawLot 25 = .ok (.iadd, 1) := by decide +kernel
theorem dX2_drawLot_26 : decode cX2_drawLot 26 = .ok (.istore_n 1, 1) := by decide +kernel
theorem dX2_drawLot_27 : decode cX2_drawLot 27 = .ok (.iload_n 1, 1) := by decide +kernel
theorem dX2_drawLot_28 : decode cX2_drawLot 28 = .ok (.ifCond .le 12, 3) := by decide +kernel
theorem dX2_drawLot_31 : decode cX2_drawLot 31 = .ok (.aload_n 0, 1) := by decide +kernel
theorem dX2_drawLot_32 : decode cX2_drawLot 32 = .ok (.getfield 37, 3) := by decide +kernel
theorem dX2_drawLot_35 : decode cX2_drawLot 35 = .ok (.iload_n 1, 1) := by decide +kernel
theorem dX2_drawLot_36 : decode cX2_drawLot 36 = .ok (.irem, 1) := by decide +kernel
theorem dX2_drawLot_37 : decode cX2_drawLot 37 = .ok (.goto 7, 3) := by decide +kernel
theorem dX2_drawLot_40 : decode cX2_drawLot 40 = .ok (.aload_n 0, 1) := by decide +kernel
theorem dX2_drawLot_41 : decode cX2_drawLot 41 = .ok (.getfield 61, 3) := by decide +kernel
theorem dX2_drawLot_44 : decode cX2_drawLot 44 = .ok (.istore_n 2, 1) := by decide +kernel
theorem dX2_drawLot_45 : decode cX2_drawLot 45 = .ok (.aload_n 0, 1) := by decide +kernel
theorem dX2_drawLot_46 : decode cX2_drawLot 46 = .ok (.aload_n 0, 1) := by decide +kernel
theorem dX2_drawLot_47 : decode cX2_drawLot 47 = .ok (.iload_n 2, 1) := by decide +kernel
theorem dX2_drawLot_48 : decode cX2_drawLot 48 = .ok (.invokevirtual 79, 3) := by decide +kernel
theorem dX2_drawLot_51 : decode cX2_drawLot 51 = .ok (.ifCond .eq 7, 3) := by decide +kernel
theorem dX2_drawLot_54 : decode cX2_drawLot 54 = .ok (.iload_n 2, 1) := by decide +kernel
theorem dX2_drawLot_55 : decode cX2_drawLot 55 = .ok (.goto 4, 3) := by decide +kernel
theorem dX2_drawLot_58 : decode cX2_drawLot 58 = .ok (.iconst (-1), 1) := by decide +kernel
theorem dX2_drawLot_59 : decode cX2_drawLot 59 = .ok (.putfield 40, 3) := by decide +kernel
theorem dX2_drawLot_62 : decode cX2_drawLot 62 = .ok (.return_, 1) := by decide +kernel
theorem dX2_needs_0 : decode cX2_needs 0 = .ok (.iconst 0, 1) := by decide +kernel
theorem dX2_needs_1 : decode cX2_needs 1 = .ok (.istore_n 1, 1) := by decide +kernel
theorem dX2_needs_2 : decode cX2_needs 2 = .ok (.iconst 0, 1) := by decide +kernel
theorem dX2_needs_3 : decode cX2_needs 3 = .ok (.istore_n 2, 1) := by decide +kernel
theorem dX2_needs_4 : decode cX2_needs 4 = .ok (.iload_n 2, 1) := by decide +kernel
theorem dX2_needs_5 : decode cX2_needs 5 = .ok (.aload_n 0, 1) := by decide +kernel
theorem dX2_needs_6 : decode cX2_needs 6 = .ok (.getfield 61, 3) := by decide +kernel
theorem dX2_needs_9 : decode cX2_needs 9 = .ok (.if_icmp .ge 21, 3) := by decide +kernel
theorem dX2_needs_12 : decode cX2_needs 12 = .ok (.iload_n 1, 1) := by decide +kernel
theorem dX2_needs_13 : decode cX2_needs 13 = .ok (.aload_n 0, 1) := by decide +kernel
theorem dX2_needs_14 : decode cX2_needs 14 = .ok (.getfield 15, 3) := by decide +kernel
theorem dX2_needs_17 : decode cX2_needs 17 = .ok (.iload_n 2, 1) := by decide +kernel
theorem dX2_needs_18 : decode cX2_needs 18 = .ok (.iaload, 1) := by decide +kernel
theorem dX2_needs_19 : decode cX2_needs 19 = .ok (.invokestatic 138, 3) := by decide +kernel
theorem dX2_needs_22 : decode cX2_needs 22 = .ok (.iadd, 1) := by decide +kernel
theorem dX2_needs_23 : decode cX2_needs 23 = .ok (.istore_n 1, 1) := by decide +kernel
theorem dX2_needs_24 : decode cX2_needs 24 = .ok (.iinc 2 1, 3) := by decide +kernel
theorem dX2_needs_27 : decode cX2_needs 27 = .ok (.goto (-23), 3) := by decide +kernel
theorem dX2_needs_30 : decode cX2_needs 30 = .ok (.iload_n 1, 1) := by decide +kernel
theorem dX2_needs_31 : decode cX2_needs 31 = .ok (.ireturn, 1) := by decide +kernel
theorem dX2_needsMet_0 : decode cX2_needsMet 0 = .ok (.iconst 0, 1) := by decide +kernel
theorem dX2_needsMet_1 : decode cX2_needsMet 1 = .ok (.istore_n 1, 1) := by decide +kernel
theorem dX2_needsMet_2 : decode cX2_needsMet 2 = .ok (.iconst 0, 1) := by decide +kernel
theorem dX2_needsMet_3 : decode cX2_needsMet 3 = .ok (.istore_n 2, 1) := by decide +kernel
theorem dX2_needsMet_4 : decode cX2_needsMet 4 = .ok (.iload_n 2, 1) := by decide +kernel
theorem dX2_needsMet_5 : decode cX2_needsMet 5 = .ok (.bipush 6, 2) := by decide +kernel
theorem dX2_needsMet_7 : decode cX2_needsMet 7 = .ok (.if_icmp .ge 18, 3) := by decide +kernel
theorem dX2_needsMet_10 : decode cX2_needsMet 10 = .ok (.iload_n 1, 1) := by decide +kernel
theorem dX2_needsMet_11 : decode cX2_needsMet 11 = .ok (.aload_n 0, 1) := by decide +kernel
theorem dX2_needsMet_12 : decode cX2_needsMet 12 = .ok (.getfield 30, 3) := by decide +kernel
theorem dX2_needsMet_15 : decode cX2_needsMet 15 = .ok (.iload_n 2, 1) := by decide +kernel
theorem dX2_needsMet_16 : decode cX2_needsMet 16 = .ok (.iaload, 1) := by decide +kernel
theorem dX2_needsMet_17 : decode cX2_needsMet 17 = .ok (.iadd, 1) := by decide +kernel
theorem dX2_needsMet_18 : decode cX2_needsMet 18 = .ok (.istore_n 1, 1) := by decide +kernel
theorem dX2_needsMet_19 : decode cX2_needsMet 19 = .ok (.iinc 2 1, 3) := by decide +kernel
theorem dX2_needsMet_22 : decode cX2_needsMet 22 = .ok (.goto (-18), 3) := by decide +kernel
theorem dX2_needsMet_25 : decode cX2_needsMet 25 = .ok (.iload_n 1, 1) := by decide +kernel
theorem dX2_needsMet_26 : decode cX2_needsMet 26 = .ok (.ireturn, 1) := by decide +kernel
theorem dX2_waresOfKind_0 : decode cX2_waresOfKind 0 = .ok (.iconst 0, 1) := by decide +kernel
theorem dX2_waresOfKind_1 : decode cX2_waresOfKind 1 = .ok (.istore_n 2, 1) := by decide +kernel
theorem dX2_waresOfKind_2 : decode cX2_waresOfKind 2 = .ok (.iconst 0, 1) := by decide +kernel
theorem dX2_waresOfKind_3 : decode cX2_waresOfKind 3 = .ok (.istore_n 3, 1) := by decide +kernel
theorem dX2_waresOfKind_4 : decode cX2_waresOfKind 4 = .ok (.iload_n 3, 1) := by decide +kernel
theorem dX2_waresOfKind_5 : decode cX2_waresOfKind 5 = .ok (.aload_n 0, 1) := by decide +kernel
theorem dX2_waresOfKind_6 : decode cX2_waresOfKind 6 = .ok (.getfield 61, 3) := by decide +kernel
theorem dX2_waresOfKind_9 : decode cX2_waresOfKind 9 = .ok (.if_icmp .ge 22, 3) := by decide +kernel
theorem dX2_waresOfKind_12 : decode cX2_waresOfKind 12 = .ok (.aload_n 0, 1) := by decide +kernel
theorem dX2_waresOfKind_13 : decode cX2_waresOfKind 13 = .ok (.getfield 18, 3) := by decide +kernel
theorem dX2_waresOfKind_16 : decode cX2_waresOfKind 16 = .ok (.iload_n 3, 1) := by decide +kernel
theorem dX2_waresOfKind_17 : decode cX2_waresOfKind 17 = .ok (.iaload, 1) := by decide +kernel
theorem dX2_waresOfKind_18 : decode cX2_waresOfKind 18 = .ok (.iload_n 1, 1) := by decide +kernel
theorem dX2_waresOfKind_19 : decode cX2_waresOfKind 19 = .ok (.if_icmp .ne 6, 3) := by decide +kernel
theorem dX2_waresOfKind_22 : decode cX2_waresOfKind 22 = .ok (.iinc 2 1, 3) := by decide +kernel
theorem dX2_waresOfKind_25 : decode cX2_waresOfKind 25 = .ok (.iinc 3 1, 3) := by decide +kernel
theorem dX2_waresOfKind_28 : decode cX2_waresOfKind 28 = .ok (.goto (-24), 3) := by decide +kernel
theorem dX2_waresOfKind_31 : decode cX2_waresOfKind 31 = .ok (.iload_n 2, 1) := by decide +kernel
theorem dX2_waresOfKind_32 : decode cX2_waresOfKind 32 = .ok (.ireturn, 1) := by decide +kernel
theorem dX2_soundWaresOfKind_0 : decode cX2_soundWaresOfKind 0 = .ok (.iconst 0, 1) := by decide +kernel
theorem dX2_soundWaresOfKind_1 : decode cX2_soundWaresOfKind 1 = .ok (.istore_n 2, 1) := by decide +kernel
theorem dX2_soundWaresOfKind_2 : decode cX2_soundWaresOfKind 2 = .ok (.iconst 0, 1) := by decide +kernel
theorem dX2_soundWaresOfKind_3 : decode cX2_soundWaresOfKind 3 = .ok (.istore_n 3, 1) := by decide +kernel
theorem dX2_soundWaresOfKind_4 : decode cX2_soundWaresOfKind 4 = .ok (.iload_n 3, 1) := by decide +kernel
theorem dX2_soundWaresOfKind_5 : decode cX2_soundWaresOfKind 5 = .ok (.aload_n 0, 1) := by decide +kernel
theorem dX2_soundWaresOfKind_6 : decode cX2_soundWaresOfKind 6 = .ok (.getfield 61, 3) := by decide +kernel
theorem dX2_soundWaresOfKind_9 : decode cX2_soundWaresOfKind 9 = .ok (.if_icmp .ge 30, 3) := by decide +kernel
theorem dX2_soundWaresOfKind_12 : decode cX2_soundWaresOfKind 12 = .ok (.aload_n 0, 1) := by decide +kernel
theorem dX2_soundWaresOfKind_13 : decode cX2_soundWaresOfKind 13 = .ok (.getfield 18, 3) := by decide +kernel
theorem dX2_soundWaresOfKind_16 : decode cX2_soundWaresOfKind 16 = .ok (.iload_n 3, 1) := by decide +kernel
theorem dX2_soundWaresOfKind_17 : decode cX2_soundWaresOfKind 17 = .ok (.iaload, 1) := by decide +kernel
theorem dX2_soundWaresOfKind_18 : decode cX2_soundWaresOfKind 18 = .ok (.iload_n 1, 1) := by decide +kernel
theorem dX2_soundWaresOfKind_19 : decode cX2_soundWaresOfKind 19 = .ok (.if_icmp .ne 14, 3) := by decide +kernel
theorem dX2_soundWaresOfKind_22 : decode cX2_soundWaresOfKind 22 = .ok (.aload_n 0, 1) := by decide +kernel
theorem dX2_soundWaresOfKind_23 : decode cX2_soundWaresOfKind 23 = .ok (.iload_n 3, 1) := by decide +kernel
theorem dX2_soundWaresOfKind_24 : decode cX2_soundWaresOfKind 24 = .ok (.invokevirtual 107, 3) := by decide +kernel
theorem dX2_soundWaresOfKind_27 : decode cX2_soundWaresOfKind 27 = .ok (.ifCond .eq 6, 3) := by decide +kernel
theorem dX2_soundWaresOfKind_30 : decode cX2_soundWaresOfKind 30 = .ok (.iinc 2 1, 3) := by decide +kernel
theorem dX2_soundWaresOfKind_33 : decode cX2_soundWaresOfKind 33 = .ok (.iinc 3 1, 3) := by decide +kernel
theorem dX2_soundWaresOfKind_36 : decode cX2_soundWaresOfKind 36 = .ok (.goto (-32), 3) := by decide +kernel
theorem dX2_soundWaresOfKind_39 : decode cX2_soundWaresOfKind 39 = .ok (.iload_n 2, 1) := by decide +kernel
theorem dX2_soundWaresOfKind_40 : decode cX2_soundWaresOfKind 40 = .ok (.ireturn, 1) := by decide +kernel
theorem dX2_soundWares_0 : decode cX2_soundWares 0 = .ok (.iconst 0, 1) := by decide +kernel
theorem dX2_soundWares_1 : decode cX2_soundWares 1 = .ok (.istore_n 1, 1) := by decide +kernel
theorem dX2_soundWares_2 : decode cX2_soundWares 2 = .ok (.iconst 0, 1) := by decide +kernel
theorem dX2_soundWares_3 : decode cX2_soundWares 3 = .ok (.istore_n 2, 1) := by decide +kernel
theorem dX2_soundWares_4 : decode cX2_soundWares 4 = .ok (.iload_n 2, 1) := by decide +kernel
theorem dX2_soundWares_5 : decode cX2_soundWares 5 = .ok (.aload_n 0, 1) := by decide +kernel
theorem dX2_soundWares_6 : decode cX2_soundWares 6 = .ok (.getfield 61, 3) := by decide +kernel
theorem dX2_soundWares_9 : decode cX2_soundWares 9 = .ok (.if_icmp .ge 20, 3) := by decide +kernel
theorem dX2_soundWares_12 : decode cX2_soundWares 12 = .ok (.aload_n 0, 1) := by decide +kernel
theorem dX2_soundWares_13 : decode cX2_soundWares 13 = .ok (.iload_n 2, 1) := by decide +kernel
theorem dX2_soundWares_14 : decode cX2_soundWares 14 = .ok (.invokevirtual 107, 3) := by decide +kernel
theorem dX2_soundWares_17 : decode cX2_soundWares 17 = .ok (.ifCond .eq 6, 3) := by decide +kernel
theorem dX2_soundWares_20 : decode cX2_soundWares 20 = .ok (.iinc 1 1, 3) := by decide +kernel
theorem dX2_soundWares_23 : decode cX2_soundWares 23 = .ok (.iinc 2 1, 3) := by decide +kernel
theorem dX2_soundWares_26 : decode cX2_soundWares 26 = .ok (.goto (-22), 3) := by decide +kernel
theorem dX2_soundWares_29 : decode cX2_soundWares 29 = .ok (.iload_n 1, 1) := by decide +kernel
theorem dX2_soundWares_30 : decode cX2_soundWares 30 = .ok (.ireturn, 1) := by decide +kernel
theorem dX2_spoiltWares_0 : decode cX2_spoiltWares 0 = .ok (.iconst 0, 1) := by decide +kernel
theorem dX2_spoiltWares_1 : decode cX2_spoiltWares 1 = .ok (.istore_n 1, 1) := by decide +kernel
theorem dX2_spoiltWares_2 : decode cX2_spoiltWares 2 = .ok (.iconst 0, 1) := by decide +kernel
theorem dX2_spoiltWares_3 : decode cX2_spoiltWares 3 = .ok (.istore_n 2, 1) := by decide +kernel
theorem dX2_spoiltWares_4 : decode cX2_spoiltWares 4 = .ok (.iload_n 2, 1) := by decide +kernel
theorem dX2_spoiltWares_5 : decode cX2_spoiltWares 5 = .ok (.aload_n 0, 1) := by decide +kernel
theorem dX2_spoiltWares_6 : decode cX2_spoiltWares 6 = .ok (.getfield 61, 3) := by decide +kernel
theorem dX2_spoiltWares_9 : decode cX2_spoiltWares 9 = .ok (.if_icmp .ge 28, 3) := by decide +kernel
theorem dX2_spoiltWares_12 : decode cX2_spoiltWares 12 = .ok (.aload_n 0, 1) := by decide +kernel
theorem dX2_spoiltWares_13 : decode cX2_spoiltWares 13 = .ok (.iload_n 2, 1) := by decide +kernel
theorem dX2_spoiltWares_14 : decode cX2_spoiltWares 14 = .ok (.invokevirtual 94, 3) := by decide +kernel
theorem dX2_spoiltWares_17 : decode cX2_spoiltWares 17 = .ok (.ifCond .eq 14, 3) := by decide +kernel
theorem dX2_spoiltWares_20 : decode cX2_spoiltWares 20 = .ok (.aload_n 0, 1) := by decide +kernel
theorem dX2_spoiltWares_21 : decode cX2_spoiltWares 21 = .ok (.iload_n 2, 1) := by decide +kernel
theorem dX2_spoiltWares_22 : decode cX2_spoiltWares 22 = .ok (.invokevirtual 107, 3) := by decide +kernel
theorem dX2_spoiltWares_25 : decode cX2_spoiltWares 25 = .ok (.ifCond .ne 6, 3) := by decide +kernel
theorem dX2_spoiltWares_28 : decode cX2_spoiltWares 28 = .ok (.iinc 1 1, 3) := by decide +kernel
theorem dX2_spoiltWares_31 : decode cX2_spoiltWares 31 = .ok (.iinc 2 1, 3) := by decide +kernel
theorem dX2_spoiltWares_34 : decode cX2_spoiltWares 34 = .ok (.goto (-30), 3) := by decide +kernel
theorem dX2_spoiltWares_37 : decode cX2_spoiltWares 37 = .ok (.iload_n 1, 1) := by decide +kernel
theorem dX2_spoiltWares_38 : decode cX2_spoiltWares 38 = .ok (.ireturn, 1) := by decide +kernel
theorem dX2_daysLeftOfAll_0 : decode cX2_daysLeftOfAll 0 = .ok (.iconst 0, 1) := by decide +kernel
theorem dX2_daysLeftOfAll_1 : decode cX2_daysLeftOfAll 1 = .ok (.istore_n 1, 1) := by decide +kernel
theorem dX2_daysLeftOfAll_2 : decode cX2_daysLeftOfAll 2 = .ok (.iconst 0, 1) := by decide +kernel
theorem dX2_daysLeftOfAll_3 : decode cX2_daysLeftOfAll 3 = .ok (.istore_n 2, 1) := by decide +kernel
theorem dX2_daysLeftOfAll_4 : decode cX2_daysLeftOfAll 4 = .ok (.iload_n 2, 1) := by decide +kernel
theorem dX2_daysLeftOfAll_5 : decode cX2_daysLeftOfAll 5 = .ok (.aload_n 0, 1) := by decide +kernel
theorem dX2_daysLeftOfAll_6 : decode cX2_daysLeftOfAll 6 = .ok (.getfield 61, 3) := by decide +kernel
theorem dX2_daysLeftOfAll_9 : decode cX2_daysLeftOfAll 9 = .ok (.if_icmp .ge 17, 3) := by decide +kernel
theorem dX2_daysLeftOfAll_12 : decode cX2_daysLeftOfAll 12 = .ok (.iload_n 1, 1) := by decide +kernel
theorem dX2_daysLeftOfAll_13 : decode cX2_daysLeftOfAll 13 = .ok (.aload_n 0, 1) := by decide +kernel
theorem dX2_daysLeftOfAll_14 : decode cX2_daysLeftOfAll 14 = .ok (.iload_n 2, 1) := by decide +kernel
theorem dX2_daysLeftOfAll_15 : decode cX2_daysLeftOfAll 15 = .ok (.invokevirtual 90, 3) := by decide +kernel
theorem dX2_daysLeftOfAll_18 : decode cX2_daysLeftOfAll 18 = .ok (.iadd, 1) := by decide +kernel
theorem dX2_daysLeftOfAll_19 : decode cX2_daysLeftOfAll 19 = .ok (.istore_n 1, 1) := by decide +kernel
theorem dX2_daysLeftOfAll_20 : decode cX2_daysLeftOfAll 20 = .ok (.iinc 2 1, 3) := by decide +kernel
theorem dX2_daysLeftOfAll_23 : decode cX2_daysLeftOfAll 23 = .ok (.goto (-19), 3) := by decide +kernel
theorem dX2_daysLeftOfAll_26 : decode cX2_daysLeftOfAll 26 = .ok (.iload_n 1, 1) := by decide +kernel
theorem dX2_daysLeftOfAll_27 : decode cX2_daysLeftOfAll 27 = .ok (.ireturn, 1) := by decide +kernel
theorem dX2_tradersWhoWant_0 : decode cX2_tradersWhoWant 0 = .ok (.iconst 0, 1) := by decide +kernel
theorem dX2_tradersWhoWant_1 : decode cX2_tradersWhoWant 1 = .ok (.istore_n 2, 1) := by decide +kernel
theorem dX2_tradersWhoWant_2 : decode cX2_tradersWhoWant 2 = .ok (.iconst 0, 1) := by decide +kernel
theorem dX2_tradersWhoWant_3 : decode cX2_tradersWhoWant 3 = .ok (.istore_n 3, 1) := by decide +kernel
theorem dX2_tradersWhoWant_4 : decode cX2_tradersWhoWant 4 = .ok (.iload_n 3, 1) := by decide +kernel
theorem dX2_tradersWhoWant_5 : decode cX2_tradersWhoWant 5 = .ok (.aload_n 0, 1) := by decide +kernel
theorem dX2_tradersWhoWant_6 : decode cX2_tradersWhoWant 6 = .ok (.getfield 61, 3) := by decide +kernel
theorem dX2_tradersWhoWant_9 : decode cX2_tradersWhoWant 9 = .ok (.if_icmp .ge 25, 3) := by decide +kernel
theorem dX2_tradersWhoWant_12 : decode cX2_tradersWhoWant 12 = .ok (.aload_n 0, 1) := by decide +kernel
theorem dX2_tradersWhoWant_13 : decode cX2_tradersWhoWant 13 = .ok (.getfield 15, 3) := by decide +kernel
theorem dX2_tradersWhoWant_16 : decode cX2_tradersWhoWant 16 = .ok (.iload_n 3, 1) := by decide +kernel
theorem dX2_tradersWhoWant_17 : decode cX2_tradersWhoWant 17 = .ok (.iaload, 1) := by decide +kernel
theorem dX2_tradersWhoWant_18 : decode cX2_tradersWhoWant 18 = .ok (.iload_n 1, 1) := by decide +kernel
theorem dX2_tradersWhoWant_19 : decode cX2_tradersWhoWant 19 = .ok (.invokestatic 103, 3) := by decide +kernel
theorem dX2_tradersWhoWant_22 : decode cX2_tradersWhoWant 22 = .ok (.ifCond .eq 6, 3) := by decide +kernel
theorem dX2_tradersWhoWant_25 : decode cX2_tradersWhoWant 25 = .ok (.iinc 2 1, 3) := by decide +kernel
theorem dX2_tradersWhoWant_28 : decode cX2_tradersWhoWant 28 = .ok (.iinc 3 1, 3) := by decide +kernel
theorem dX2_tradersWhoWant_31 : decode cX2_tradersWhoWant 31 = .ok (.goto (-27), 3) := by decide +kernel
theorem dX2_tradersWhoWant_34 : decode cX2_tradersWhoWant 34 = .ok (.iload_n 2, 1) := by decide +kernel
theorem dX2_tradersWhoWant_35 : decode cX2_tradersWhoWant 35 = .ok (.ireturn, 1) := by decide +kernel
theorem dX2_tradersWhoMake_0 : decode cX2_tradersWhoMake 0 = .ok (.iconst 0, 1) := by decide +kernel
theorem dX2_tradersWhoMake_1 : decode cX2_tradersWhoMake 1 = .ok (.istore_n 2, 1) := by decide +kernel
theorem dX2_tradersWhoMake_2 : decode cX2_tradersWhoMake 2 = .ok (.iconst 0, 1) := by decide +kernel
theorem dX2_tradersWhoMake_3 : decode cX2_tradersWhoMake 3 = .ok (.istore_n 3, 1) := by decide +kernel
theorem dX2_tradersWhoMake_4 : decode cX2_tradersWhoMake 4 = .ok (.iload_n 3, 1) := by decide +kernel
theorem dX2_tradersWhoMake_5 : decode cX2_tradersWhoMake 5 = .ok (.aload_n 0, 1) := by decide +kernel
theorem dX2_tradersWhoMake_6 : decode cX2_tradersWhoMake 6 = .ok (.getfield 61, 3) := by decide +kernel
theorem dX2_tradersWhoMake_9 : decode cX2_tradersWhoMake 9 = .ok (.if_icmp .ge 22, 3) := by decide +kernel
theorem dX2_tradersWhoMake_12 : decode cX2_tradersWhoMake 12 = .ok (.aload_n 0, 1) := by decide +kernel
theorem dX2_tradersWhoMake_13 : decode cX2_tradersWhoMake 13 = .ok (.getfield 9, 3) := by decide +kernel
theorem dX2_tradersWhoMake_16 : decode cX2_tradersWhoMake 16 = .ok (.iload_n 3, 1) := by decide +kernel
theorem dX2_tradersWhoMake_17 : decode cX2_tradersWhoMake 17 = .ok (.iaload, 1) := by decide +kernel
theorem dX2_tradersWhoMake_18 : decode cX2_tradersWhoMake 18 = .ok (.iload_n 1, 1) := by decide +kernel
theorem dX2_tradersWhoMake_19 : decode cX2_tradersWhoMake 19 = .ok (.if_icmp .ne 6, 3) := by decide +kernel
theorem dX2_tradersWhoMake_22 : decode cX2_tradersWhoMake 22 = .ok (.iinc 2 1, 3) := by decide +kernel
theorem dX2_tradersWhoMake_25 : decode cX2_tradersWhoMake 25 = .ok (.iinc 3 1, 3) := by decide +kernel
theorem dX2_tradersWhoMake_28 : decode cX2_tradersWhoMake 28 = .ok (.goto (-24), 3) := by decide +kernel
theorem dX2_tradersWhoMake_31 : decode cX2_tradersWhoMake 31 = .ok (.iload_n 2, 1) := by decide +kernel
theorem dX2_tradersWhoMake_32 : decode cX2_tradersWhoMake 32 = .ok (.ireturn, 1) := by decide +kernel
theorem dX2_stuckTraders_0 : decode cX2_stuckTraders 0 = .ok (.iconst 0, 1) := by decide +kernel
theorem dX2_stuckTraders_1 : decode cX2_stuckTraders 1 = .ok (.istore_n 1, 1) := by decide +kernel
theorem dX2_stuckTraders_2 : decode cX2_stuckTraders 2 = .ok (.iconst 0, 1) := by decide +kernel
theorem dX2_stuckTraders_3 : decode cX2_stuckTraders 3 = .ok (.istore_n 2, 1) := by decide +kernel
theorem dX2_stuckTraders_4 : decode cX2_stuckTraders 4 = .ok (.iload_n 2, 1) := by decide +kernel
theorem dX2_stuckTraders_5 : decode cX2_stuckTraders 5 = .ok (.aload_n 0, 1) := by decide +kernel
theorem dX2_stuckTraders_6 : decode cX2_stuckTraders 6 = .ok (.getfield 61, 3) := by decide +kernel
theorem dX2_stuckTraders_9 : decode cX2_stuckTraders 9 = .ok (.if_icmp .ge 29, 3) := by decide +kernel
theorem dX2_stuckTraders_12 : decode cX2_stuckTraders 12 = .ok (.aload_n 0, 1) := by decide +kernel
theorem dX2_stuckTraders_13 : decode cX2_stuckTraders 13 = .ok (.getfield 15, 3) := by decide +kernel
theorem dX2_stuckTraders_16 : decode cX2_stuckTraders 16 = .ok (.iload_n 2, 1) := by decide +kernel
theorem dX2_stuckTraders_17 : decode cX2_stuckTraders 17 = .ok (.iaload, 1) := by decide +kernel
theorem dX2_stuckTraders_18 : decode cX2_stuckTraders 18 = .ok (.ifCond .eq 14, 3) := by decide +kernel
theorem dX2_stuckTraders_21 : decode cX2_stuckTraders 21 = .ok (.aload_n 0, 1) := by decide +kernel
theorem dX2_stuckTraders_22 : decode cX2_stuckTraders 22 = .ok (.iload_n 2, 1) := by decide +kernel
theorem dX2_stuckTraders_23 : decode cX2_stuckTraders 23 = .ok (.invokevirtual 143, 3) := by decide +kernel
theorem dX2_stuckTraders_26 : decode cX2_stuckTraders 26 = .ok (.ifCond .ne 6, 3) := by decide +kernel
theorem dX2_stuckTraders_29 : decode cX2_stuckTraders 29 = .ok (.iinc 1 1, 3) := by decide +kernel
theorem dX2_stuckTraders_32 : decode cX2_stuckTraders 32 = .ok (.iinc 2 1, 3) := by decide +kernel
theorem dX2_stuckTraders_35 : decode cX2_stuckTraders 35 = .ok (.goto (-31), 3) := by decide +kernel
theorem dX2_stuckTraders_38 : decode cX2_stuckTraders 38 = .ok (.iload_n 1, 1) := by decide +kernel
theorem dX2_stuckTraders_39 : decode cX2_stuckTraders 39 = .ok (.ireturn, 1) := by decide +kernel
theorem dX3_init_0 : decode cX3_init 0 = .ok (.aload_n 0, 1) := by decide +kernel
theorem dX3_init_1 : decode cX3_init 1 = .ok (.invokespecial 3, 3) := by decide +kernel
theorem dX3_init_4 : decode cX3_init 4 = .ok (.aload_n 0, 1) := by decide +kernel
theorem dX3_init_5 : decode cX3_init 5 = .ok (.bipush 60, 2) := by decide +kernel
theorem dX3_init_7 : decode cX3_init 7 = .ok (.newarray .char, 2) := by decide +kernel
theorem dX3_init_9 : decode cX3_init 9 = .ok (.putfield 9, 3) := by decide +kernel
theorem dX3_init_12 : decode cX3_init 12 = .ok (.return_, 1) := by decide +kernel
theorem dX3_put_0 : decode cX3_put 0 = .ok (.aload_n 0, 1) := by decide +kernel
theorem dX3_put_1 : decode cX3_put 1 = .ok (.getfield 15, 3) := by decide +kernel
theorem dX3_put_4 : decode cX3_put 4 = .ok (.ifCond .lt 32, 3) := by decide +kernel
theorem dX3_put_7 : decode cX3_put 7 = .ok (.aload_n 0, 1) := by decide +kernel
theorem dX3_put_8 : decode cX3_put 8 = .ok (.getfield 15, 3) := by decide +kernel
theorem dX3_put_11 : decode cX3_put 11 = .ok (.bipush 60, 2) := by decide +kernel
theorem dX3_put_13 : decode cX3_put 13 = .ok (.if_icmp .ge 23, 3) := by decide +kernel
theorem dX3_put_16 : decode cX3_put 16 = .ok (.aload_n 0, 1) := by decide +kernel
theorem dX3_put_17 : decode cX3_put 17 = .ok (.getfield 9, 3) := by decide +kernel
theorem dX3_put_20 : decode cX3_put 20 = .ok (.aload_n 0, 1) := by decide +kernel
theorem dX3_put_21 : decode cX3_put 21 = .ok (.getfield 15, 3) := by decide +kernel
theorem dX3_put_24 : decode cX3_put 24 = .ok (.iload_n 1, 1) := by decide +kernel
theorem dX3_put_25 : decode cX3_put 25 = .ok (.castore, 1) := by decide +kernel
theorem dX3_put_26 : decode cX3_put 26 = .ok (.aload_n 0, 1) := by decide +kernel
theorem dX3_put_27 : decode cX3_put 27 = .ok (.dup, 1) := by decide +kernel
theorem dX3_put_28 : decode cX3_put 28 = .ok (.getfield 15, 3) := by decide +kernel
theorem dX3_put_31 : decode cX3_put 31 = .ok (.iconst 1, 1) := by decide +kernel
theorem dX3_put_32 : decode cX3_put 32 = .ok (.iadd, 1) := by decide +kernel
theorem dX3_put_33 : decode cX3_put 33 = .ok (.putfield 15, 3) := by decide +kernel
theorem dX3_put_36 : decode cX3_put 36 = .ok (.return_, 1) := by decide +kernel
theorem dX3_signAt_0 : decode cX3_signAt 0 = .ok (.iload_n 1, 1) := by decide +kernel
theorem dX3_signAt_1 : decode cX3_signAt 1 = .ok (.ifCond .lt 26, 3) := by decide +kernel
theorem dX3_signAt_4 : decode cX3_signAt 4 = .ok (.iload_n 1, 1) := by decide +kernel
theorem dX3_signAt_5 : decode cX3_signAt 5 = .ok (.aload_n 0, 1) := by decide +kernel
theorem dX3_signAt_6 : decode cX3_signAt 6 = .ok (.getfield 15, 3) := by decide +kernel
theorem dX3_signAt_9 : decode cX3_signAt 9 = .ok (.if_icmp .ge 18, 3) := by decide +kernel
theorem dX3_signAt_12 : decode cX3_signAt 12 = .ok (.iload_n 1, 1) := by decide +kernel
theorem dX3_signAt_13 : decode cX3_signAt 13 = .ok (.bipush 60, 2) := by decide +kernel
theorem dX3_signAt_15 : decode cX3_signAt 15 = .ok (.if_icmp .ge 12, 3) := by decide +kernel
theorem dX3_signAt_18 : decode cX3_signAt 18 = .ok (.aload_n 0, 1) := by decide +kernel
theorem dX3_signAt_19 : decode cX3_signAt 19 = .ok (.getfield 9, 3) := by decide +kernel
theorem dX3_signAt_22 : decode cX3_signAt 22 = .ok (.iload_n 1, 1) := by decide +kernel
theorem dX3_signAt_23 : decode cX3_signAt 23 = .ok (.caload, 1) := by decide +kernel
theorem dX3_signAt_24 : decode cX3_signAt 24 = .ok (.goto 4, 3) := by decide +kernel
theorem dX3_signAt_27 : decode cX3_signAt 27 = .ok (.iconst 0, 1) := by decide +kernel
theorem dX3_signAt_28 : decode cX3_signAt 28 = .ok (.ireturn, 1) := by decide +kernel
theorem dX3_digitAt_0 : decode cX3_digitAt 0 = .ok (.aload_n 0, 1) := by decide +kernel
theorem dX3_digitAt_1 : decode cX3_digitAt 1 = .ok (.iload_n 1, 1) := by decide +kernel
theorem dX3_digitAt_2 : decode cX3_digitAt 2 = .ok (.invokevirtual 19, 3) := by decide +kernel
theorem dX3_digitAt_5 : decode cX3_digitAt 5 = .ok (.bipush 48, 2) := by decide +kernel
theorem dX3_digitAt_7 : decode cX3_digitAt 7 = .ok (.isub, 1) := by decide +kernel
theorem dX3_digitAt_8 : decode cX3_digitAt 8 = .ok (.ireturn, 1) := by decide +kernel
theorem dX3_faultAsTraders_0 : decode cX3_faultAsTraders 0 = .ok (.iconst 0, 1) := by decide +kernel
theorem dX3_faultAsTraders_1 : decode cX3_faultAsTraders 1 = .ok (.istore_n 1, 1) := by decide +kernel
theorem dX3_faultAsTraders_2 : decode cX3_faultAsTraders 2 = .ok (.bipush 48, 2) := by decide +kernel
theorem dX3_faultAsTraders_4 : decode cX3_faultAsTraders 4 = .ok (.istore_n 2, 1) := by decide +kernel
theorem dX3_faultAsTraders_5 : decode cX3_faultAsTraders 5 = .ok (.iconst 0, 1) := by decide +kernel
theorem dX3_faultAsTraders_6 : decode cX3_faultAsTraders 6 = .ok (.istore_n 3, 1) := by decide +kernel
theorem dX3_faultAsTraders_7 : decode cX3_faultAsTraders 7 = .ok (.iload_n 3, 1) := by decide +kernel
theorem dX3_faultAsTraders_8 : decode cX3_faultAsTraders 8 = .ok (.aload_n 0, 1) := by decide +kernel
theorem dX3_faultAsTraders_9 : decode cX3_faultAsTraders 9 = .ok (.getfield 15, 3) := by decide +kernel
theorem dX3_faultAsTraders_12 : decode cX3_faultAsTraders 12 = .ok (.if_icmp .ge 106, 3) := by decide +kernel
theorem dX3_faultAsTraders_15 : decode cX3_faultAsTraders 15 = .ok (.aload_n 0, 1) := by decide +kernel
theorem dX3_faultAsTraders_16 : decode cX3_faultAsTraders 16 = .ok (.iload_n 3, 1) := by decide +kernel
theorem dX3_faultAsTraders_17 : decode cX3_faultAsTraders 17 = .ok (.invokevirtual 19, 3) := by decide +kernel
theorem dX3_faultAsTraders_20 : decode cX3_faultAsTraders 20 = .ok (.istore 4, 2) := by decide +kernel
theorem dX3_faultAsTraders_22 : decode cX3_faultAsTraders 22 = .ok (.iload_n 1, 1) := by decide +kernel
theorem dX3_faultAsTraders_23 : decode cX3_faultAsTraders 23 = .ok (.ifCond .ne 22, 3) := by decide +kernel
theorem dX3_faultAsTraders_26 : decode cX3_faultAsTraders 26 = .ok (.iload 4, 2) := by decide +kernel
theorem dX3_faultAsTraders_28 : decode cX3_faultAsTraders 28 = .ok (.bipush 48, 2) := by decide +kernel
theorem dX3_faultAsTraders_30 : decode cX3_faultAsTraders 30 = .ok (.if_icmp .lt 15, 3) := by decide +kernel
theorem dX3_faultAsTraders_33 : decode cX3_faultAsTraders 33 = .ok (.iload 4, 2) := by decide +kernel
theorem dX3_faultAsTraders_35 : decode cX3_faultAsTraders 35 = .ok (.bipush 53, 2) := by decide +kernel
theorem dX3_faultAsTraders_37 : decode cX3_faultAsTraders 37 = .ok (.if_icmp .gt 8, 3) := by decide +kernel
theorem dX3_faultAsTraders_40 : decode cX3_faultAsTraders 40 = .ok (.iconst 1, 1) := by decide +kernel
theorem dX3_faultAsTraders_41 : decode cX3_faultAsTraders 41 = .ok (.istore_n 1, 1) := by decide +kernel
theorem dX3_faultAsTraders_42 : decode cX3_faultAsTraders 42 = .ok (.goto 70, 3) := by decide +kernel
theorem dX3_faultAsTraders_45 : decode cX3_faultAsTraders 45 = .ok (.iload_n 1, 1) := by decide +kernel
theorem dX3_faultAsTraders_46 : decode cX3_faultAsTraders 46 = .ok (.iconst 1, 1) := by decide +kernel
theorem dX3_faultAsTraders_47 : decode cX3_faultAsTraders 47 = .ok (.if_icmp .ne 18, 3) := by decide +kernel
theorem dX3_faultAsTraders_50 : decode cX3_faultAsTraders 50 = .ok (.iload 4, 2) := by decide +kernel
theorem dX3_faultAsTraders_52 : decode cX3_faultAsTraders 52 = .ok (.bipush 62, 2) := by decide +kernel
theorem dX3_faultAsTraders_54 : decode cX3_faultAsTraders 54 = .ok (.if_icmp .ne 11, 3) := by decide +kernel
theorem dX3_faultAsTraders_57 : decode cX3_faultAsTraders 57 = .ok (.iconst 2, 1) := by decide +kernel
theorem dX3_faultAsTraders_58 : decode cX3_faultAsTraders 58 = .ok (.istore_n 1, 1) := by decide +kernel
theorem dX3_faultAsTraders_59 : decode cX3_faultAsTraders 59 = .ok (.bipush 48, 2) := by decide +kernel
theorem dX3_faultAsTraders_61 : decode cX3_faultAsTraders 61 = .ok (.istore_n 2, 1) := by decide +kernel
theorem dX3_faultAsTraders_62 : decode cX3_faultAsTraders 62 = .ok (.goto 50, 3) := by decide +kernel
theorem dX3_faultAsTraders_65 : decode cX3_faultAsTraders 65 = .ok (.iload_n 1, 1) := by decide +kernel
theorem dX3_faultAsTraders_66 : decode cX3_faultAsTraders 66 = .ok (.iconst 2, 1) := by decide +kernel
theorem dX3_faultAsTraders_67 : decode cX3_faultAsTraders 67 = .ok (.if_icmp .lt 26, 3) := by decide +kernel
theorem dX3_faultAsTraders_70 : decode cX3_faultAsTraders 70 = .ok (.iload 4, 2) := by decide +kernel
theorem dX3_faultAsTraders_72 : decode cX3_faultAsTraders 72 = .ok (.iload_n 2, 1) := by decide +kernel
theorem dX3_faultAsTraders_73 : decode cX3_faultAsTraders 73 = .ok (.if_icmp .lt 20, 3) := by decide +kernel
theorem dX3_faultAsTraders_76 : decode cX3_faultAsTraders 76 = .ok (.iload 4, 2) := by decide +kernel
theorem dX3_faultAsTraders_78 : decode cX3_faultAsTraders 78 = .ok (.bipush 53, 2) := by decide +kernel
theorem dX3_faultAsTraders_80 : decode cX3_faultAsTraders 80 = .ok (.if_icmp .gt 13, 3) := by decide +kernel
theorem dX3_faultAsTraders_83 : decode cX3_faultAsTraders 83 = .ok (.iconst 3, 1) := by decide +kernel
theorem dX3_faultAsTraders_84 : decode cX3_faultAsTraders 84 = .ok (.istore_n 1, 1) := by decide +kernel
theorem dX3_faultAsTraders_85 : decode cX3_faultAsTraders 85 = .ok (.iload 4, 2) := by decide +kernel
theorem dX3_faultAsTraders_87 : decode cX3_faultAsTraders 87 = .ok (.iconst 1, 1) := by decide +kernel
theorem dX3_faultAsTraders_88 : decode cX3_faultAsTraders 88 = .ok (.iadd, 1) := by decide +kernel
theorem dX3_faultAsTraders_89 : decode cX3_faultAsTraders 89 = .ok (.istore_n 2, 1) := by decide +kernel
theorem dX3_faultAsTraders_90 : decode cX3_faultAsTraders 90 = .ok (.goto 22, 3) := by decide +kernel
theorem dX3_faultAsTraders_93 : decode cX3_faultAsTraders 93 = .ok (.iload_n 1, 1) := by decide +kernel
theorem dX3_faultAsTraders_94 : decode cX3_faultAsTraders 94 = .ok (.iconst 3, 1) := by decide +kernel
theorem dX3_faultAsTraders_95 : decode cX3_faultAsTraders 95 = .ok (.if_icmp .ne 15, 3) := by decide +kernel
theorem dX3_faultAsTraders_98 : decode cX3_faultAsTraders 98 = .ok (.iload 4, 2) := by decide +kernel
theorem dX3_faultAsTraders_100 : decode cX3_faultAsTraders 100 = .ok (.bipush 44, 2) := by decide +kernel
theorem dX3_faultAsTraders_102 : decode cX3_faultAsTraders 102 = .ok (.if_icmp .ne 8, 3) := by decide +kernel
theorem dX3_faultAsTraders_105 : decode cX3_faultAsTraders 105 = .ok (.iconst 0, 1) := by decide +kernel
theorem dX3_faultAsTraders_106 : decode cX3_faultAsTraders 106 = .ok (.istore_n 1, 1) := by decide +kernel
theorem dX3_faultAsTraders_107 : decode cX3_faultAsTraders 107 = .ok (.goto 5, 3) := by decide +kernel
theorem dX3_faultAsTraders_110 : decode cX3_faultAsTraders 110 = .ok (.iload_n 3, 1) := by decide +kernel
theorem dX3_faultAsTraders_111 : decode cX3_faultAsTraders 111 = .ok (.ireturn, 1) := by decide +kernel
theorem dX3_faultAsTraders_112 : decode cX3_faultAsTraders 112 = .ok (.iinc 3 1, 3) := by decide +kernel
theorem dX3_faultAsTraders_115 : decode cX3_faultAsTraders 115 = .ok (.goto (-108), 3) := by decide +kernel
theorem dX3_faultAsTraders_118 : decode cX3_faultAsTraders 118 = .ok (.iload_n 1, 1) := by decide +kernel
theorem dX3_faultAsTraders_119 : decode cX3_faultAsTraders 119 = .ok (.iconst 3, 1) := by decide +kernel
theorem dX3_faultAsTraders_120 : decode cX3_faultAsTraders 120 = .ok (.if_icmp .ne 8, 3) := by decide +kernel
theorem dX3_faultAsTraders_123 : decode cX3_faultAsTraders 123 = .ok (.bipush (-4), 2) := by decide +kernel
theorem dX3_faultAsTraders_125 : decode cX3_faultAsTraders 125 = .ok (.goto 7, 3) := by decide +kernel
theorem dX3_faultAsTraders_128 : decode cX3_faultAsTraders 128 = .ok (.aload_n 0, 1) := by decide +kernel
theorem dX3_faultAsTraders_129 : decode cX3_faultAsTraders 129 = .ok (.getfield 15, 3) := by decide +kernel
theorem dX3_faultAsTraders_132 : decode cX3_faultAsTraders 132 = .ok (.ireturn, 1) := by decide +kernel
theorem dX3_faultAsDays_0 : decode cX3_faultAsDays 0 = .ok (.iconst 0, 1) := by decide +kernel
theorem dX3_faultAsDays_1 : decode cX3_faultAsDays 1 = .ok (.istore_n 1, 1) := by decide +kernel
theorem dX3_faultAsDays_2 : decode cX3_faultAsDays 2 = .ok (.iconst 0, 1) := by decide +kernel
theorem dX3_faultAsDays_3 : decode cX3_faultAsDays 3 = .ok (.istore_n 2, 1) := by decide +kernel
theorem dX3_faultAsDays_4 : decode cX3_faultAsDays 4 = .ok (.iload_n 2, 1) := by decide +kernel
theorem dX3_faultAsDays_5 : decode cX3_faultAsDays 5 = .ok (.aload_n 0, 1) := by decide +kernel
theorem dX3_faultAsDays_6 : decode cX3_faultAsDays 6 = .ok (.getfield 15, 3) := by decide +kernel
theorem dX3_faultAsDays_9 : decode cX3_faultAsDays 9 = .ok (.if_icmp .ge 80, 3) := by decide +kernel
theorem dX3_faultAsDays_12 : decode cX3_faultAsDays 12 = .ok (.aload_n 0, 1) := by decide +kernel
theorem dX3_faultAsDays_13 : decode cX3_faultAsDays 13 = .ok (.iload_n 2, 1) := by decide +kernel
theorem dX3_faultAsDays_14 : decode cX3_faultAsDays 14 = .ok (.invokevirtual 19, 3) := by decide +kernel
theorem dX3_faultAsDays_17 : decode cX3_faultAsDays 17 = .ok (.istore_n 3, 1) := by decide +kernel
theorem dX3_faultAsDays_18 : decode cX3_faultAsDays 18 = .ok (.iload_n 1, 1) := by decide +kernel
theorem dX3_faultAsDays_19 : decode cX3_faultAsDays 19 = .ok (.ifCond .le 39, 3) := by decide +kernel
theorem dX3_faultAsDays_22 : decode cX3_faultAsDays 22 = .ok (.iload_n 3, 1) := by decide +kernel
theorem dX3_faultAsDays_23 : decode cX3_faultAsDays 23 = .ok (.bipush 48, 2) := by decide +kernel
theorem dX3_faultAsDays_25 : decode cX3_faultAsDays 25 = .ok (.if_icmp .lt 25, 3) := by decide +kernel
theorem dX3_faultAsDays_28 : decode cX3_faultAsDays 28 = .ok (.iload_n 3, 1) := by decide +kernel
theorem dX3_faultAsDays_29 : decode cX3_faultAsDays 29 = .ok (.bipush 54, 2) := by decide +kernel
theorem dX3_faultAsDays_31 : decode cX3_faultAsDays 31 = .ok (.if_icmp .gt 19, 3) := by decide +kernel
theorem dX3_faultAsDays_34 : decode cX3_faultAsDays 34 = .ok (.iload_n 1, 1) := by decide +kernel
theorem dX3_faultAsDays_35 : decode cX3_faultAsDays 35 = .ok (.iconst 1, 1) := by decide +kernel
theorem dX3_faultAsDays_36 : decode cX3_faultAsDays 36 = .ok (.if_icmp .ne 16, 3) := by decide +kernel
theorem dX3_faultAsDays_39 : decode cX3_faultAsDays 39 = .ok (.iload_n 3, 1) := by decide +kernel
theorem dX3_faultAsDays_40 : decode cX3_faultAsDays 40 = .ok (.aload_n 0, 1) := by decide +kernel
theorem dX3_faultAsDays_41 : decode cX3_faultAsDays 41 = .ok (.iload_n 2, 1) := by decide +kernel
theorem dX3_faultAsDays_42 : decode cX3_faultAsDays 42 = .ok (.iconst 1, 1) := by decide +kernel
theorem dX3_faultAsDays_43 : decode cX3_faultAsDays 43 = .ok (.isub, 1) := by decide +kernel
theorem dX3_faultAsDays_44 : decode cX3_faultAsDays 44 = .ok (.invokevirtual 19, 3) := by decide +kernel
theorem dX3_faultAsDays_47 : decode cX3_faultAsDays 47 = .ok (.if_icmp .ne 5, 3) := by decide +kernel
theorem dX3_faultAsDays_50 : decode cX3_faultAsDays 50 = .ok (.iload_n 2, 1) := by decide +kernel
theorem dX3_faultAsDays_51 : decode cX3_faultAsDays 51 = .ok (.ireturn, 1) := by decide +kernel
theorem dX3_faultAsDays_52 : decode cX3_faultAsDays 52 = .ok (.iinc 1 (-1), 3) := by decide +kernel
theorem dX3_faultAsDays_55 : decode cX3_faultAsDays 55 = .ok (.goto 28, 3) := by decide +kernel
theorem dX3_faultAsDays_58 : decode cX3_faultAsDays 58 = .ok (.iload_n 3, 1) := by decide +kernel
theorem dX3_faultAsDays_59 : decode cX3_faultAsDays 59 = .ok (.bipush 120, 2) := by decide +kernel
theorem dX3_faultAsDays_61 : decode cX3_faultAsDays 61 = .ok (.if_icmp .ne 8, 3) := by decide +kernel
theorem dX3_faultAsDays_64 : decode cX3_faultAsDays 64 = .ok (.iconst 2, 1) := by decide +kernel
theorem dX3_faultAsDays_65 : decode cX3_faultAsDays 65 = .ok (.istore_n 1, 1) := by decide +kernel
theorem dX3_faultAsDays_66 : decode cX3_faultAsDays 66 = .ok (.goto 17, 3) := by decide +kernel
theorem dX3_faultAsDays_69 : decode cX3_faultAsDays 69 = .ok (.iload_n 3, 1) := by decide +kernel
theorem dX3_faultAsDays_70 : decode cX3_faultAsDays 70 = .ok (.bipush 99, 2) := by decide +kernel
theorem dX3_faultAsDays_72 : decode cX3_faultAsDays 72 = .ok (.if_icmp .eq 11, 3) := by decide +kernel
theorem dX3_faultAsDays_75 : decode cX3_faultAsDays 75 = .ok (.iload_n 3, 1) := by decide +kernel
theorem dX3_faultAsDays_76 : decode cX3_faultAsDays 76 = .ok (.bipush 100, 2) := by decide +kernel
theorem dX3_faultAsDays_78 : decode cX3_faultAsDays 78 = .ok (.if_icmp .eq 5, 3) := by decide +kernel
theorem dX3_faultAsDays_81 : decode cX3_faultAsDays 81 = .ok (.iload_n 2, 1) := by decide +kernel
theorem dX3_faultAsDays_82 : decode cX3_faultAsDays 82 = .ok (.ireturn, 1) := by decide +kernel
theorem dX3_faultAsDays_83 : decode cX3_faultAsDays 83 = .ok (.iinc 2 1, 3) := by decide +kernel
theorem dX3_faultAsDays_86 : decode cX3_faultAsDays 86 = .ok (.goto (-82), 3) := by decide +kernel
theorem dX3_faultAsDays_89 : decode cX3_faultAsDays 89 = .ok (.aload_n 0, 1) := by decide +kernel
theorem dX3_faultAsDays_90 : decode cX3_faultAsDays 90 = .ok (.getfield 15, 3) := by decide +kernel
theorem dX3_faultAsDays_93 : decode cX3_faultAsDays 93 = .ok (.ifCond .le 12, 3) := by decide +kernel
theorem dX3_faultAsDays_96 : decode cX3_faultAsDays 96 = .ok (.iload_n 1, 1) := by decide +kernel
theorem dX3_faultAsDays_97 : decode cX3_faultAsDays 97 = .ok (.ifCond .ne 8, 3) := by decide +kernel
theorem dX3_faultAsDays_100 : decode cX3_faultAsDays 100 = .ok (.bipush (-4), 2) := by decide +kernel
theorem dX3_faultAsDays_102 : decode cX3_faultAsDays 102 = .ok (.goto 7, 3) := by decide +kernel
theorem dX3_faultAsDays_105 : decode cX3_faultAsDays 105 = .ok (.aload_n 0, 1) := by decide +kernel
theorem dX3_faultAsDays_106 : decode cX3_faultAsDays 106 = .ok (.getfield 15, 3) := by decide +kernel
theorem dX3_faultAsDays_109 : decode cX3_faultAsDays 109 = .ok (.ireturn, 1) := by decide +kernel
theorem dX3_numberOfTraders_0 : decode cX3_numberOfTraders 0 = .ok (.iconst 0, 1) := by decide +kernel
theorem dX3_numberOfTraders_1 : decode cX3_numberOfTraders 1 = .ok (.istore_n 1, 1) := by decide +kernel
theorem dX3_numberOfTraders_2 : decode cX3_numberOfTraders 2 = .ok (.iconst 0, 1) := by decide +kernel
theorem dX3_numberOfTraders_3 : decode cX3_numberOfTraders 3 = .ok (.istore_n 2, 1) := by decide +kernel
theorem dX3_numberOfTraders_4 : decode cX3_numberOfTraders 4 = .ok (.iload_n 2, 1) := by decide +kernel
theorem dX3_numberOfTraders_5 : decode cX3_numberOfTraders 5 = .ok (.aload_n 0, 1) := by decide +kernel
theorem dX3_numberOfTraders_6 : decode cX3_numberOfTraders 6 = .ok (.getfield 15, 3) := by decide +kernel
theorem dX3_numberOfTraders_9 : decode cX3_numberOfTraders 9 = .ok (.if_icmp .ge 22, 3) := by decide +kernel
theorem dX3_numberOfTraders_12 : decode cX3_numberOfTraders 12 = .ok (.aload_n 0, 1) := by decide +kernel
theorem dX3_numberOfTraders_13 : decode cX3_numberOfTraders 13 = .ok (.iload_n 2, 1) := by decide +kernel
theorem dX3_numberOfTraders_14 : decode cX3_numberOfTraders 14 = .ok (.invokevirtual 19, 3) := by decide +kernel
theorem dX3_numberOfTraders_17 : decode cX3_numberOfTraders 17 = .ok (.bipush 62, 2) := by decide +kernel
theorem dX3_numberOfTraders_19 : decode cX3_numberOfTraders 19 = .ok (.if_icmp .ne 6, 3) := by decide +kernel
theorem dX3_numberOfTraders_22 : decode cX3_numberOfTraders 22 = .ok (.iinc 1 1, 3) := by decide +kernel
theorem dX3_numberOfTraders_25 : decode cX3_numberOfTraders 25 = .ok (.iinc 2 1, 3) := by decide +kernel
theorem dX3_numberOfTraders_28 : decode cX3_numberOfTraders 28 = .ok (.goto (-24), 3) := by decide +kernel
theorem dX3_numberOfTraders_31 : decode cX3_numberOfTraders 31 = .ok (.iload_n 1, 1) := by decide +kernel
theorem dX3_numberOfTraders_32 : decode cX3_numberOfTraders 32 = .ok (.ireturn, 1) := by decide +kernel
theorem dX3_wantsBehind_0 : decode cX3_wantsBehind 0 = .ok (.iconst 0, 1) := by decide +kernel
theorem dX3_wantsBehind_1 : decode cX3_wantsBehind 1 = .ok (.istore_n 2, 1) := by decide +kernel
theorem dX3_wantsBehind_2 : decode cX3_wantsBehind 2 = .ok (.iload_n 1, 1) := by decide +kernel
theorem dX3_wantsBehind_3 : decode cX3_wantsBehind 3 = .ok (.iconst 1, 1) := by decide +kernel
theorem dX3_wantsBehind_4 : decode cX3_wantsBehind 4 = .ok (.iadd, 1) := by decide +kernel
theorem dX3_wantsBehind_5 : decode cX3_wantsBehind 5 = .ok (.istore_n 3, 1) := by decide +kernel
theorem dX3_wantsBehind_6 : decode cX3_wantsBehind 6 = .ok (.iload_n 3, 1) := by decide +kernel
theorem dX3_wantsBehind_7 : decode cX3_wantsBehind 7 = .ok (.aload_n 0, 1) := by decide +kernel
theorem dX3_wantsBehind_8 : decode cX3_wantsBehind 8 = .ok (.getfield 15, 3) := by decide +kernel
theorem dX3_wantsBehind_11 : decode cX3_wantsBehind 11 = .ok (.if_icmp .ge 29, 3) := by decide +kernel
theorem dX3_wantsBehind_14 : decode cX3_wantsBehind 14 = .ok (.aload_n 0, 1) := by decide +kernel
theorem dX3_wantsBehind_15 : decode cX3_wantsBehind 15 = .ok (.iload_n 3, 1) := by decide +kernel
theorem dX3_wantsBehind_16 : decode cX3_wantsBehind 16 = .ok (.invokevirtual 19, 3) := by decide +kernel
theorem dX3_wantsBehind_19 : decode cX3_wantsBehind 19 = .ok (.bipush 44, 2) := by decide +kernel
theorem dX3_wantsBehind_21 : decode cX3_wantsBehind 21 = .ok (.if_icmp .eq 19, 3) := by decide +kernel
theorem dX3_wantsBehind_24 : decode cX3_wantsBehind 24 = .ok (.iload_n 2, 1) := by decide +kernel
theorem dX3_wantsBehind_25 : decode cX3_wantsBehind 25 = .ok (.aload_n 0, 1) := by decide +kernel
theorem dX3_wantsBehind_26 : decode cX3_wantsBehind 26 = .ok (.iload_n 3, 1) := by decide +kernel
theorem dX3_wantsBehind_27 : decode cX3_wantsBehind 27 = .ok (.invokevirtual 23, 3) := by decide +kernel
theorem dX3_wantsBehind_30 : decode cX3_wantsBehind 30 = .ok (.invokestatic 27, 3) := by decide +kernel
theorem dX3_wantsBehind_33 : decode cX3_wantsBehind 33 = .ok (.istore_n 2, 1) := by decide +kernel
theorem dX3_wantsBehind_34 : decode cX3_wantsBehind 34 = .ok (.iinc 3 1, 3) := by decide +kernel
theorem dX3_wantsBehind_37 : decode cX3_wantsBehind 37 = .ok (.goto (-31), 3) := by decide +kernel
theorem dX3_wantsBehind_40 : decode cX3_wantsBehind 40 = .ok (.iload_n 2, 1) := by decide +kernel
theorem dX3_wantsBehind_41 : decode cX3_wantsBehind 41 = .ok (.ireturn, 1) := by decide +kernel
theorem dX4_init_0 : decode cX4_init 0 = .ok (.aload_n 0, 1) := by decide +kernel
theorem dX4_init_1 : decode cX4_init 1 = .ok (.invokespecial 3, 3) := by decide +kernel
theorem dX4_init_4 : decode cX4_init 4 = .ok (.aload_n 0, 1) := by decide +kernel
theorem dX4_init_5 : decode cX4_init 5 = .ok (.bipush 7, 2) := by decide +kernel
theorem dX4_init_7 : decode cX4_init 7 = .ok (.newarray .int, 2) := by decide +kernel
theorem dX4_init_9 : decode cX4_init 9 = .ok (.putfield 9, 3) := by decide +kernel
theorem dX4_init_12 : decode cX4_init 12 = .ok (.aload_n 0, 1) := by decide +kernel
theorem dX4_init_13 : decode cX4_init 13 = .ok (.bipush 7, 2) := by decide +kernel
theorem dX4_init_15 : decode cX4_init 15 = .ok (.newarray .int, 2) := by decide +kernel
theorem dX4_init_17 : decode cX4_init 17 = .ok (.putfield 15, 3) := by decide +kernel
theorem dX4_init_20 : decode cX4_init 20 = .ok (.aload_n 0, 1) := by decide +kernel
theorem dX4_init_21 : decode cX4_init 21 = .ok (.bipush 7, 2) := by decide +kernel
theorem dX4_init_23 : decode cX4_init 23 = .ok (.newarray .int, 2) := by decide +kernel
theorem dX4_init_25 : decode cX4_init 25 = .ok (.putfield 18, 3) := by decide +kernel
theorem dX4_init_28 : decode cX4_init 28 = .ok (.return_, 1) := by decide +kernel
theorem dX4_findBest_0 : decode cX4_findBest 0 = .ok (.aload_n 0, 1) := by decide +kernel
theorem dX4_findBest_1 : decode cX4_findBest 1 = .ok (.iconst 0, 1) := by decide +kernel
theorem dX4_findBest_2 : decode cX4_findBest 2 = .ok (.aload_n 1, 1) := by decide +kernel
theorem dX4_findBest_3 : decode cX4_findBest 3 = .ok (.getfield 21, 3) := by decide +kernel
theorem dX4_findBest_6 : decode cX4_findBest 6 = .ok (.bipush 7, 2) := by decide +kernel
theorem dX4_findBest_8 : decode cX4_findBest 8 = .ok (.invokestatic 27, 3) := by decide +kernel
theorem dX4_findBest_11 : decode cX4_findBest 11 = .ok (.invokestatic 33, 3) := by decide +kernel
theorem dX4_findBest_14 : decode cX4_findBest 14 = .ok (.putfield 36, 3) := by decide +kernel
theorem dX4_findBest_17 : decode cX4_findBest 17 = .ok (.aload_n 0, 1) := by decide +kernel
theorem dX4_findBest_18 : decode cX4_findBest 18 = .ok (.aload_n 1, 1) := by decide +kernel
theorem dX4_findBest_19 : decode cX4_findBest 19 = .ok (.getfield 37, 3) := by decide +kernel
theorem dX4_findBest_22 : decode cX4_findBest 22 = .ok (.putfield 40, 3) := by decide +kernel
theorem dX4_findBest_25 : decode cX4_findBest 25 = .ok (.aload_n 0, 1) := by decide +kernel
theorem dX4_findBest_26 : decode cX4_findBest 26 = .ok (.iconst (-1), 1) := by decide +kernel
theorem dX4_findBest_27 : decode cX4_findBest 27 = .ok (.putfield 41, 3) := by decide +kernel
theorem dX4_findBest_30 : decode cX4_findBest 30 = .ok (.iconst 0, 1) := by decide +kernel
theorem dX4_findBest_31 : decode cX4_findBest 31 = .ok (.istore_n 2, 1) := by decide +kernel
theorem dX4_findBest_32 : decode cX4_findBest 32 = .ok (.iload_n 2, 1) := by decide +kernel
theorem dX4_findBest_33 : decode cX4_findBest 33 = .ok (.aload_n 0, 1) := by decide +kernel
theorem dX4_findBest_34 : decode cX4_findBest 34 = .ok (.getfield 36, 3) := by decide +kernel
theorem dX4_findBest_37 : decode cX4_findBest 37 = .ok (.if_icmp .ge 20, 3) := by decide +kernel
theorem dX4_findBest_40 : decode cX4_findBest 40 = .ok (.aload_n 0, 1) := by decide +kernel
theorem dX4_findBest_41 : decode cX4_findBest 41 = .ok (.getfield 15, 3) := by decide +kernel
theorem dX4_findBest_44 : decode cX4_findBest 44 = .ok (.iload_n 2, 1) := by decide +kernel
theorem dX4_findBest_45 : decode cX4_findBest 45 = .ok (.aload_n 1, 1) := by decide +kernel
theorem dX4_findBest_46 : decode cX4_findBest 46 = .ok (.iload_n 2, 1) := by decide +kernel
theorem dX4_findBest_47 : decode cX4_findBest 47 = .ok (.invokevirtual 44, 3) := by decide +kernel
theorem dX4_findBest_50 : decode cX4_findBest 50 = .ok (.iastore, 1) := by decide +kernel
theorem dX4_findBest_51 : decode cX4_findBest 51 = .ok (.iinc 2 1, 3) := by decide +kernel
theorem dX4_findBest_54 : decode cX4_findBest 54 = .ok (.goto (-22), 3) := by decide +kernel
theorem dX4_findBest_57 : decode cX4_findBest 57 = .ok (.aload_n 0, 1) := by decide +kernel
theorem dX4_findBest_58 : decode cX4_findBest 58 = .ok (.iconst 0, 1) := by decide +kernel
theorem dX4_findBest_59 : decode cX4_findBest 59 = .ok (.iconst 0, 1) := by decide +kernel
theorem dX4_findBest_60 : decode cX4_findBest 60 = .ok (.iconst 0, 1) := by decide +kernel
theorem dX4_findBest_61 : decode cX4_findBest 61 = .ok (.invokevirtual 47, 3) := by decide +kernel
theorem dX4_findBest_64 : decode cX4_findBest 64 = .ok (.aload_n 0, 1) := by decide +kernel
theorem dX4_findBest_65 : decode cX4_findBest 65 = .ok (.getfield 41, 3) := by decide +kernel
theorem dX4_findBest_68 : decode cX4_findBest 68 = .ok (.ireturn, 1) := by decide +kernel
theorem dX4_chooseGiver_0 : decode cX4_chooseGiver 0 = .ok (.iload_n 2, 1) := by decide +kernel
theorem dX4_chooseGiver_1 : decode cX4_chooseGiver 1 = .ok (.aload_n 0, 1) := by decide +kernel
theorem dX4_chooseGiver_2 : decode cX4_chooseGiver 2 = .ok (.getfield 36, 3) := by decide +kernel
theorem dX4_chooseGiver_5 : decode cX4_chooseGiver 5 = .ok (.iadd, 1) := by decide +kernel
theorem dX4_chooseGiver_6 : decode cX4_chooseGiver 6 = .ok (.iload_n 1, 1) := by decide +kernel
theorem dX4_chooseGiver_7 : decode cX4_chooseGiver 7 = .ok (.isub, 1) := by decide +kernel
theorem dX4_chooseGiver_8 : decode cX4_chooseGiver 8 = .ok (.aload_n 0, 1) := by decide +kernel
theorem dX4_chooseGiver_9 : decode cX4_chooseGiver 9 = .ok (.getfield 41, 3) := by decide +kernel
theorem dX4_chooseGiver_12 : decode cX4_chooseGiver 12 = .ok (.if_icmp .gt 4, 3) := by decide +kernel
theorem dX4_chooseGiver_15 : decode cX4_chooseGiver 15 = .ok (.return_, 1) := by decide +kernel
theorem dX4_chooseGiver_16 : decode cX4_chooseGiver 16 = .ok (.iload_n 1, 1) := by decide +kernel
theorem dX4_chooseGiver_17 : decode cX4_chooseGiver 17 = .ok (.ifCond .lt 11, 3) := by decide +kernel
theorem dX4_chooseGiver_20 : decode cX4_chooseGiver 20 = .ok (.iload_n 1, 1) := by decide +kernel
theorem dX4_chooseGiver_21 : decode cX4_chooseGiver 21 = .ok (.aload_n 0, 1) := by decide +kernel
theorem dX4_chooseGiver_22 : decode cX4_chooseGiver 22 = .ok (.getfield 36, 3) := by decide +kernel
theorem dX4_chooseGiver_25 : decode cX4_chooseGiver 25 = .ok (.if_icmp .lt 24, 3) := by decide +kernel
theorem dX4_chooseGiver_28 : decode cX4_chooseGiver 28 = .ok (.aload_n 0, 1) := by decide +kernel
theorem dX4_chooseGiver_29 : decode cX4_chooseGiver 29 = .ok (.iload_n 2, 1) := by decide +kernel
theorem dX4_chooseGiver_30 : decode cX4_chooseGiver 30 = .ok (.putfield 41, 3) := by decide +kernel
theorem dX4_chooseGiver_33 : decode cX4_chooseGiver 33 = .ok (.aload_n 0, 1) := by decide +kernel
theorem dX4_chooseGiver_34 : decode cX4_chooseGiver 34 = .ok (.getfield 18, 3) := by decide +kernel
theorem dX4_chooseGiver_37 : decode cX4_chooseGiver 37 = .ok (.iconst 0, 1) := by decide +kernel
theorem dX4_chooseGiver_38 : decode cX4_chooseGiver 38 = .ok (.aload_n 0, 1) := by decide +kernel
theorem dX4_chooseGiver_39 : decode cX4_chooseGiver 39 = .ok (.getfield 9, 3) := by decide +kernel
theorem dX4_chooseGiver_42 : decode cX4_chooseGiver 42 = .ok (.iconst 0, 1) := by decide +kernel
theorem dX4_chooseGiver_43 : decode cX4_chooseGiver 43 = .ok (.bipush 7, 2) := by decide +kernel
theorem dX4_chooseGiver_45 : decode cX4_chooseGiver 45 = .ok (.invokestatic 51, 3) := by decide +kernel
theorem dX4_chooseGiver_48 : decode cX4_chooseGiver 48 = .ok (.return_, 1) := by decide +kernel
theorem dX4_chooseGiver_49 : decode cX4_chooseGiver 49 = .ok (.iconst 0, 1) := by decide +kernel
theorem dX4_chooseGiver_50 : decode cX4_chooseGiver 50 = .ok (.istore 4, 2) := by decide +kernel
theorem dX4_chooseGiver_52 : decode cX4_chooseGiver 52 = .ok (.iload 4, 2) := by decide +kernel
theorem dX4_chooseGiver_54 : decode cX4_chooseGiver 54 = .ok (.aload_n 0, 1) := by decide +kernel
theorem dX4_chooseGiver_55 : decode cX4_chooseGiver 55 = .ok (.getfield 36, 3) := by decide +kernel
theorem dX4_chooseGiver_58 : decode cX4_chooseGiver 58 = .ok (.if_icmp .ge 53, 3) := by decide +kernel
theorem dX4_chooseGiver_61 : decode cX4_chooseGiver 61 = .ok (.aload_n 0, 1) := by decide +kernel
theorem dX4_chooseGiver_62 : decode cX4_chooseGiver 62 = .ok (.getfield 15, 3) := by decide +kernel
theorem dX4_chooseGiver_65 : decode cX4_chooseGiver 65 = .ok (.iload_n 1, 1) := by decide +kernel
theorem dX4_chooseGiver_66 : decode cX4_chooseGiver 66 = .ok (.iaload, 1) := by decide +kernel
theorem dX4_chooseGiver_67 : decode cX4_chooseGiver 67 = .ok (.iload_n 3, 1) := by decide +kernel
theorem dX4_chooseGiver_68 : decode cX4_chooseGiver 68 = .ok (.iconst (-1), 1) := by decide +kernel
theorem dX4_chooseGiver_69 : decode cX4_chooseGiver 69 = .ok (.ixor, 1) := by decide +kernel
theorem dX4_chooseGiver_70 : decode cX4_chooseGiver 70 = .ok (.iand, 1) := by decide +kernel
theorem dX4_chooseGiver_71 : decode cX4_chooseGiver 71 = .ok (.iload 4, 2) := by decide +kernel
theorem dX4_chooseGiver_73 : decode cX4_chooseGiver 73 = .ok (.invokestatic 57, 3) := by decide +kernel
theorem dX4_chooseGiver_76 : decode cX4_chooseGiver 76 = .ok (.ifCond .eq 29, 3) := by decide +kernel
theorem dX4_chooseGiver_79 : decode cX4_chooseGiver 79 = .ok (.aload_n 0, 1) := by decide +kernel
theorem dX4_chooseGiver_80 : decode cX4_chooseGiver 80 = .ok (.iload_n 1, 1) := by decide +kernel
theorem dX4_chooseGiver_81 : decode cX4_chooseGiver 81 = .ok (.iload 4, 2) := by decide +kernel
theorem dX4_chooseGiver_83 : decode cX4_chooseGiver 83 = .ok (.invokevirtual 61, 3) := by decide +kernel
theorem dX4_chooseGiver_86 : decode cX4_chooseGiver 86 = .ok (.ifCond .eq 19, 3) := by decide +kernel
theorem dX4_chooseGiver_89 : decode cX4_chooseGiver 89 = .ok (.aload_n 0, 1) := by decide +kernel
theorem dX4_chooseGiver_90 : decode cX4_chooseGiver 90 = .ok (.iload_n 1, 1) := by decide +kernel
theorem dX4_chooseGiver_91 : decode cX4_chooseGiver 91 = .ok (.iload 4, 2) := by decide +kernel
theorem dX4_chooseGiver_93 : decode cX4_chooseGiver 93 = .ok (.iload_n 2, 1) := by decide +kernel
theorem dX4_chooseGiver_94 : decode cX4_chooseGiver 94 = .ok (.iconst 1, 1) := by decide +kernel
theorem dX4_chooseGiver_95 : decode cX4_chooseGiver 95 = .ok (.iadd, 1) := by decide +kernel
theorem dX4_chooseGiver_96 : decode cX4_chooseGiver 96 = .ok (.iload_n 3, 1) := by decide +kernel
theorem dX4_chooseGiver_97 : decode cX4_chooseGiver 97 = .ok (.iload 4, 2) := by decide +kernel
theorem dX4_chooseGiver_99 : decode cX4_chooseGiver 99 = .ok (.invokestatic 64, 3) := by decide +kernel
theorem dX4_chooseGiver_102 : decode cX4_chooseGiver 102 = .ok (.invokevirtual 67, 3) := by decide +kernel
theorem dX4_chooseGiver_105 : decode cX4_chooseGiver 105 = .ok (.iinc 4 1, 3) := by decide +kernel
theorem dX4_chooseGiver_108 : decode cX4_chooseGiver 108 = .ok (.goto (-56), 3) := by decide +kernel
theorem dX4_chooseGiver_111 : decode cX4_chooseGiver 111 = .ok (.iload_n 3, 1) := by decide +kernel
theorem dX4_chooseGiver_112 : decode cX4_chooseGiver 112 = .ok (.iload_n 1, 1) := by decide +kernel
theorem dX4_chooseGiver_113 : decode cX4_chooseGiver 113 = .ok (.invokestatic 57, 3) := by decide +kernel
theorem dX4_chooseGiver_116 : decode cX4_chooseGiver 116 = .ok (.ifCond .ne 11, 3) := by decide +kernel
theorem dX4_chooseGiver_119 : decode cX4_chooseGiver 119 = .ok (.aload_n 0, 1) := by decide +kernel
theorem dX4_chooseGiver_120 : decode cX4_chooseGiver 120 = .ok (.iload_n 1, 1) := by decide +kernel
theorem dX4_chooseGiver_121 : decode cX4_chooseGiver 121 = .ok (.iconst (-1), 1) := by decide +kernel
theorem dX4_chooseGiver_122 : decode cX4_chooseGiver 122 = .ok (.iload_n 2, 1) := by decide +kernel
theorem dX4_chooseGiver_123 : decode cX4_chooseGiver 123 = .ok (.iload_n 3, 1) := by decide +kernel
theorem dX4_chooseGiver_124 : decode cX4_chooseGiver 124 = .ok (.invokevirtual 67, 3) := by decide +kernel
theorem dX4_chooseGiver_127 : decode cX4_chooseGiver 127 = .ok (.return_, 1) := by decide +kernel
theorem dX4_goOn_0 : decode cX4_goOn 0 = .ok (.aload_n 0, 1) := by decide +kernel
theorem dX4_goOn_1 : decode cX4_goOn 1 = .ok (.getfield 18, 3) := by decide +kernel
theorem dX4_goOn_4 : decode cX4_goOn 4 = .ok (.iload_n 1, 1) := by decide +kernel
theorem dX4_goOn_5 : decode cX4_goOn 5 = .ok (.iload_n 2, 1) := by decide +kernel
theorem dX4_goOn_6 : decode cX4_goOn 6 = .ok (.iastore, 1) := by decide +kernel
theorem dX4_goOn_7 : decode cX4_goOn 7 = .ok (.aload_n 0, 1) := by decide +kernel
theorem dX4_goOn_8 : decode cX4_goOn 8 = .ok (.iload_n 1, 1) := by decide +kernel
theorem dX4_goOn_9 : decode cX4_goOn 9 = .ok (.iconst 1, 1) := by decide +kernel
theorem dX4_goOn_10 : decode cX4_goOn 10 = .ok (.iadd, 1) := by decide +kernel
theorem dX4_goOn_11 : decode cX4_goOn 11 = .ok (.iload_n 3, 1) := by decide +kernel
theorem dX4_goOn_12 : decode cX4_goOn 12 = .ok (.iload 4, 2) := by decide +kernel
theorem dX4_goOn_14 : decode cX4_goOn 14 = .ok (.invokevirtual 47, 3) := by decide +kernel
theorem dX4_goOn_17 : decode cX4_goOn 17 = .ok (.return_, 1) := by decide +kernel
theorem dX4_fitsInCircle_0 : decode cX4_fitsInCircle 0 = .ok (.iload_n 2, 1) := by decide +kernel
theorem dX4_fitsInCircle_1 : decode cX4_fitsInCircle 1 = .ok (.istore_n 3, 1) := by decide +kernel
theorem dX4_fitsInCircle_2 : decode cX4_fitsInCircle 2 = .ok (.iconst 1, 1) := by decide +kernel
theorem dX4_fitsInCircle_3 : decode cX4_fitsInCircle 3 = .ok (.istore 4, 2) := by decide +kernel
theorem dX4_fitsInCircle_5 : decode cX4_fitsInCircle 5 = .ok (.iload 4, 2) := by decide +kernel
theorem dX4_fitsInCircle_7 : decode cX4_fitsInCircle 7 = .ok (.aload_n 0, 1) := by decide +kernel
theorem dX4_fitsInCircle_8 : decode cX4_fitsInCircle 8 = .ok (.getfield 40, 3) := by decide +kernel
theorem dX4_fitsInCircle_11 : decode cX4_fitsInCircle 11 = .ok (.if_icmp .gt 49, 3) := by decide +kernel
theorem dX4_fitsInCircle_14 : decode cX4_fitsInCircle 14 = .ok (.iload_n 3, 1) := by decide +kernel
theorem dX4_fitsInCircle_15 : decode cX4_fitsInCircle 15 = .ok (.iload_n 1, 1) := by decide +kernel
theorem dX4_fitsInCircle_16 : decode cX4_fitsInCircle 16 = .ok (.if_icmp .ne 5, 3) := by decide +kernel
theorem dX4_fitsInCircle_19 : decode cX4_fitsInCircle 19 = .ok (.iconst 1, 1) := by decide +kernel
theorem dX4_fitsInCircle_20 : decode cX4_fitsInCircle 20 = .ok (.ireturn, 1) := by decide +kernel
theorem dX4_fitsInCircle_21 : decode cX4_fitsInCircle 21 = .ok (.iload_n 3, 1) := by decide +kernel
theorem dX4_fitsInCircle_22 : decode cX4_fitsInCircle 22 = .ok (.ifCond .ge 5, 3) := by decide +kernel
theorem dX4_fitsInCircle_25 : decode cX4_fitsInCircle 25 = .ok (.iconst 0, 1) := by decide +kernel
theorem dX4_fitsInCircle_26 : decode cX4_fitsInCircle 26 = .ok (.ireturn, 1) := by decide +kernel
theorem dX4_fitsInCircle_27 : decode cX4_fitsInCircle 27 = .ok (.iload_n 3, 1) := by decide +kernel
theorem dX4_fitsInCircle_28 : decode cX4_fitsInCircle 28 = .ok (.iload_n 1, 1) := by decide +kernel
theorem dX4_fitsInCircle_29 : decode cX4_fitsInCircle 29 = .ok (.if_icmp .le 18, 3) := by decide +kernel
theorem dX4_fitsInCircle_32 : decode cX4_fitsInCircle 32 = .ok (.iload 4, 2) := by decide +kernel
theorem dX4_fitsInCircle_34 : decode cX4_fitsInCircle 34 = .ok (.aload_n 0, 1) := by decide +kernel
theorem dX4_fitsInCircle_35 : decode cX4_fitsInCircle 35 = .ok (.getfield 40, 3) := by decide +kernel
theorem dX4_fitsInCircle_38 : decode cX4_fitsInCircle 38 = .ok (.if_icmp .ge 7, 3) := by decide +kernel
theorem dX4_fitsInCircle_41 : decode cX4_fitsInCircle 41 = .ok (.iconst 1, 1) := by decide +kernel
theorem dX4_fitsInCircle_42 : decode cX4_fitsInCircle 42 = .ok (.goto 4, 3) := by decide +kernel
theorem dX4_fitsInCircle_45 : decode cX4_fitsInCircle 45 = .ok (.iconst 0, 1) := by decide +kernel
theorem dX4_fitsInCircle_46 : decode cX4_fitsInCircle 46 = .ok (.ireturn, 1) := by decide +kernel
theorem dX4_fitsInCircle_47 : decode cX4_fitsInCircle 47 = .ok (.aload_n 0, 1) := by decide +kernel
theorem dX4_fitsInCircle_48 : decode cX4_fitsInCircle 48 = .ok (.getfield 18, 3) := by decide +kernel
theorem dX4_fitsInCircle_51 : decode cX4_fitsInCircle 51 = .ok (.iload_n 3, 1) := by decide +kernel
theorem dX4_fitsInCircle_52 : decode cX4_fitsInCircle 52 = .ok (.iaload, 1) := by decide +kernel
theorem dX4_fitsInCircle_53 : decode cX4_fitsInCircle 53 = .ok (.istore_n 3, 1) := by decide +kernel
theorem dX4_fitsInCircle_54 : decode cX4_fitsInCircle 54 = .ok (.iinc 4 1, 3) := by decide +kernel
theorem dX4_fitsInCircle_57 : decode cX4_fitsInCircle 57 = .ok (.goto (-52), 3) := by decide +kernel
theorem dX4_fitsInCircle_60 : decode cX4_fitsInCircle 60 = .ok (.iconst 0, 1) := by decide +kernel
theorem dX4_fitsInCircle_61 : decode cX4_fitsInCircle 61 = .ok (.ireturn, 1) := by decide +kernel
theorem dX5_init_0 : decode cX5_init 0 = .ok (.aload_n 0, 1) := by decide +kernel
theorem dX5_init_1 : decode cX5_init 1 = .ok (.invokespecial 1, 3) := by decide +kernel
theorem dX5_init_4 : decode cX5_init 4 = .ok (.aload_n 0, 1) := by decide +kernel
theorem dX5_init_5 : decode cX5_init 5 = .ok (.new 7, 3) := by decide +kernel
theorem dX5_init_8 : decode cX5_init 8 = .ok (.dup, 1) := by decide +kernel
theorem dX5_init_9 : decode cX5_init 9 = .ok (.invokespecial 9, 3) := by decide +kernel
theorem dX5_init_12 : decode cX5_init 12 = .ok (.putfield 10, 3) := by decide +kernel
theorem dX5_init_15 : decode cX5_init 15 = .ok (.aload_n 0, 1) := by decide +kernel
theorem dX5_init_16 : decode cX5_init 16 = .ok (.new 7, 3) := by decide +kernel
theorem dX5_init_19 : decode cX5_init 19 = .ok (.dup, 1) := by decide +kernel
theorem dX5_init_20 : decode cX5_init 20 = .ok (.invokespecial 9, 3) := by decide +kernel
theorem dX5_init_23 : decode cX5_init 23 = .ok (.putfield 16, 3) := by decide +kernel
theorem dX5_init_26 : decode cX5_init 26 = .ok (.aload_n 0, 1) := by decide +kernel
theorem dX5_init_27 : decode cX5_init 27 = .ok (.new 7, 3) := by decide +kernel
theorem dX5_init_30 : decode cX5_init 30 = .ok (.dup, 1) := by decide +kernel
theorem dX5_init_31 : decode cX5_init 31 = .ok (.invokespecial 9, 3) := by decide +kernel
theorem dX5_init_34 : decode cX5_init 34 = .ok (.putfield 19, 3) := by decide +kernel
theorem dX5_init_37 : decode cX5_init 37 = .ok (.aload_n 0, 1) := by decide +kernel
theorem dX5_init_38 : decode cX5_init 38 = .ok (.new 22, 3) := by decide +kernel
theorem dX5_init_41 : decode cX5_init 41 = .ok (.dup, 1) := by decide +kernel
theorem dX5_init_42 : decode cX5_init 42 = .ok (.invokespecial 24, 3) := by decide +kernel
theorem dX5_init_45 : decode cX5_init 45 = .ok (.putfield 25, 3) := by decide +kernel
theorem dX5_init_48 : decode cX5_init 48 = .ok (.aload_n 0, 1) := by decide +kernel
theorem dX5_init_49 : decode cX5_init 49 = .ok (.new 29, 3) := by decide +kernel
theorem dX5_init_52 : decode cX5_init 52 = .ok (.dup, 1) := by decide +kernel
theorem dX5_init_53 : decode cX5_init 53 = .ok (.invokespecial 31, 3) := by decide +kernel
theorem dX5_init_56 : decode cX5_init 56 = .ok (.putfield 32, 3) := by decide +kernel
theorem dX5_init_59 : decode cX5_init 59 = .ok (.aload_n 0, 1) := by decide +kernel
theorem dX5_init_60 : decode cX5_init 60 = .ok (.new 36, 3) := by decide +kernel
theorem dX5_init_63 : decode cX5_init 63 = .ok (.dup, 1) := by decide +kernel
theorem dX5_init_64 : decode cX5_init 64 = .ok (.invokespecial 38, 3) := by decide +kernel
theorem dX5_init_67 : decode cX5_init 67 = .ok (.putfield 39, 3) := by decide +kernel
theorem dX5_init_70 : decode cX5_init 70 = .ok (.aload_n 0, 1) := by decide +kernel
theorem dX5_init_71 : decode cX5_init 71 = .ok (.new 43, 3) := by decide +kernel
theorem dX5_init_74 : decode cX5_init 74 = .ok (.dup, 1) := by decide +kernel
theorem dX5_init_75 : decode cX5_init 75 = .ok (.invokespecial 45, 3) := by decide +kernel
theorem dX5_init_78 : decode cX5_init 78 = .ok (.putfield 46, 3) := by decide +kernel
theorem dX5_init_81 : decode cX5_init 81 = .ok (.aload_n 0, 1) := by decide +kernel
theorem dX5_init_82 : decode cX5_init 82 = .ok (.iconst (-1), 1) := by decide +kernel
theorem dX5_init_83 : decode cX5_init 83 = .ok (.putfield 50, 3) := by decide +kernel
theorem dX5_init_86 : decode cX5_init 86 = .ok (.return_, 1) := by decide +kernel
theorem dX5_come_0 : decode cX5_come 0 = .ok (.iload_n 1, 1) := by decide +kernel
theorem dX5_come_1 : decode cX5_come 1 = .ok (.invokestatic 54, 3) := by decide +kernel
theorem dX5_come_4 : decode cX5_come 4 = .ok (.ifCond .eq 10, 3) := by decide +kernel
theorem dX5_come_7 : decode cX5_come 7 = .ok (.iload_n 2, 1) := by decide +kernel
theorem dX5_come_8 : decode cX5_come 8 = .ok (.invokestatic 58, 3) := by decide +kernel
theorem dX5_come_11 : decode cX5_come 11 = .ok (.ifCond .ne 5, 3) := by decide +kernel
theorem dX5_come_14 : decode cX5_come 14 = .ok (.iconst (-1), 1) := by decide +kernel
theorem dX5_come_15 : decode cX5_come 15 = .ok (.ireturn, 1) := by decide +kernel
theorem dX5_come_16 : decode cX5_come 16 = .ok (.aload_n 0, 1) := by decide +kernel
theorem dX5_come_17 : decode cX5_come 17 = .ok (.getfield 10, 3) := by decide +kernel
theorem dX5_come_20 : decode cX5_come 20 = .ok (.getfield 61, 3) := by decide +kernel
theorem dX5_come_23 : decode cX5_come 23 = .ok (.bipush 7, 2) := by decide +kernel
theorem dX5_come_25 : decode cX5_come 25 = .ok (.if_icmp .lt 6, 3) := by decide +kernel
theorem dX5_come_28 : decode cX5_come 28 = .ok (.bipush (-3), 2) := by decide +kernel
theorem dX5_come_30 : decode cX5_come 30 = .ok (.ireturn, 1) := by decide +kernel
theorem dX5_come_31 : decode cX5_come 31 = .ok (.aload_n 0, 1) := by decide +kernel
theorem dX5_come_32 : decode cX5_come 32 = .ok (.getfield 25, 3) := by decide +kernel
theorem dX5_come_35 : decode cX5_come 35 = .ok (.aload_n 0, 1) := by decide +kernel
theorem dX5_come_36 : decode cX5_come 36 = .ok (.getfield 10, 3) := by decide +kernel
theorem dX5_come_39 : decode cX5_come 39 = .ok (.invokevirtual 64, 3) := by decide +kernel
theorem dX5_come_42 : decode cX5_come 42 = .ok (.aload_n 0, 1) := by decide +kernel
theorem dX5_come_43 : decode cX5_come 43 = .ok (.getfield 10, 3) := by decide +kernel
theorem dX5_come_46 : decode cX5_come 46 = .ok (.iload_n 1, 1) := by decide +kernel
theorem dX5_come_47 : decode cX5_come 47 = .ok (.iload_n 2, 1) := by decide +kernel
theorem dX5_come_48 : decode cX5_come 48 = .ok (.invokevirtual 68, 3) := by decide +kernel
theorem dX5_come_51 : decode cX5_come 51 = .ok (.aload_n 0, 1) := by decide +kernel
theorem dX5_come_52 : decode cX5_come 52 = .ok (.getfield 10, 3) := by decide +kernel
theorem dX5_come_55 : decode cX5_come 55 = .ok (.getfield 61, 3) := by decide +kernel
theorem dX5_come_58 : decode cX5_come 58 = .ok (.iconst 1, 1) := by decide +kernel
theorem dX5_come_59 : decode cX5_come 59 = .ok (.isub, 1) := by decide +kernel
theorem dX5_come_60 : decode cX5_come 60 = .ok (.ireturn, 1) := by decide +kernel
theorem dX5_go_0 : decode cX5_go 0 = .ok (.aload_n 0, 1) := by decide +kernel
theorem dX5_go_1 : decode cX5_go 1 = .ok (.getfield 10, 3) := by decide +kernel
theorem dX5_go_4 : decode cX5_go 4 = .ok (.iload_n 1, 1) := by decide +kernel
theorem dX5_go_5 : decode cX5_go 5 = .ok (.invokevirtual 72, 3) := by decide +kernel
theorem dX5_go_8 : decode cX5_go 8 = .ok (.ifCond .ne 5, 3) := by decide +kernel
theorem dX5_go_11 : decode cX5_go 11 = .ok (.iconst (-1), 1) := by decide +kernel
theorem dX5_go_12 : decode cX5_go 12 = .ok (.ireturn, 1) := by decide +kernel
theorem dX5_go_13 : decode cX5_go 13 = .ok (.aload_n 0, 1) := by decide +kernel
theorem dX5_go_14 : decode cX5_go 14 = .ok (.getfield 25, 3) := by decide +kernel
theorem dX5_go_17 : decode cX5_go 17 = .ok (.aload_n 0, 1) := by decide +kernel
theorem dX5_go_18 : decode cX5_go 18 = .ok (.getfield 10, 3) := by decide +kernel
theorem dX5_go_21 : decode cX5_go 21 = .ok (.invokevirtual 64, 3) := by decide +kernel
theorem dX5_go_24 : decode cX5_go 24 = .ok (.aload_n 0, 1) := by decide +kernel
theorem dX5_go_25 : decode cX5_go 25 = .ok (.getfield 10, 3) := by decide +kernel
theorem dX5_go_28 : decode cX5_go 28 = .ok (.getfield 75, 3) := by decide +kernel
theorem dX5_go_31 : decode cX5_go 31 = .ok (.iload_n 1, 1) := by decide +kernel
theorem dX5_go_32 : decode cX5_go 32 = .ok (.iaload, 1) := by decide +kernel
theorem dX5_go_33 : decode cX5_go 33 = .ok (.istore_n 2, 1) := by decide +kernel
theorem dX5_go_34 : decode cX5_go 34 = .ok (.aload_n 0, 1) := by decide +kernel
theorem dX5_go_35 : decode cX5_go 35 = .ok (.getfield 10, 3) := by decide +kernel
theorem dX5_go_38 : decode cX5_go 38 = .ok (.iload_n 1, 1) := by decide +kernel
theorem dX5_go_39 : decode cX5_go 39 = .ok (.invokevirtual 79, 3) := by decide +kernel
theorem dX5_go_42 : decode cX5_go 42 = .ok (.iload_n 2, 1) := by decide +kernel
theorem dX5_go_43 : decode cX5_go 43 = .ok (.ireturn, 1) := by decide +kernel
theorem dX5_want_0 : decode cX5_want 0 = .ok (.aload_n 0, 1) := by decide +kernel
theorem dX5_want_1 : decode cX5_want 1 = .ok (.getfield 10, 3) := by decide +kernel
theorem dX5_want_4 : decode cX5_want 4 = .ok (.iload_n 1, 1) := by decide +kernel
theorem dX5_want_5 : decode cX5_want 5 = .ok (.invokevirtual 72, 3) := by decide +kernel
theorem dX5_want_8 : decode cX5_want 8 = .ok (.ifCond .eq 10, 3) := by decide +kernel
theorem dX5_want_11 : decode cX5_want 11 = .ok (.iload_n 2, 1) := by decide +kernel
theorem dX5_want_12 : decode cX5_want 12 = .ok (.invokestatic 58, 3) := by decide +kernel
theorem dX5_want_15 : decode cX5_want 15 = .ok (.ifCond .ne 5, 3) := by decide +kernel
theorem dX5_want_18 : decode cX5_want 18 = .ok (.iconst (-1), 1) := by decide +kernel
theorem dX5_want_19 : decode cX5_want 19 = .ok (.ireturn, 1) := by decide +kernel
theorem dX5_want_20 : decode cX5_want 20 = .ok (.aload_n 0, 1) := by decide +kernel
theorem dX5_want_21 : decode cX5_want 21 = .ok (.getfield 25, 3) := by decide +kernel
theorem dX5_want_24 : decode cX5_want 24 = .ok (.aload_n 0, 1) := by decide +kernel
theorem dX5_want_25 : decode cX5_want 25 = .ok (.getfield 10, 3) := by decide +kernel
theorem dX5_want_28 : decode cX5_want 28 = .ok (.invokevirtual 64, 3) := by decide +kernel
theorem dX5_want_31 : decode cX5_want 31 = .ok (.aload_n 0, 1) := by decide +kernel
theorem dX5_want_32 : decode cX5_want 32 = .ok (.getfield 10, 3) := by decide +kernel
theorem dX5_want_35 : decode cX5_want 35 = .ok (.getfield 83, 3) := by decide +kernel
theorem dX5_want_38 : decode cX5_want 38 = .ok (.iload_n 1, 1) := by decide +kernel
theorem dX5_want_39 : decode cX5_want 39 = .ok (.iaload, 1) := by decide +kernel
theorem dX5_want_40 : decode cX5_want 40 = .ok (.istore_n 3, 1) := by decide +kernel
theorem dX5_want_41 : decode cX5_want 41 = .ok (.aload_n 0, 1) := by decide +kernel
theorem dX5_want_42 : decode cX5_want 42 = .ok (.getfield 10, 3) := by decide +kernel
theorem dX5_want_45 : decode cX5_want 45 = .ok (.getfield 83, 3) := by decide +kernel
theorem dX5_want_48 : decode cX5_want 48 = .ok (.iload_n 1, 1) := by decide +kernel
theorem dX5_want_49 : decode cX5_want 49 = .ok (.iload_n 2, 1) := by decide +kernel
theorem dX5_want_50 : decode cX5_want 50 = .ok (.iastore, 1) := by decide +kernel
theorem dX5_want_51 : decode cX5_want 51 = .ok (.iload_n 3, 1) := by decide +kernel
theorem dX5_want_52 : decode cX5_want 52 = .ok (.ireturn, 1) := by decide +kernel
theorem dX5_life_0 : decode cX5_life 0 = .ok (.iload_n 1, 1) := by decide +kernel
theorem dX5_life_1 : decode cX5_life 1 = .ok (.invokestatic 54, 3) := by decide +kernel
theorem dX5_life_4 : decode cX5_life 4 = .ok (.ifCond .eq 14, 3) := by decide +kernel
theorem dX5_life_7 : decode cX5_life 7 = .ok (.iload_n 2, 1) := by decide +kernel
theorem dX5_life_8 : decode cX5_life 8 = .ok (.iconst 1, 1) := by decide +kernel
theorem dX5_life_9 : decode cX5_life 9 = .ok (.if_icmp .lt 9, 3) := by decide +kernel
theorem dX5_life_12 : decode cX5_life 12 = .ok (.iload_n 2, 1) := by decide +kernel
theorem dX5_life_13 : decode cX5_life 13 = .ok (.bipush 9, 2) := by decide +kernel
theorem dX5_life_15 : decode cX5_life 15 = .ok (.if_icmp .le 5, 3) := by decide +kernel
theorem dX5_life_18 : decode cX5_life 18 = .ok (.iconst (-1), 1) := by decide +kernel
theorem dX5_life_19 : decode cX5_life 19 = .ok (.ireturn, 1) := by decide +kernel
theorem dX5_life_20 : decode cX5_life 20 = .ok (.aload_n 0, 1) := by decide +kernel
theorem dX5_life_21 : decode cX5_life 21 = .ok (.getfield 25, 3) := by decide +kernel
theorem dX5_life_24 : decode cX5_life 24 = .ok (.aload_n 0, 1) := by decide +kernel
theorem dX5_life_25 : decode cX5_life 25 = .ok (.getfield 10, 3) := by decide +kernel
theorem dX5_life_28 : decode cX5_life 28 = .ok (.invokevirtual 64, 3) := by decide +kernel
theorem dX5_life_31 : decode cX5_life 31 = .ok (.aload_n 0, 1) := by decide +kernel
theorem dX5_life_32 : decode cX5_life 32 = .ok (.getfield 10, 3) := by decide +kernel
theorem dX5_life_35 : decode cX5_life 35 = .ok (.getfield 86, 3) := by decide +kernel
theorem dX5_life_38 : decode cX5_life 38 = .ok (.iload_n 1, 1) := by decide +kernel
theorem dX5_life_39 : decode cX5_life 39 = .ok (.iaload, 1) := by decide +kernel
theorem dX5_life_40 : decode cX5_life 40 = .ok (.istore_n 3, 1) := by decide +kernel
theorem dX5_life_41 : decode cX5_life 41 = .ok (.aload_n 0, 1) := by decide +kernel
theorem dX5_life_42 : decode cX5_life 42 = .ok (.getfield 10, 3) := by decide +kernel
theorem dX5_life_45 : decode cX5_life 45 = .ok (.getfield 86, 3) := by decide +kernel
theorem dX5_life_48 : decode cX5_life 48 = .ok (.iload_n 1, 1) := by decide +kernel
theorem dX5_life_49 : decode cX5_life 49 = .ok (.iload_n 2, 1) := by decide +kernel
theorem dX5_life_50 : decode cX5_life 50 = .ok (.iastore, 1) := by decide +kernel
theorem dX5_life_51 : decode cX5_life 51 = .ok (.iload_n 3, 1) := by decide +kernel
theorem dX5_life_52 : decode cX5_life 52 = .ok (.ireturn, 1) := by decide +kernel
theorem dX5_circle_0 : decode cX5_circle 0 = .ok (.iload_n 1, 1) := by decide +kernel
theorem dX5_circle_1 : decode cX5_circle 1 = .ok (.invokestatic 89, 3) := by decide +kernel
theorem dX5_circle_4 : decode cX5_circle 4 = .ok (.ifCond .ne 5, 3) := by decide +kernel
theorem dX5_circle_7 : decode cX5_circle 7 = .ok (.iconst (-1), 1) := by decide +kernel
theorem dX5_circle_8 : decode cX5_circle 8 = .ok (.ireturn, 1) := by decide +kernel
theorem dX5_circle_9 : decode cX5_circle 9 = .ok (.aload_n 0, 1) := by decide +kernel
theorem dX5_circle_10 : decode cX5_circle 10 = .ok (.getfield 25, 3) := by decide +kernel
theorem dX5_circle_13 : decode cX5_circle 13 = .ok (.aload_n 0, 1) := by decide +kernel
theorem dX5_circle_14 : decode cX5_circle 14 = .ok (.getfield 10, 3) := by decide +kernel
theorem dX5_circle_17 : decode cX5_circle 17 = .ok (.invokevirtual 64, 3) := by decide +kernel
theorem dX5_circle_20 : decode cX5_circle 20 = .ok (.aload_n 0, 1) := by decide +kernel
theorem dX5_circle_21 : decode cX5_circle 21 = .ok (.getfield 10, 3) := by decide +kernel
theorem dX5_circle_24 : decode cX5_circle 24 = .ok (.getfield 92, 3) := by decide +kernel
theorem dX5_circle_27 : decode cX5_circle 27 = .ok (.istore_n 2, 1) := by decide +kernel
theorem dX5_circle_28 : decode cX5_circle 28 = .ok (.aload_n 0, 1) := by decide +kernel
theorem dX5_circle_29 : decode cX5_circle 29 = .ok (.getfield 10, 3) := by decide +kernel
theorem dX5_circle_32 : decode cX5_circle 32 = .ok (.iload_n 1, 1) := by decide +kernel
theorem dX5_circle_33 : decode cX5_circle 33 = .ok (.putfield 92, 3) := by decide +kernel
end
section
theorem dX5_circle_36 : decode cX5_circle 36 = .ok (.iload_n 2, 1) := by decide +kernel
theorem dX5_circle_37 : decode cX5_circle 37 = .ok (.ireturn, 1) := by decide +kernel
theorem dX5_lot_0 : decode cX5_lot 0 = .ok (.iload_n 1, 1) := by decide +kernel
theorem dX5_lot_1 : decode cX5_lot 1 = .ok (.ifCond .lt 10, 3) := by decide +kernel
theorem dX5_lot_4 : decode cX5_lot 4 = .ok (.iload_n 1, 1) := by decide +kernel
theorem dX5_lot_5 : decode cX5_lot 5 = .ok (.sipush 10000, 3) := by decide +kernel
theorem dX5_lot_8 : decode cX5_lot 8 = .ok (.if_icmp .lt 5, 3) := by decide +kernel
theorem dX5_lot_11 : decode cX5_lot 11 = .ok (.iconst (-1), 1) := by decide +kernel
theorem dX5_lot_12 : decode cX5_lot 12 = .ok (.ireturn, 1) := by decide +kernel
theorem dX5_lot_13 : decode cX5_lot 13 = .ok (.aload_n 0, 1) := by decide +kernel
theorem dX5_lot_14 : decode cX5_lot 14 = .ok (.getfield 25, 3) := by decide +kernel
theorem dX5_lot_17 : decode cX5_lot 17 = .ok (.aload_n 0, 1) := by decide +kernel
theorem dX5_lot_18 : decode cX5_lot 18 = .ok (.getfield 10, 3) := by decide +kernel
theorem dX5_lot_21 : decode cX5_lot 21 = .ok (.invokevirtual 64, 3) := by decide +kernel
theorem dX5_lot_24 : decode cX5_lot 24 = .ok (.aload_n 0, 1) := by decide +kernel
theorem dX5_lot_25 : decode cX5_lot 25 = .ok (.getfield 10, 3) := by decide +kernel
theorem dX5_lot_28 : decode cX5_lot 28 = .ok (.getfield 95, 3) := by decide +kernel
theorem dX5_lot_31 : decode cX5_lot 31 = .ok (.istore_n 2, 1) := by decide +kernel
theorem dX5_lot_32 : decode cX5_lot 32 = .ok (.aload_n 0, 1) := by decide +kernel
theorem dX5_lot_33 : decode cX5_lot 33 = .ok (.getfield 10, 3) := by decide +kernel
theorem dX5_lot_36 : decode cX5_lot 36 = .ok (.iload_n 1, 1) := by decide +kernel
theorem dX5_lot_37 : decode cX5_lot 37 = .ok (.putfield 95, 3) := by decide +kernel
theorem dX5_lot_40 : decode cX5_lot 40 = .ok (.iload_n 2, 1) := by decide +kernel
theorem dX5_lot_41 : decode cX5_lot 41 = .ok (.ireturn, 1) := by decide +kernel
theorem dX5_barter_0 : decode cX5_barter 0 = .ok (.aload_n 0, 1) := by decide +kernel
theorem dX5_barter_1 : decode cX5_barter 1 = .ok (.getfield 10, 3) := by decide +kernel
theorem dX5_barter_4 : decode cX5_barter 4 = .ok (.iload_n 1, 1) := by decide +kernel
theorem dX5_barter_5 : decode cX5_barter 5 = .ok (.iload_n 2, 1) := by decide +kernel
theorem dX5_barter_6 : decode cX5_barter 6 = .ok (.invokevirtual 98, 3) := by decide +kernel
theorem dX5_barter_9 : decode cX5_barter 9 = .ok (.ifCond .ne 5, 3) := by decide +kernel
theorem dX5_barter_12 : decode cX5_barter 12 = .ok (.iconst (-1), 1) := by decide +kernel
theorem dX5_barter_13 : decode cX5_barter 13 = .ok (.ireturn, 1) := by decide +kernel
theorem dX5_barter_14 : decode cX5_barter 14 = .ok (.aload_n 0, 1) := by decide +kernel
theorem dX5_barter_15 : decode cX5_barter 15 = .ok (.getfield 25, 3) := by decide +kernel
theorem dX5_barter_18 : decode cX5_barter 18 = .ok (.aload_n 0, 1) := by decide +kernel
theorem dX5_barter_19 : decode cX5_barter 19 = .ok (.getfield 10, 3) := by decide +kernel
theorem dX5_barter_22 : decode cX5_barter 22 = .ok (.invokevirtual 64, 3) := by decide +kernel
theorem dX5_barter_25 : decode cX5_barter 25 = .ok (.aload_n 0, 1) := by decide +kernel
theorem dX5_barter_26 : decode cX5_barter 26 = .ok (.getfield 10, 3) := by decide +kernel
theorem dX5_barter_29 : decode cX5_barter 29 = .ok (.iload_n 1, 1) := by decide +kernel
theorem dX5_barter_30 : decode cX5_barter 30 = .ok (.iload_n 2, 1) := by decide +kernel
theorem dX5_barter_31 : decode cX5_barter 31 = .ok (.invokevirtual 102, 3) := by decide +kernel
theorem dX5_barter_34 : decode cX5_barter 34 = .ok (.ireturn, 1) := by decide +kernel
theorem dX5_call_0 : decode cX5_call 0 = .ok (.aload_n 0, 1) := by decide +kernel
theorem dX5_call_1 : decode cX5_call 1 = .ok (.getfield 25, 3) := by decide +kernel
theorem dX5_call_4 : decode cX5_call 4 = .ok (.aload_n 0, 1) := by decide +kernel
theorem dX5_call_5 : decode cX5_call 5 = .ok (.getfield 10, 3) := by decide +kernel
theorem dX5_call_8 : decode cX5_call 8 = .ok (.invokevirtual 64, 3) := by decide +kernel
theorem dX5_call_11 : decode cX5_call 11 = .ok (.aload_n 0, 1) := by decide +kernel
theorem dX5_call_12 : decode cX5_call 12 = .ok (.aload_n 0, 1) := by decide +kernel
theorem dX5_call_13 : decode cX5_call 13 = .ok (.getfield 10, 3) := by decide +kernel
theorem dX5_call_16 : decode cX5_call 16 = .ok (.invokevirtual 106, 3) := by decide +kernel
theorem dX5_call_19 : decode cX5_call 19 = .ok (.ireturn, 1) := by decide +kernel
theorem dX5_day_0 : decode cX5_day 0 = .ok (.aload_n 0, 1) := by decide +kernel
theorem dX5_day_1 : decode cX5_day 1 = .ok (.getfield 25, 3) := by decide +kernel
theorem dX5_day_4 : decode cX5_day 4 = .ok (.aload_n 0, 1) := by decide +kernel
theorem dX5_day_5 : decode cX5_day 5 = .ok (.getfield 10, 3) := by decide +kernel
theorem dX5_day_8 : decode cX5_day 8 = .ok (.invokevirtual 64, 3) := by decide +kernel
theorem dX5_day_11 : decode cX5_day 11 = .ok (.aload_n 0, 1) := by decide +kernel
theorem dX5_day_12 : decode cX5_day 12 = .ok (.getfield 10, 3) := by decide +kernel
theorem dX5_day_15 : decode cX5_day 15 = .ok (.invokevirtual 110, 3) := by decide +kernel
theorem dX5_day_18 : decode cX5_day 18 = .ok (.ireturn, 1) := by decide +kernel
theorem dX5_append_0 : decode cX5_append 0 = .ok (.iload_n 1, 1) := by decide +kernel
theorem dX5_append_1 : decode cX5_append 1 = .ok (.bipush 33, 2) := by decide +kernel
theorem dX5_append_3 : decode cX5_append 3 = .ok (.if_icmp .lt 9, 3) := by decide +kernel
theorem dX5_append_6 : decode cX5_append 6 = .ok (.iload_n 1, 1) := by decide +kernel
theorem dX5_append_7 : decode cX5_append 7 = .ok (.bipush 126, 2) := by decide +kernel
theorem dX5_append_9 : decode cX5_append 9 = .ok (.if_icmp .le 5, 3) := by decide +kernel
theorem dX5_append_12 : decode cX5_append 12 = .ok (.iconst (-1), 1) := by decide +kernel
theorem dX5_append_13 : decode cX5_append 13 = .ok (.ireturn, 1) := by decide +kernel
theorem dX5_append_14 : decode cX5_append 14 = .ok (.aload_n 0, 1) := by decide +kernel
theorem dX5_append_15 : decode cX5_append 15 = .ok (.getfield 32, 3) := by decide +kernel
theorem dX5_append_18 : decode cX5_append 18 = .ok (.getfield 114, 3) := by decide +kernel
theorem dX5_append_21 : decode cX5_append 21 = .ok (.bipush 60, 2) := by decide +kernel
theorem dX5_append_23 : decode cX5_append 23 = .ok (.if_icmp .lt 6, 3) := by decide +kernel
theorem dX5_append_26 : decode cX5_append 26 = .ok (.bipush (-3), 2) := by decide +kernel
theorem dX5_append_28 : decode cX5_append 28 = .ok (.ireturn, 1) := by decide +kernel
theorem dX5_append_29 : decode cX5_append 29 = .ok (.aload_n 0, 1) := by decide +kernel
theorem dX5_append_30 : decode cX5_append 30 = .ok (.getfield 32, 3) := by decide +kernel
theorem dX5_append_33 : decode cX5_append 33 = .ok (.iload_n 1, 1) := by decide +kernel
theorem dX5_append_34 : decode cX5_append 34 = .ok (.i2c, 1) := by decide +kernel
theorem dX5_append_35 : decode cX5_append 35 = .ok (.invokevirtual 117, 3) := by decide +kernel
theorem dX5_append_38 : decode cX5_append 38 = .ok (.aload_n 0, 1) := by decide +kernel
theorem dX5_append_39 : decode cX5_append 39 = .ok (.getfield 32, 3) := by decide +kernel
theorem dX5_append_42 : decode cX5_append 42 = .ok (.getfield 114, 3) := by decide +kernel
theorem dX5_append_45 : decode cX5_append 45 = .ok (.ireturn, 1) := by decide +kernel
theorem dX5_clear_0 : decode cX5_clear 0 = .ok (.aload_n 0, 1) := by decide +kernel
theorem dX5_clear_1 : decode cX5_clear 1 = .ok (.getfield 32, 3) := by decide +kernel
theorem dX5_clear_4 : decode cX5_clear 4 = .ok (.getfield 114, 3) := by decide +kernel
theorem dX5_clear_7 : decode cX5_clear 7 = .ok (.istore_n 1, 1) := by decide +kernel
theorem dX5_clear_8 : decode cX5_clear 8 = .ok (.aload_n 0, 1) := by decide +kernel
theorem dX5_clear_9 : decode cX5_clear 9 = .ok (.getfield 32, 3) := by decide +kernel
theorem dX5_clear_12 : decode cX5_clear 12 = .ok (.iconst 0, 1) := by decide +kernel
theorem dX5_clear_13 : decode cX5_clear 13 = .ok (.putfield 114, 3) := by decide +kernel
theorem dX5_clear_16 : decode cX5_clear 16 = .ok (.iload_n 1, 1) := by decide +kernel
theorem dX5_clear_17 : decode cX5_clear 17 = .ok (.ireturn, 1) := by decide +kernel
theorem dX5_fault_0 : decode cX5_fault 0 = .ok (.iload_n 1, 1) := by decide +kernel
theorem dX5_fault_1 : decode cX5_fault 1 = .ok (.lookupswitch 43 #[(0, 27), (1, 35)], 27) := by decide +kernel
theorem dX5_fault_28 : decode cX5_fault 28 = .ok (.aload_n 0, 1) := by decide +kernel
theorem dX5_fault_29 : decode cX5_fault 29 = .ok (.getfield 32, 3) := by decide +kernel
theorem dX5_fault_32 : decode cX5_fault 32 = .ok (.invokevirtual 121, 3) := by decide +kernel
theorem dX5_fault_35 : decode cX5_fault 35 = .ok (.ireturn, 1) := by decide +kernel
theorem dX5_fault_36 : decode cX5_fault 36 = .ok (.aload_n 0, 1) := by decide +kernel
theorem dX5_fault_37 : decode cX5_fault 37 = .ok (.getfield 32, 3) := by decide +kernel
theorem dX5_fault_40 : decode cX5_fault 40 = .ok (.invokevirtual 124, 3) := by decide +kernel
theorem dX5_fault_43 : decode cX5_fault 43 = .ok (.ireturn, 1) := by decide +kernel
theorem dX5_fault_44 : decode cX5_fault 44 = .ok (.iconst (-1), 1) := by decide +kernel
theorem dX5_fault_45 : decode cX5_fault 45 = .ok (.ireturn, 1) := by decide +kernel
theorem dX5_traders_0 : decode cX5_traders 0 = .ok (.aload_n 0, 1) := by decide +kernel
theorem dX5_traders_1 : decode cX5_traders 1 = .ok (.getfield 32, 3) := by decide +kernel
theorem dX5_traders_4 : decode cX5_traders 4 = .ok (.invokevirtual 121, 3) := by decide +kernel
theorem dX5_traders_7 : decode cX5_traders 7 = .ok (.bipush (-4), 2) := by decide +kernel
theorem dX5_traders_9 : decode cX5_traders 9 = .ok (.if_icmp .eq 6, 3) := by decide +kernel
theorem dX5_traders_12 : decode cX5_traders 12 = .ok (.bipush (-2), 2) := by decide +kernel
theorem dX5_traders_14 : decode cX5_traders 14 = .ok (.ireturn, 1) := by decide +kernel
theorem dX5_traders_15 : decode cX5_traders 15 = .ok (.aload_n 0, 1) := by decide +kernel
theorem dX5_traders_16 : decode cX5_traders 16 = .ok (.getfield 10, 3) := by decide +kernel
theorem dX5_traders_19 : decode cX5_traders 19 = .ok (.getfield 61, 3) := by decide +kernel
theorem dX5_traders_22 : decode cX5_traders 22 = .ok (.aload_n 0, 1) := by decide +kernel
theorem dX5_traders_23 : decode cX5_traders 23 = .ok (.getfield 32, 3) := by decide +kernel
theorem dX5_traders_26 : decode cX5_traders 26 = .ok (.invokevirtual 127, 3) := by decide +kernel
theorem dX5_traders_29 : decode cX5_traders 29 = .ok (.iadd, 1) := by decide +kernel
theorem dX5_traders_30 : decode cX5_traders 30 = .ok (.bipush 7, 2) := by decide +kernel
theorem dX5_traders_32 : decode cX5_traders 32 = .ok (.if_icmp .le 6, 3) := by decide +kernel
theorem dX5_traders_35 : decode cX5_traders 35 = .ok (.bipush (-3), 2) := by decide +kernel
theorem dX5_traders_37 : decode cX5_traders 37 = .ok (.ireturn, 1) := by decide +kernel
theorem dX5_traders_38 : decode cX5_traders 38 = .ok (.aload_n 0, 1) := by decide +kernel
theorem dX5_traders_39 : decode cX5_traders 39 = .ok (.getfield 25, 3) := by decide +kernel
theorem dX5_traders_42 : decode cX5_traders 42 = .ok (.aload_n 0, 1) := by decide +kernel
theorem dX5_traders_43 : decode cX5_traders 43 = .ok (.getfield 10, 3) := by decide +kernel
theorem dX5_traders_46 : decode cX5_traders 46 = .ok (.invokevirtual 64, 3) := by decide +kernel
theorem dX5_traders_49 : decode cX5_traders 49 = .ok (.iconst 0, 1) := by decide +kernel
theorem dX5_traders_50 : decode cX5_traders 50 = .ok (.istore_n 1, 1) := by decide +kernel
theorem dX5_traders_51 : decode cX5_traders 51 = .ok (.iload_n 1, 1) := by decide +kernel
theorem dX5_traders_52 : decode cX5_traders 52 = .ok (.aload_n 0, 1) := by decide +kernel
theorem dX5_traders_53 : decode cX5_traders 53 = .ok (.getfield 32, 3) := by decide +kernel
theorem dX5_traders_56 : decode cX5_traders 56 = .ok (.getfield 114, 3) := by decide +kernel
theorem dX5_traders_59 : decode cX5_traders 59 = .ok (.if_icmp .ge 47, 3) := by decide +kernel
theorem dX5_traders_62 : decode cX5_traders 62 = .ok (.aload_n 0, 1) := by decide +kernel
theorem dX5_traders_63 : decode cX5_traders 63 = .ok (.getfield 32, 3) := by decide +kernel
theorem dX5_traders_66 : decode cX5_traders 66 = .ok (.iload_n 1, 1) := by decide +kernel
theorem dX5_traders_67 : decode cX5_traders 67 = .ok (.invokevirtual 130, 3) := by decide +kernel
theorem dX5_traders_70 : decode cX5_traders 70 = .ok (.bipush 62, 2) := by decide +kernel
theorem dX5_traders_72 : decode cX5_traders 72 = .ok (.if_icmp .ne 28, 3) := by decide +kernel
theorem dX5_traders_75 : decode cX5_traders 75 = .ok (.aload_n 0, 1) := by decide +kernel
theorem dX5_traders_76 : decode cX5_traders 76 = .ok (.getfield 10, 3) := by decide +kernel
theorem dX5_traders_79 : decode cX5_traders 79 = .ok (.aload_n 0, 1) := by decide +kernel
theorem dX5_traders_80 : decode cX5_traders 80 = .ok (.getfield 32, 3) := by decide +kernel
theorem dX5_traders_83 : decode cX5_traders 83 = .ok (.iload_n 1, 1) := by decide +kernel
theorem dX5_traders_84 : decode cX5_traders 84 = .ok (.iconst 1, 1) := by decide +kernel
theorem dX5_traders_85 : decode cX5_traders 85 = .ok (.isub, 1) := by decide +kernel
theorem dX5_traders_86 : decode cX5_traders 86 = .ok (.invokevirtual 134, 3) := by decide +kernel
theorem dX5_traders_89 : decode cX5_traders 89 = .ok (.aload_n 0, 1) := by decide +kernel
theorem dX5_traders_90 : decode cX5_traders 90 = .ok (.getfield 32, 3) := by decide +kernel
theorem dX5_traders_93 : decode cX5_traders 93 = .ok (.iload_n 1, 1) := by decide +kernel
theorem dX5_traders_94 : decode cX5_traders 94 = .ok (.invokevirtual 138, 3) := by decide +kernel
theorem dX5_traders_97 : decode cX5_traders 97 = .ok (.invokevirtual 68, 3) := by decide +kernel
theorem dX5_traders_100 : decode cX5_traders 100 = .ok (.iinc 1 1, 3) := by decide +kernel
theorem dX5_traders_103 : decode cX5_traders 103 = .ok (.goto (-52), 3) := by decide +kernel
theorem dX5_traders_106 : decode cX5_traders 106 = .ok (.aload_n 0, 1) := by decide +kernel
theorem dX5_traders_107 : decode cX5_traders 107 = .ok (.getfield 32, 3) := by decide +kernel
theorem dX5_traders_110 : decode cX5_traders 110 = .ok (.iconst 0, 1) := by decide +kernel
theorem dX5_traders_111 : decode cX5_traders 111 = .ok (.putfield 114, 3) := by decide +kernel
theorem dX5_traders_114 : decode cX5_traders 114 = .ok (.aload_n 0, 1) := by decide +kernel
theorem dX5_traders_115 : decode cX5_traders 115 = .ok (.getfield 10, 3) := by decide +kernel
theorem dX5_traders_118 : decode cX5_traders 118 = .ok (.getfield 61, 3) := by decide +kernel
theorem dX5_traders_121 : decode cX5_traders 121 = .ok (.ireturn, 1) := by decide +kernel
theorem dX5_days_0 : decode cX5_days 0 = .ok (.aload_n 0, 1) := by decide +kernel
theorem dX5_days_1 : decode cX5_days 1 = .ok (.getfield 32, 3) := by decide +kernel
theorem dX5_days_4 : decode cX5_days 4 = .ok (.invokevirtual 124, 3) := by decide +kernel
theorem dX5_days_7 : decode cX5_days 7 = .ok (.bipush (-4), 2) := by decide +kernel
theorem dX5_days_9 : decode cX5_days 9 = .ok (.if_icmp .eq 6, 3) := by decide +kernel
theorem dX5_days_12 : decode cX5_days 12 = .ok (.bipush (-2), 2) := by decide +kernel
theorem dX5_days_14 : decode cX5_days 14 = .ok (.ireturn, 1) := by decide +kernel
theorem dX5_days_15 : decode cX5_days 15 = .ok (.aload_n 0, 1) := by decide +kernel
theorem dX5_days_16 : decode cX5_days 16 = .ok (.getfield 25, 3) := by decide +kernel
theorem dX5_days_19 : decode cX5_days 19 = .ok (.aload_n 0, 1) := by decide +kernel
theorem dX5_days_20 : decode cX5_days 20 = .ok (.getfield 10, 3) := by decide +kernel
theorem dX5_days_23 : decode cX5_days 23 = .ok (.invokevirtual 64, 3) := by decide +kernel
theorem dX5_days_26 : decode cX5_days 26 = .ok (.aload_n 0, 1) := by decide +kernel
theorem dX5_days_27 : decode cX5_days 27 = .ok (.getfield 10, 3) := by decide +kernel
theorem dX5_days_30 : decode cX5_days 30 = .ok (.invokevirtual 141, 3) := by decide +kernel
theorem dX5_days_33 : decode cX5_days 33 = .ok (.istore_n 1, 1) := by decide +kernel
theorem dX5_days_34 : decode cX5_days 34 = .ok (.aload_n 0, 1) := by decide +kernel
theorem dX5_days_35 : decode cX5_days 35 = .ok (.invokevirtual 144, 3) := by decide +kernel
theorem dX5_days_38 : decode cX5_days 38 = .ok (.aload_n 0, 1) := by decide +kernel
theorem dX5_days_39 : decode cX5_days 39 = .ok (.getfield 32, 3) := by decide +kernel
theorem dX5_days_42 : decode cX5_days 42 = .ok (.iconst 0, 1) := by decide +kernel
theorem dX5_days_43 : decode cX5_days 43 = .ok (.putfield 114, 3) := by decide +kernel
theorem dX5_days_46 : decode cX5_days 46 = .ok (.aload_n 0, 1) := by decide +kernel
theorem dX5_days_47 : decode cX5_days 47 = .ok (.getfield 10, 3) := by decide +kernel
theorem dX5_days_50 : decode cX5_days 50 = .ok (.invokevirtual 141, 3) := by decide +kernel
theorem dX5_days_53 : decode cX5_days 53 = .ok (.iload_n 1, 1) := by decide +kernel
theorem dX5_days_54 : decode cX5_days 54 = .ok (.isub, 1) := by decide +kernel
theorem dX5_days_55 : decode cX5_days 55 = .ok (.ireturn, 1) := by decide +kernel
theorem dX5_why_0 : decode cX5_why 0 = .ok (.iload_n 1, 1) := by decide +kernel
theorem dX5_why_1 : decode cX5_why 1 = .ok (.ifCond .eq 10, 3) := by decide +kernel
theorem dX5_why_4 : decode cX5_why 4 = .ok (.iload_n 1, 1) := by decide +kernel
theorem dX5_why_5 : decode cX5_why 5 = .ok (.iconst 1, 1) := by decide +kernel
theorem dX5_why_6 : decode cX5_why 6 = .ok (.if_icmp .eq 5, 3) := by decide +kernel
theorem dX5_why_9 : decode cX5_why 9 = .ok (.iconst (-1), 1) := by decide +kernel
theorem dX5_why_10 : decode cX5_why 10 = .ok (.ireturn, 1) := by decide +kernel
theorem dX5_why_11 : decode cX5_why 11 = .ok (.aload_n 0, 1) := by decide +kernel
theorem dX5_why_12 : decode cX5_why 12 = .ok (.getfield 50, 3) := by decide +kernel
theorem dX5_why_15 : decode cX5_why 15 = .ok (.iconst (-1), 1) := by decide +kernel
theorem dX5_why_16 : decode cX5_why 16 = .ok (.if_icmp .ne 6, 3) := by decide +kernel
theorem dX5_why_19 : decode cX5_why 19 = .ok (.bipush (-4), 2) := by decide +kernel
theorem dX5_why_21 : decode cX5_why 21 = .ok (.ireturn, 1) := by decide +kernel
theorem dX5_why_22 : decode cX5_why 22 = .ok (.iload_n 1, 1) := by decide +kernel
theorem dX5_why_23 : decode cX5_why 23 = .ok (.ifCond .ne 10, 3) := by decide +kernel
theorem dX5_why_26 : decode cX5_why 26 = .ok (.aload_n 0, 1) := by decide +kernel
theorem dX5_why_27 : decode cX5_why 27 = .ok (.getfield 147, 3) := by decide +kernel
theorem dX5_why_30 : decode cX5_why 30 = .ok (.goto 7, 3) := by decide +kernel
theorem dX5_why_33 : decode cX5_why 33 = .ok (.aload_n 0, 1) := by decide +kernel
theorem dX5_why_34 : decode cX5_why 34 = .ok (.getfield 50, 3) := by decide +kernel
theorem dX5_why_37 : decode cX5_why 37 = .ok (.ireturn, 1) := by decide +kernel
theorem dX5_trader_0 : decode cX5_trader 0 = .ok (.aload_n 0, 1) := by decide +kernel
theorem dX5_trader_1 : decode cX5_trader 1 = .ok (.getfield 10, 3) := by decide +kernel
theorem dX5_trader_4 : decode cX5_trader 4 = .ok (.iload_n 1, 1) := by decide +kernel
theorem dX5_trader_5 : decode cX5_trader 5 = .ok (.invokevirtual 72, 3) := by decide +kernel
theorem dX5_trader_8 : decode cX5_trader 8 = .ok (.ifCond .ne 5, 3) := by decide +kernel
theorem dX5_trader_11 : decode cX5_trader 11 = .ok (.iconst (-1), 1) := by decide +kernel
theorem dX5_trader_12 : decode cX5_trader 12 = .ok (.ireturn, 1) := by decide +kernel
theorem dX5_trader_13 : decode cX5_trader 13 = .ok (.iload_n 2, 1) := by decide +kernel
theorem dX5_trader_14 : decode cX5_trader 14 = .ok (.tableswitch 205 0 9 #[54, 64, 74, 100, 126, 151, 168, 178, 190, 199], 54) := by decide +kernel
theorem dX5_trader_68 : decode cX5_trader 68 = .ok (.aload_n 0, 1) := by decide +kernel
theorem dX5_trader_69 : decode cX5_trader 69 = .ok (.getfield 10, 3) := by decide +kernel
theorem dX5_trader_72 : decode cX5_trader 72 = .ok (.getfield 150, 3) := by decide +kernel
theorem dX5_trader_75 : decode cX5_trader 75 = .ok (.iload_n 1, 1) := by decide +kernel
theorem dX5_trader_76 : decode cX5_trader 76 = .ok (.iaload, 1) := by decide +kernel
theorem dX5_trader_77 : decode cX5_trader 77 = .ok (.ireturn, 1) := by decide +kernel
theorem dX5_trader_78 : decode cX5_trader 78 = .ok (.aload_n 0, 1) := by decide +kernel
theorem dX5_trader_79 : decode cX5_trader 79 = .ok (.getfield 10, 3) := by decide +kernel
theorem dX5_trader_82 : decode cX5_trader 82 = .ok (.getfield 83, 3) := by decide +kernel
theorem dX5_trader_85 : decode cX5_trader 85 = .ok (.iload_n 1, 1) := by decide +kernel
theorem dX5_trader_86 : decode cX5_trader 86 = .ok (.iaload, 1) := by decide +kernel
theorem dX5_trader_87 : decode cX5_trader 87 = .ok (.ireturn, 1) := by decide +kernel
theorem dX5_trader_88 : decode cX5_trader 88 = .ok (.aload_n 0, 1) := by decide +kernel
theorem dX5_trader_89 : decode cX5_trader 89 = .ok (.getfield 10, 3) := by decide +kernel
theorem dX5_trader_92 : decode cX5_trader 92 = .ok (.iload_n 1, 1) := by decide +kernel
theorem dX5_trader_93 : decode cX5_trader 93 = .ok (.invokevirtual 153, 3) := by decide +kernel
theorem dX5_trader_96 : decode cX5_trader 96 = .ok (.ifCond .eq 15, 3) := by decide +kernel
theorem dX5_trader_99 : decode cX5_trader 99 = .ok (.aload_n 0, 1) := by decide +kernel
theorem dX5_trader_100 : decode cX5_trader 100 = .ok (.getfield 10, 3) := by decide +kernel
theorem dX5_trader_103 : decode cX5_trader 103 = .ok (.getfield 156, 3) := by decide +kernel
theorem dX5_trader_106 : decode cX5_trader 106 = .ok (.iload_n 1, 1) := by decide +kernel
theorem dX5_trader_107 : decode cX5_trader 107 = .ok (.iaload, 1) := by decide +kernel
theorem dX5_trader_108 : decode cX5_trader 108 = .ok (.goto 5, 3) := by decide +kernel
theorem dX5_trader_111 : decode cX5_trader 111 = .ok (.bipush (-4), 2) := by decide +kernel
theorem dX5_trader_113 : decode cX5_trader 113 = .ok (.ireturn, 1) := by decide +kernel
theorem dX5_trader_114 : decode cX5_trader 114 = .ok (.aload_n 0, 1) := by decide +kernel
theorem dX5_trader_115 : decode cX5_trader 115 = .ok (.getfield 10, 3) := by decide +kernel
theorem dX5_trader_118 : decode cX5_trader 118 = .ok (.iload_n 1, 1) := by decide +kernel
theorem dX5_trader_119 : decode cX5_trader 119 = .ok (.invokevirtual 153, 3) := by decide +kernel
theorem dX5_trader_122 : decode cX5_trader 122 = .ok (.ifCond .eq 15, 3) := by decide +kernel
theorem dX5_trader_125 : decode cX5_trader 125 = .ok (.aload_n 0, 1) := by decide +kernel
theorem dX5_trader_126 : decode cX5_trader 126 = .ok (.getfield 10, 3) := by decide +kernel
theorem dX5_trader_129 : decode cX5_trader 129 = .ok (.getfield 159, 3) := by decide +kernel
theorem dX5_trader_132 : decode cX5_trader 132 = .ok (.iload_n 1, 1) := by decide +kernel
theorem dX5_trader_133 : decode cX5_trader 133 = .ok (.iaload, 1) := by decide +kernel
theorem dX5_trader_134 : decode cX5_trader 134 = .ok (.goto 5, 3) := by decide +kernel
theorem dX5_trader_137 : decode cX5_trader 137 = .ok (.bipush (-4), 2) := by decide +kernel
theorem dX5_trader_139 : decode cX5_trader 139 = .ok (.ireturn, 1) := by decide +kernel
theorem dX5_trader_140 : decode cX5_trader 140 = .ok (.aload_n 0, 1) := by decide +kernel
theorem dX5_trader_141 : decode cX5_trader 141 = .ok (.getfield 10, 3) := by decide +kernel
theorem dX5_trader_144 : decode cX5_trader 144 = .ok (.iload_n 1, 1) := by decide +kernel
theorem dX5_trader_145 : decode cX5_trader 145 = .ok (.invokevirtual 153, 3) := by decide +kernel
theorem dX5_trader_148 : decode cX5_trader 148 = .ok (.ifCond .eq 14, 3) := by decide +kernel
theorem dX5_trader_151 : decode cX5_trader 151 = .ok (.aload_n 0, 1) := by decide +kernel
theorem dX5_trader_152 : decode cX5_trader 152 = .ok (.getfield 10, 3) := by decide +kernel
theorem dX5_trader_155 : decode cX5_trader 155 = .ok (.iload_n 1, 1) := by decide +kernel
theorem dX5_trader_156 : decode cX5_trader 156 = .ok (.invokevirtual 162, 3) := by decide +kernel
theorem dX5_trader_159 : decode cX5_trader 159 = .ok (.goto 5, 3) := by decide +kernel
theorem dX5_trader_162 : decode cX5_trader 162 = .ok (.bipush (-4), 2) := by decide +kernel
theorem dX5_trader_164 : decode cX5_trader 164 = .ok (.ireturn, 1) := by decide +kernel
theorem dX5_trader_165 : decode cX5_trader 165 = .ok (.aload_n 0, 1) := by decide +kernel
theorem dX5_trader_166 : decode cX5_trader 166 = .ok (.getfield 10, 3) := by decide +kernel
theorem dX5_trader_169 : decode cX5_trader 169 = .ok (.getfield 165, 3) := by decide +kernel
theorem dX5_trader_172 : decode cX5_trader 172 = .ok (.iload_n 1, 1) := by decide +kernel
theorem dX5_trader_173 : decode cX5_trader 173 = .ok (.if_icmp .ne 7, 3) := by decide +kernel
theorem dX5_trader_176 : decode cX5_trader 176 = .ok (.iconst 1, 1) := by decide +kernel
theorem dX5_trader_177 : decode cX5_trader 177 = .ok (.goto 4, 3) := by decide +kernel
theorem dX5_trader_180 : decode cX5_trader 180 = .ok (.iconst 0, 1) := by decide +kernel
theorem dX5_trader_181 : decode cX5_trader 181 = .ok (.ireturn, 1) := by decide +kernel
theorem dX5_trader_182 : decode cX5_trader 182 = .ok (.aload_n 0, 1) := by decide +kernel
theorem dX5_trader_183 : decode cX5_trader 183 = .ok (.getfield 10, 3) := by decide +kernel
theorem dX5_trader_186 : decode cX5_trader 186 = .ok (.getfield 75, 3) := by decide +kernel
theorem dX5_trader_189 : decode cX5_trader 189 = .ok (.iload_n 1, 1) := by decide +kernel
theorem dX5_trader_190 : decode cX5_trader 190 = .ok (.iaload, 1) := by decide +kernel
theorem dX5_trader_191 : decode cX5_trader 191 = .ok (.ireturn, 1) := by decide +kernel
theorem dX5_trader_192 : decode cX5_trader 192 = .ok (.aload_n 0, 1) := by decide +kernel
theorem dX5_trader_193 : decode cX5_trader 193 = .ok (.getfield 10, 3) := by decide +kernel
theorem dX5_trader_196 : decode cX5_trader 196 = .ok (.iload_n 1, 1) := by decide +kernel
theorem dX5_trader_197 : decode cX5_trader 197 = .ok (.invokevirtual 168, 3) := by decide +kernel
theorem dX5_trader_200 : decode cX5_trader 200 = .ok (.invokestatic 171, 3) := by decide +kernel
theorem dX5_trader_203 : decode cX5_trader 203 = .ok (.ireturn, 1) := by decide +kernel
theorem dX5_trader_204 : decode cX5_trader 204 = .ok (.aload_n 0, 1) := by decide +kernel
theorem dX5_trader_205 : decode cX5_trader 205 = .ok (.getfield 10, 3) := by decide +kernel
theorem dX5_trader_208 : decode cX5_trader 208 = .ok (.iload_n 1, 1) := by decide +kernel
theorem dX5_trader_209 : decode cX5_trader 209 = .ok (.invokevirtual 176, 3) := by decide +kernel
theorem dX5_trader_212 : decode cX5_trader 212 = .ok (.ireturn, 1) := by decide +kernel
theorem dX5_trader_213 : decode cX5_trader 213 = .ok (.aload_n 0, 1) := by decide +kernel
theorem dX5_trader_214 : decode cX5_trader 214 = .ok (.iload_n 1, 1) := by decide +kernel
theorem dX5_trader_215 : decode cX5_trader 215 = .ok (.invokevirtual 179, 3) := by decide +kernel
theorem dX5_trader_218 : decode cX5_trader 218 = .ok (.ireturn, 1) := by decide +kernel
theorem dX5_trader_219 : decode cX5_trader 219 = .ok (.iconst (-1), 1) := by decide +kernel
theorem dX5_trader_220 : decode cX5_trader 220 = .ok (.ireturn, 1) := by decide +kernel
theorem dX5_can_0 : decode cX5_can 0 = .ok (.aload_n 0, 1) := by decide +kernel
theorem dX5_can_1 : decode cX5_can 1 = .ok (.getfield 10, 3) := by decide +kernel
theorem dX5_can_4 : decode cX5_can 4 = .ok (.iload_n 1, 1) := by decide +kernel
theorem dX5_can_5 : decode cX5_can 5 = .ok (.iload_n 2, 1) := by decide +kernel
theorem dX5_can_6 : decode cX5_can 6 = .ok (.invokevirtual 98, 3) := by decide +kernel
theorem dX5_can_9 : decode cX5_can 9 = .ok (.ifCond .ne 5, 3) := by decide +kernel
theorem dX5_can_12 : decode cX5_can 12 = .ok (.iconst (-1), 1) := by decide +kernel
theorem dX5_can_13 : decode cX5_can 13 = .ok (.ireturn, 1) := by decide +kernel
theorem dX5_can_14 : decode cX5_can 14 = .ok (.aload_n 0, 1) := by decide +kernel
theorem dX5_can_15 : decode cX5_can 15 = .ok (.getfield 10, 3) := by decide +kernel
theorem dX5_can_18 : decode cX5_can 18 = .ok (.iload_n 1, 1) := by decide +kernel
theorem dX5_can_19 : decode cX5_can 19 = .ok (.iload_n 2, 1) := by decide +kernel
theorem dX5_can_20 : decode cX5_can 20 = .ok (.invokevirtual 182, 3) := by decide +kernel
theorem dX5_can_23 : decode cX5_can 23 = .ok (.ifCond .eq 7, 3) := by decide +kernel
theorem dX5_can_26 : decode cX5_can 26 = .ok (.iconst 1, 1) := by decide +kernel
theorem dX5_can_27 : decode cX5_can 27 = .ok (.goto 4, 3) := by decide +kernel
theorem dX5_can_30 : decode cX5_can 30 = .ok (.iconst 0, 1) := by decide +kernel
theorem dX5_can_31 : decode cX5_can 31 = .ok (.ireturn, 1) := by decide +kernel
theorem dX5_whyNot_0 : decode cX5_whyNot 0 = .ok (.aload_n 0, 1) := by decide +kernel
theorem dX5_whyNot_1 : decode cX5_whyNot 1 = .ok (.getfield 10, 3) := by decide +kernel
theorem dX5_whyNot_4 : decode cX5_whyNot 4 = .ok (.iload_n 1, 1) := by decide +kernel
theorem dX5_whyNot_5 : decode cX5_whyNot 5 = .ok (.iload_n 2, 1) := by decide +kernel
theorem dX5_whyNot_6 : decode cX5_whyNot 6 = .ok (.invokevirtual 98, 3) := by decide +kernel
theorem dX5_whyNot_9 : decode cX5_whyNot 9 = .ok (.ifCond .eq 15, 3) := by decide +kernel
theorem dX5_whyNot_12 : decode cX5_whyNot 12 = .ok (.aload_n 0, 1) := by decide +kernel
theorem dX5_whyNot_13 : decode cX5_whyNot 13 = .ok (.getfield 10, 3) := by decide +kernel
theorem dX5_whyNot_16 : decode cX5_whyNot 16 = .ok (.iload_n 1, 1) := by decide +kernel
theorem dX5_whyNot_17 : decode cX5_whyNot 17 = .ok (.iload_n 2, 1) := by decide +kernel
theorem dX5_whyNot_18 : decode cX5_whyNot 18 = .ok (.invokevirtual 185, 3) := by decide +kernel
theorem dX5_whyNot_21 : decode cX5_whyNot 21 = .ok (.goto 4, 3) := by decide +kernel
theorem dX5_whyNot_24 : decode cX5_whyNot 24 = .ok (.iconst (-1), 1) := by decide +kernel
theorem dX5_whyNot_25 : decode cX5_whyNot 25 = .ok (.ireturn, 1) := by decide +kernel
theorem dX5_most_0 : decode cX5_most 0 = .ok (.iload_n 1, 1) := by decide +kernel
theorem dX5_most_1 : decode cX5_most 1 = .ok (.lookupswitch 58 #[(0, 27), (1, 46)], 27) := by decide +kernel
theorem dX5_most_28 : decode cX5_most 28 = .ok (.aload_n 0, 1) := by decide +kernel
theorem dX5_most_29 : decode cX5_most 29 = .ok (.getfield 39, 3) := by decide +kernel
theorem dX5_most_32 : decode cX5_most 32 = .ok (.aload_n 0, 1) := by decide +kernel
theorem dX5_most_33 : decode cX5_most 33 = .ok (.getfield 10, 3) := by decide +kernel
theorem dX5_most_36 : decode cX5_most 36 = .ok (.aload_n 0, 1) := by decide +kernel
theorem dX5_most_37 : decode cX5_most 37 = .ok (.getfield 10, 3) := by decide +kernel
theorem dX5_most_40 : decode cX5_most 40 = .ok (.getfield 92, 3) := by decide +kernel
theorem dX5_most_43 : decode cX5_most 43 = .ok (.invokevirtual 188, 3) := by decide +kernel
theorem dX5_most_46 : decode cX5_most 46 = .ok (.ireturn, 1) := by decide +kernel
theorem dX5_most_47 : decode cX5_most 47 = .ok (.aload_n 0, 1) := by decide +kernel
theorem dX5_most_48 : decode cX5_most 48 = .ok (.getfield 46, 3) := by decide +kernel
theorem dX5_most_51 : decode cX5_most 51 = .ok (.aload_n 0, 1) := by decide +kernel
theorem dX5_most_52 : decode cX5_most 52 = .ok (.getfield 10, 3) := by decide +kernel
theorem dX5_most_55 : decode cX5_most 55 = .ok (.invokevirtual 192, 3) := by decide +kernel
theorem dX5_most_58 : decode cX5_most 58 = .ok (.ireturn, 1) := by decide +kernel
theorem dX5_most_59 : decode cX5_most 59 = .ok (.iconst (-1), 1) := by decide +kernel
theorem dX5_most_60 : decode cX5_most 60 = .ok (.ireturn, 1) := by decide +kernel
theorem dX5_kind_0 : decode cX5_kind 0 = .ok (.iload_n 1, 1) := by decide +kernel
theorem dX5_kind_1 : decode cX5_kind 1 = .ok (.invokestatic 54, 3) := by decide +kernel
theorem dX5_kind_4 : decode cX5_kind 4 = .ok (.ifCond .ne 5, 3) := by decide +kernel
theorem dX5_kind_7 : decode cX5_kind 7 = .ok (.iconst (-1), 1) := by decide +kernel
theorem dX5_kind_8 : decode cX5_kind 8 = .ok (.ireturn, 1) := by decide +kernel
theorem dX5_kind_9 : decode cX5_kind 9 = .ok (.iload_n 2, 1) := by decide +kernel
theorem dX5_kind_10 : decode cX5_kind 10 = .ok (.tableswitch 103 0 5 #[38, 48, 57, 75, 84, 93], 38) := by decide +kernel
theorem dX5_kind_48 : decode cX5_kind 48 = .ok (.aload_n 0, 1) := by decide +kernel
theorem dX5_kind_49 : decode cX5_kind 49 = .ok (.getfield 10, 3) := by decide +kernel
theorem dX5_kind_52 : decode cX5_kind 52 = .ok (.getfield 86, 3) := by decide +kernel
theorem dX5_kind_55 : decode cX5_kind 55 = .ok (.iload_n 1, 1) := by decide +kernel
theorem dX5_kind_56 : decode cX5_kind 56 = .ok (.iaload, 1) := by decide +kernel
theorem dX5_kind_57 : decode cX5_kind 57 = .ok (.ireturn, 1) := by decide +kernel
theorem dX5_kind_58 : decode cX5_kind 58 = .ok (.aload_n 0, 1) := by decide +kernel
theorem dX5_kind_59 : decode cX5_kind 59 = .ok (.getfield 10, 3) := by decide +kernel
theorem dX5_kind_62 : decode cX5_kind 62 = .ok (.iload_n 1, 1) := by decide +kernel
theorem dX5_kind_63 : decode cX5_kind 63 = .ok (.invokevirtual 195, 3) := by decide +kernel
theorem dX5_kind_66 : decode cX5_kind 66 = .ok (.ireturn, 1) := by decide +kernel
theorem dX5_kind_67 : decode cX5_kind 67 = .ok (.aload_n 0, 1) := by decide +kernel
theorem dX5_kind_68 : decode cX5_kind 68 = .ok (.getfield 10, 3) := by decide +kernel
theorem dX5_kind_71 : decode cX5_kind 71 = .ok (.iload_n 1, 1) := by decide +kernel
theorem dX5_kind_72 : decode cX5_kind 72 = .ok (.invokevirtual 195, 3) := by decide +kernel
theorem dX5_kind_75 : decode cX5_kind 75 = .ok (.aload_n 0, 1) := by decide +kernel
theorem dX5_kind_76 : decode cX5_kind 76 = .ok (.getfield 10, 3) := by decide +kernel
theorem dX5_kind_79 : decode cX5_kind 79 = .ok (.iload_n 1, 1) := by decide +kernel
theorem dX5_kind_80 : decode cX5_kind 80 = .ok (.invokevirtual 198, 3) := by decide +kernel
theorem dX5_kind_83 : decode cX5_kind 83 = .ok (.isub, 1) := by decide +kernel
theorem dX5_kind_84 : decode cX5_kind 84 = .ok (.ireturn, 1) := by decide +kernel
theorem dX5_kind_85 : decode cX5_kind 85 = .ok (.aload_n 0, 1) := by decide +kernel
theorem dX5_kind_86 : decode cX5_kind 86 = .ok (.getfield 10, 3) := by decide +kernel
theorem dX5_kind_89 : decode cX5_kind 89 = .ok (.iload_n 1, 1) := by decide +kernel
theorem dX5_kind_90 : decode cX5_kind 90 = .ok (.invokevirtual 201, 3) := by decide +kernel
theorem dX5_kind_93 : decode cX5_kind 93 = .ok (.ireturn, 1) := by decide +kernel
theorem dX5_kind_94 : decode cX5_kind 94 = .ok (.aload_n 0, 1) := by decide +kernel
theorem dX5_kind_95 : decode cX5_kind 95 = .ok (.getfield 10, 3) := by decide +kernel
theorem dX5_kind_98 : decode cX5_kind 98 = .ok (.iload_n 1, 1) := by decide +kernel
theorem dX5_kind_99 : decode cX5_kind 99 = .ok (.invokevirtual 204, 3) := by decide +kernel
theorem dX5_kind_102 : decode cX5_kind 102 = .ok (.ireturn, 1) := by decide +kernel
theorem dX5_kind_103 : decode cX5_kind 103 = .ok (.aload_n 0, 1) := by decide +kernel
theorem dX5_kind_104 : decode cX5_kind 104 = .ok (.getfield 10, 3) := by decide +kernel
theorem dX5_kind_107 : decode cX5_kind 107 = .ok (.getfield 207, 3) := by decide +kernel
theorem dX5_kind_110 : decode cX5_kind 110 = .ok (.iload_n 1, 1) := by decide +kernel
theorem dX5_kind_111 : decode cX5_kind 111 = .ok (.iaload, 1) := by decide +kernel
theorem dX5_kind_112 : decode cX5_kind 112 = .ok (.ireturn, 1) := by decide +kernel
theorem dX5_kind_113 : decode cX5_kind 113 = .ok (.iconst (-1), 1) := by decide +kernel
theorem dX5_kind_114 : decode cX5_kind 114 = .ok (.ireturn, 1) := by decide +kernel
theorem dX5_count_0 : decode cX5_count 0 = .ok (.iload_n 1, 1) := by decide +kernel
theorem dX5_count_1 : decode cX5_count 1 = .ok (.tableswitch 223 0 15 #[79, 87, 95, 103, 111, 119, 127, 135, 143, 151, 159, 167, 175, 183, 207, 215], 79) := by decide +kernel
theorem dX5_count_80 : decode cX5_count 80 = .ok (.aload_n 0, 1) := by decide +kernel
theorem dX5_count_81 : decode cX5_count 81 = .ok (.getfield 10, 3) := by decide +kernel
theorem dX5_count_84 : decode cX5_count 84 = .ok (.getfield 210, 3) := by decide +kernel
theorem dX5_count_87 : decode cX5_count 87 = .ok (.ireturn, 1) := by decide +kernel
theorem dX5_count_88 : decode cX5_count 88 = .ok (.aload_n 0, 1) := by decide +kernel
theorem dX5_count_89 : decode cX5_count 89 = .ok (.getfield 10, 3) := by decide +kernel
theorem dX5_count_92 : decode cX5_count 92 = .ok (.getfield 61, 3) := by decide +kernel
theorem dX5_count_95 : decode cX5_count 95 = .ok (.ireturn, 1) := by decide +kernel
theorem dX5_count_96 : decode cX5_count 96 = .ok (.aload_n 0, 1) := by decide +kernel
theorem dX5_count_97 : decode cX5_count 97 = .ok (.getfield 10, 3) := by decide +kernel
theorem dX5_count_100 : decode cX5_count 100 = .ok (.invokevirtual 213, 3) := by decide +kernel
theorem dX5_count_103 : decode cX5_count 103 = .ok (.ireturn, 1) := by decide +kernel
theorem dX5_count_104 : decode cX5_count 104 = .ok (.aload_n 0, 1) := by decide +kernel
theorem dX5_count_105 : decode cX5_count 105 = .ok (.getfield 10, 3) := by decide +kernel
theorem dX5_count_108 : decode cX5_count 108 = .ok (.invokevirtual 141, 3) := by decide +kernel
theorem dX5_count_111 : decode cX5_count 111 = .ok (.ireturn, 1) := by decide +kernel
theorem dX5_count_112 : decode cX5_count 112 = .ok (.aload_n 0, 1) := by decide +kernel
theorem dX5_count_113 : decode cX5_count 113 = .ok (.getfield 10, 3) := by decide +kernel
theorem dX5_count_116 : decode cX5_count 116 = .ok (.invokevirtual 216, 3) := by decide +kernel
theorem dX5_count_119 : decode cX5_count 119 = .ok (.ireturn, 1) := by decide +kernel
theorem dX5_count_120 : decode cX5_count 120 = .ok (.aload_n 0, 1) := by decide +kernel
theorem dX5_count_121 : decode cX5_count 121 = .ok (.getfield 10, 3) := by decide +kernel
theorem dX5_count_124 : decode cX5_count 124 = .ok (.invokevirtual 219, 3) := by decide +kernel
theorem dX5_count_127 : decode cX5_count 127 = .ok (.ireturn, 1) := by decide +kernel
theorem dX5_count_128 : decode cX5_count 128 = .ok (.aload_n 0, 1) := by decide +kernel
theorem dX5_count_129 : decode cX5_count 129 = .ok (.getfield 10, 3) := by decide +kernel
theorem dX5_count_132 : decode cX5_count 132 = .ok (.getfield 222, 3) := by decide +kernel
theorem dX5_count_135 : decode cX5_count 135 = .ok (.ireturn, 1) := by decide +kernel
theorem dX5_count_136 : decode cX5_count 136 = .ok (.aload_n 0, 1) := by decide +kernel
theorem dX5_count_137 : decode cX5_count 137 = .ok (.getfield 10, 3) := by decide +kernel
theorem dX5_count_140 : decode cX5_count 140 = .ok (.getfield 225, 3) := by decide +kernel
theorem dX5_count_143 : decode cX5_count 143 = .ok (.ireturn, 1) := by decide +kernel
theorem dX5_count_144 : decode cX5_count 144 = .ok (.aload_n 0, 1) := by decide +kernel
theorem dX5_count_145 : decode cX5_count 145 = .ok (.getfield 10, 3) := by decide +kernel
theorem dX5_count_148 : decode cX5_count 148 = .ok (.getfield 228, 3) := by decide +kernel
theorem dX5_count_151 : decode cX5_count 151 = .ok (.ireturn, 1) := by decide +kernel
theorem dX5_count_152 : decode cX5_count 152 = .ok (.aload_n 0, 1) := by decide +kernel
theorem dX5_count_153 : decode cX5_count 153 = .ok (.getfield 10, 3) := by decide +kernel
theorem dX5_count_156 : decode cX5_count 156 = .ok (.getfield 231, 3) := by decide +kernel
theorem dX5_count_159 : decode cX5_count 159 = .ok (.ireturn, 1) := by decide +kernel
theorem dX5_count_160 : decode cX5_count 160 = .ok (.aload_n 0, 1) := by decide +kernel
theorem dX5_count_161 : decode cX5_count 161 = .ok (.getfield 10, 3) := by decide +kernel
theorem dX5_count_164 : decode cX5_count 164 = .ok (.invokevirtual 234, 3) := by decide +kernel
theorem dX5_count_167 : decode cX5_count 167 = .ok (.ireturn, 1) := by decide +kernel
theorem dX5_count_168 : decode cX5_count 168 = .ok (.aload_n 0, 1) := by decide +kernel
theorem dX5_count_169 : decode cX5_count 169 = .ok (.getfield 10, 3) := by decide +kernel
theorem dX5_count_172 : decode cX5_count 172 = .ok (.getfield 92, 3) := by decide +kernel
theorem dX5_count_175 : decode cX5_count 175 = .ok (.ireturn, 1) := by decide +kernel
theorem dX5_count_176 : decode cX5_count 176 = .ok (.aload_n 0, 1) := by decide +kernel
theorem dX5_count_177 : decode cX5_count 177 = .ok (.getfield 10, 3) := by decide +kernel
theorem dX5_count_180 : decode cX5_count 180 = .ok (.getfield 95, 3) := by decide +kernel
theorem dX5_count_183 : decode cX5_count 183 = .ok (.ireturn, 1) := by decide +kernel
theorem dX5_count_184 : decode cX5_count 184 = .ok (.aload_n 0, 1) := by decide +kernel
theorem dX5_count_185 : decode cX5_count 185 = .ok (.getfield 10, 3) := by decide +kernel
theorem dX5_count_188 : decode cX5_count 188 = .ok (.getfield 165, 3) := by decide +kernel
theorem dX5_count_191 : decode cX5_count 191 = .ok (.iconst (-1), 1) := by decide +kernel
theorem dX5_count_192 : decode cX5_count 192 = .ok (.if_icmp .ne 8, 3) := by decide +kernel
theorem dX5_count_195 : decode cX5_count 195 = .ok (.bipush (-4), 2) := by decide +kernel
theorem dX5_count_197 : decode cX5_count 197 = .ok (.goto 10, 3) := by decide +kernel
theorem dX5_count_200 : decode cX5_count 200 = .ok (.aload_n 0, 1) := by decide +kernel
theorem dX5_count_201 : decode cX5_count 201 = .ok (.getfield 10, 3) := by decide +kernel
theorem dX5_count_204 : decode cX5_count 204 = .ok (.getfield 165, 3) := by decide +kernel
theorem dX5_count_207 : decode cX5_count 207 = .ok (.ireturn, 1) := by decide +kernel
theorem dX5_count_208 : decode cX5_count 208 = .ok (.aload_n 0, 1) := by decide +kernel
theorem dX5_count_209 : decode cX5_count 209 = .ok (.getfield 32, 3) := by decide +kernel
theorem dX5_count_212 : decode cX5_count 212 = .ok (.getfield 114, 3) := by decide +kernel
theorem dX5_count_215 : decode cX5_count 215 = .ok (.ireturn, 1) := by decide +kernel
theorem dX5_count_216 : decode cX5_count 216 = .ok (.aload_n 0, 1) := by decide +kernel
theorem dX5_count_217 : decode cX5_count 217 = .ok (.getfield 25, 3) := by decide +kernel
theorem dX5_count_220 : decode cX5_count 220 = .ok (.getfield 237, 3) := by decide +kernel
theorem dX5_count_223 : decode cX5_count 223 = .ok (.ireturn, 1) := by decide +kernel
theorem dX5_count_224 : decode cX5_count 224 = .ok (.iconst (-1), 1) := by decide +kernel
theorem dX5_count_225 : decode cX5_count 225 = .ok (.ireturn, 1) := by decide +kernel
theorem dX5_freshness_0 : decode cX5_freshness 0 = .ok (.aload_n 0, 1) := by decide +kernel
theorem dX5_freshness_1 : decode cX5_freshness 1 = .ok (.getfield 10, 3) := by decide +kernel
theorem dX5_freshness_4 : decode cX5_freshness 4 = .ok (.invokevirtual 216, 3) := by decide +kernel
theorem dX5_freshness_7 : decode cX5_freshness 7 = .ok (.istore_n 1, 1) := by decide +kernel
theorem dX5_freshness_8 : decode cX5_freshness 8 = .ok (.iload_n 1, 1) := by decide +kernel
theorem dX5_freshness_9 : decode cX5_freshness 9 = .ok (.ifCond .le 17, 3) := by decide +kernel
theorem dX5_freshness_12 : decode cX5_freshness 12 = .ok (.aload_n 0, 1) := by decide +kernel
theorem dX5_freshness_13 : decode cX5_freshness 13 = .ok (.getfield 10, 3) := by decide +kernel
theorem dX5_freshness_16 : decode cX5_freshness 16 = .ok (.invokevirtual 240, 3) := by decide +kernel
theorem dX5_freshness_19 : decode cX5_freshness 19 = .ok (.i2d, 1) := by decide +kernel
theorem dX5_freshness_20 : decode cX5_freshness 20 = .ok (.iload_n 1, 1) := by decide +kernel
theorem dX5_freshness_21 : decode cX5_freshness 21 = .ok (.i2d, 1) := by decide +kernel
theorem dX5_freshness_22 : decode cX5_freshness 22 = .ok (.ddiv, 1) := by decide +kernel
theorem dX5_freshness_23 : decode cX5_freshness 23 = .ok (.goto 4, 3) := by decide +kernel
theorem dX5_freshness_26 : decode cX5_freshness 26 = .ok (.dconst 0, 1) := by decide +kernel
theorem dX5_freshness_27 : decode cX5_freshness 27 = .ok (.dreturn, 1) := by decide +kernel
theorem dX5_ifCircle_0 : decode cX5_ifCircle 0 = .ok (.iload_n 1, 1) := by decide +kernel
theorem dX5_ifCircle_1 : decode cX5_ifCircle 1 = .ok (.invokestatic 89, 3) := by decide +kernel
theorem dX5_ifCircle_4 : decode cX5_ifCircle 4 = .ok (.ifCond .eq 18, 3) := by decide +kernel
theorem dX5_ifCircle_7 : decode cX5_ifCircle 7 = .ok (.aload_n 0, 1) := by decide +kernel
theorem dX5_ifCircle_8 : decode cX5_ifCircle 8 = .ok (.getfield 39, 3) := by decide +kernel
theorem dX5_ifCircle_11 : decode cX5_ifCircle 11 = .ok (.aload_n 0, 1) := by decide +kernel
theorem dX5_ifCircle_12 : decode cX5_ifCircle 12 = .ok (.getfield 10, 3) := by decide +kernel
theorem dX5_ifCircle_15 : decode cX5_ifCircle 15 = .ok (.iload_n 1, 1) := by decide +kernel
theorem dX5_ifCircle_16 : decode cX5_ifCircle 16 = .ok (.invokevirtual 188, 3) := by decide +kernel
theorem dX5_ifCircle_19 : decode cX5_ifCircle 19 = .ok (.goto 4, 3) := by decide +kernel
theorem dX5_ifCircle_22 : decode cX5_ifCircle 22 = .ok (.iconst (-1), 1) := by decide +kernel
theorem dX5_ifCircle_23 : decode cX5_ifCircle 23 = .ok (.ireturn, 1) := by decide +kernel
theorem dX5_ifDays_0 : decode cX5_ifDays 0 = .ok (.iload_n 1, 1) := by decide +kernel
theorem dX5_ifDays_1 : decode cX5_ifDays 1 = .ok (.iconst 1, 1) := by decide +kernel
theorem dX5_ifDays_2 : decode cX5_ifDays 2 = .ok (.if_icmp .lt 18, 3) := by decide +kernel
theorem dX5_ifDays_5 : decode cX5_ifDays 5 = .ok (.iload_n 1, 1) := by decide +kernel
theorem dX5_ifDays_6 : decode cX5_ifDays 6 = .ok (.bipush 20, 2) := by decide +kernel
theorem dX5_ifDays_8 : decode cX5_ifDays 8 = .ok (.if_icmp .gt 12, 3) := by decide +kernel
theorem dX5_ifDays_11 : decode cX5_ifDays 11 = .ok (.iload_n 2, 1) := by decide +kernel
theorem dX5_ifDays_12 : decode cX5_ifDays 12 = .ok (.ifCond .lt 8, 3) := by decide +kernel
theorem dX5_ifDays_15 : decode cX5_ifDays 15 = .ok (.iload_n 2, 1) := by decide +kernel
theorem dX5_ifDays_16 : decode cX5_ifDays 16 = .ok (.iconst 2, 1) := by decide +kernel
theorem dX5_ifDays_17 : decode cX5_ifDays 17 = .ok (.if_icmp .le 5, 3) := by decide +kernel
theorem dX5_ifDays_20 : decode cX5_ifDays 20 = .ok (.iconst (-1), 1) := by decide +kernel
theorem dX5_ifDays_21 : decode cX5_ifDays 21 = .ok (.ireturn, 1) := by decide +kernel
theorem dX5_ifDays_22 : decode cX5_ifDays 22 = .ok (.aload_n 0, 1) := by decide +kernel
theorem dX5_ifDays_23 : decode cX5_ifDays 23 = .ok (.getfield 16, 3) := by decide +kernel
theorem dX5_ifDays_26 : decode cX5_ifDays 26 = .ok (.aload_n 0, 1) := by decide +kernel
theorem dX5_ifDays_27 : decode cX5_ifDays 27 = .ok (.getfield 10, 3) := by decide +kernel
theorem dX5_ifDays_30 : decode cX5_ifDays 30 = .ok (.invokevirtual 243, 3) := by decide +kernel
theorem dX5_ifDays_33 : decode cX5_ifDays 33 = .ok (.iconst 0, 1) := by decide +kernel
theorem dX5_ifDays_34 : decode cX5_ifDays 34 = .ok (.istore_n 3, 1) := by decide +kernel
theorem dX5_ifDays_35 : decode cX5_ifDays 35 = .ok (.iload_n 3, 1) := by decide +kernel
theorem dX5_ifDays_36 : decode cX5_ifDays 36 = .ok (.iload_n 1, 1) := by decide +kernel
theorem dX5_ifDays_37 : decode cX5_ifDays 37 = .ok (.if_icmp .ge 26, 3) := by decide +kernel
theorem dX5_ifDays_40 : decode cX5_ifDays 40 = .ok (.aload_n 0, 1) := by decide +kernel
theorem dX5_ifDays_41 : decode cX5_ifDays 41 = .ok (.aload_n 0, 1) := by decide +kernel
theorem dX5_ifDays_42 : decode cX5_ifDays 42 = .ok (.getfield 16, 3) := by decide +kernel
theorem dX5_ifDays_45 : decode cX5_ifDays 45 = .ok (.invokevirtual 106, 3) := by decide +kernel
theorem dX5_ifDays_48 : decode cX5_ifDays 48 = .ok (.pop, 1) := by decide +kernel
theorem dX5_ifDays_49 : decode cX5_ifDays 49 = .ok (.aload_n 0, 1) := by decide +kernel
theorem dX5_ifDays_50 : decode cX5_ifDays 50 = .ok (.getfield 16, 3) := by decide +kernel
theorem dX5_ifDays_53 : decode cX5_ifDays 53 = .ok (.invokevirtual 110, 3) := by decide +kernel
theorem dX5_ifDays_56 : decode cX5_ifDays 56 = .ok (.pop, 1) := by decide +kernel
theorem dX5_ifDays_57 : decode cX5_ifDays 57 = .ok (.iinc 3 1, 3) := by decide +kernel
theorem dX5_ifDays_60 : decode cX5_ifDays 60 = .ok (.goto (-25), 3) := by decide +kernel
theorem dX5_ifDays_63 : decode cX5_ifDays 63 = .ok (.iload_n 2, 1) := by decide +kernel
theorem dX5_ifDays_64 : decode cX5_ifDays 64 = .ok (.lookupswitch 60 #[(0, 28), (1, 44)], 28) := by decide +kernel
theorem dX5_ifDays_92 : decode cX5_ifDays 92 = .ok (.aload_n 0, 1) := by decide +kernel
theorem dX5_ifDays_93 : decode cX5_ifDays 93 = .ok (.getfield 16, 3) := by decide +kernel
theorem dX5_ifDays_96 : decode cX5_ifDays 96 = .ok (.invokevirtual 141, 3) := by decide +kernel
theorem dX5_ifDays_99 : decode cX5_ifDays 99 = .ok (.aload_n 0, 1) := by decide +kernel
theorem dX5_ifDays_100 : decode cX5_ifDays 100 = .ok (.getfield 10, 3) := by decide +kernel
theorem dX5_ifDays_103 : decode cX5_ifDays 103 = .ok (.invokevirtual 141, 3) := by decide +kernel
theorem dX5_ifDays_106 : decode cX5_ifDays 106 = .ok (.isub, 1) := by decide +kernel
theorem dX5_ifDays_107 : decode cX5_ifDays 107 = .ok (.ireturn, 1) := by decide +kernel
theorem dX5_ifDays_108 : decode cX5_ifDays 108 = .ok (.aload_n 0, 1) := by decide +kernel
theorem dX5_ifDays_109 : decode cX5_ifDays 109 = .ok (.getfield 16, 3) := by decide +kernel
theorem dX5_ifDays_112 : decode cX5_ifDays 112 = .ok (.getfield 222, 3) := by decide +kernel
theorem dX5_ifDays_115 : decode cX5_ifDays 115 = .ok (.aload_n 0, 1) := by decide +kernel
theorem dX5_ifDays_116 : decode cX5_ifDays 116 = .ok (.getfield 10, 3) := by decide +kernel
theorem dX5_ifDays_119 : decode cX5_ifDays 119 = .ok (.getfield 222, 3) := by decide +kernel
theorem dX5_ifDays_122 : decode cX5_ifDays 122 = .ok (.isub, 1) := by decide +kernel
theorem dX5_ifDays_123 : decode cX5_ifDays 123 = .ok (.ireturn, 1) := by decide +kernel
theorem dX5_ifDays_124 : decode cX5_ifDays 124 = .ok (.aload_n 0, 1) := by decide +kernel
theorem dX5_ifDays_125 : decode cX5_ifDays 125 = .ok (.getfield 16, 3) := by decide +kernel
theorem dX5_ifDays_128 : decode cX5_ifDays 128 = .ok (.invokevirtual 213, 3) := by decide +kernel
theorem dX5_ifDays_131 : decode cX5_ifDays 131 = .ok (.ireturn, 1) := by decide +kernel
theorem dX5_bestWant_0 : decode cX5_bestWant 0 = .ok (.aload_n 0, 1) := by decide +kernel
theorem dX5_bestWant_1 : decode cX5_bestWant 1 = .ok (.getfield 10, 3) := by decide +kernel
theorem dX5_bestWant_4 : decode cX5_bestWant 4 = .ok (.iload_n 1, 1) := by decide +kernel
theorem dX5_bestWant_5 : decode cX5_bestWant 5 = .ok (.invokevirtual 72, 3) := by decide +kernel
theorem dX5_bestWant_8 : decode cX5_bestWant 8 = .ok (.ifCond .ne 5, 3) := by decide +kernel
theorem dX5_bestWant_11 : decode cX5_bestWant 11 = .ok (.iconst (-1), 1) := by decide +kernel
theorem dX5_bestWant_12 : decode cX5_bestWant 12 = .ok (.ireturn, 1) := by decide +kernel
theorem dX5_bestWant_13 : decode cX5_bestWant 13 = .ok (.aload_n 0, 1) := by decide +kernel
theorem dX5_bestWant_14 : decode cX5_bestWant 14 = .ok (.getfield 16, 3) := by decide +kernel
theorem dX5_bestWant_17 : decode cX5_bestWant 17 = .ok (.aload_n 0, 1) := by decide +kernel
theorem dX5_bestWant_18 : decode cX5_bestWant 18 = .ok (.getfield 10, 3) := by decide +kernel
theorem dX5_bestWant_21 : decode cX5_bestWant 21 = .ok (.invokevirtual 243, 3) := by decide +kernel
theorem dX5_bestWant_24 : decode cX5_bestWant 24 = .ok (.aload_n 0, 1) := by decide +kernel
theorem dX5_bestWant_25 : decode cX5_bestWant 25 = .ok (.getfield 10, 3) := by decide +kernel
theorem dX5_bestWant_28 : decode cX5_bestWant 28 = .ok (.getfield 83, 3) := by decide +kernel
theorem dX5_bestWant_31 : decode cX5_bestWant 31 = .ok (.iload_n 1, 1) := by decide +kernel
theorem dX5_bestWant_32 : decode cX5_bestWant 32 = .ok (.iaload, 1) := by decide +kernel
theorem dX5_bestWant_33 : decode cX5_bestWant 33 = .ok (.istore_n 2, 1) := by decide +kernel
theorem dX5_bestWant_34 : decode cX5_bestWant 34 = .ok (.bipush (-4), 2) := by decide +kernel
theorem dX5_bestWant_36 : decode cX5_bestWant 36 = .ok (.istore_n 3, 1) := by decide +kernel
theorem dX5_bestWant_37 : decode cX5_bestWant 37 = .ok (.iconst (-1), 1) := by decide +kernel
theorem dX5_bestWant_38 : decode cX5_bestWant 38 = .ok (.istore 4, 2) := by decide +kernel
theorem dX5_bestWant_40 : decode cX5_bestWant 40 = .ok (.iconst 0, 1) := by decide +kernel
theorem dX5_bestWant_41 : decode cX5_bestWant 41 = .ok (.istore 5, 2) := by decide +kernel
theorem dX5_bestWant_43 : decode cX5_bestWant 43 = .ok (.iload 5, 2) := by decide +kernel
theorem dX5_bestWant_45 : decode cX5_bestWant 45 = .ok (.bipush 6, 2) := by decide +kernel
theorem dX5_bestWant_47 : decode cX5_bestWant 47 = .ok (.if_icmp .ge 67, 3) := by decide +kernel
theorem dX5_bestWant_50 : decode cX5_bestWant 50 = .ok (.iload_n 2, 1) := by decide +kernel
theorem dX5_bestWant_51 : decode cX5_bestWant 51 = .ok (.iload 5, 2) := by decide +kernel
theorem dX5_bestWant_53 : decode cX5_bestWant 53 = .ok (.invokestatic 246, 3) := by decide +kernel
theorem dX5_bestWant_56 : decode cX5_bestWant 56 = .ok (.ifCond .ne 52, 3) := by decide +kernel
theorem dX5_bestWant_59 : decode cX5_bestWant 59 = .ok (.aload_n 0, 1) := by decide +kernel
theorem dX5_bestWant_60 : decode cX5_bestWant 60 = .ok (.getfield 16, 3) := by decide +kernel
theorem dX5_bestWant_63 : decode cX5_bestWant 63 = .ok (.getfield 83, 3) := by decide +kernel
theorem dX5_bestWant_66 : decode cX5_bestWant 66 = .ok (.iload_n 1, 1) := by decide +kernel
theorem dX5_bestWant_67 : decode cX5_bestWant 67 = .ok (.iload_n 2, 1) := by decide +kernel
theorem dX5_bestWant_68 : decode cX5_bestWant 68 = .ok (.iload 5, 2) := by decide +kernel
theorem dX5_bestWant_70 : decode cX5_bestWant 70 = .ok (.invokestatic 249, 3) := by decide +kernel
theorem dX5_bestWant_73 : decode cX5_bestWant 73 = .ok (.iastore, 1) := by decide +kernel
theorem dX5_bestWant_74 : decode cX5_bestWant 74 = .ok (.aload_n 0, 1) := by decide +kernel
theorem dX5_bestWant_75 : decode cX5_bestWant 75 = .ok (.getfield 39, 3) := by decide +kernel
theorem dX5_bestWant_78 : decode cX5_bestWant 78 = .ok (.aload_n 0, 1) := by decide +kernel
theorem dX5_bestWant_79 : decode cX5_bestWant 79 = .ok (.getfield 16, 3) := by decide +kernel
theorem dX5_bestWant_82 : decode cX5_bestWant 82 = .ok (.aload_n 0, 1) := by decide +kernel
theorem dX5_bestWant_83 : decode cX5_bestWant 83 = .ok (.getfield 16, 3) := by decide +kernel
theorem dX5_bestWant_86 : decode cX5_bestWant 86 = .ok (.getfield 92, 3) := by decide +kernel
theorem dX5_bestWant_89 : decode cX5_bestWant 89 = .ok (.invokevirtual 188, 3) := by decide +kernel
theorem dX5_bestWant_92 : decode cX5_bestWant 92 = .ok (.istore 6, 2) := by decide +kernel
theorem dX5_bestWant_94 : decode cX5_bestWant 94 = .ok (.iload 6, 2) := by decide +kernel
theorem dX5_bestWant_96 : decode cX5_bestWant 96 = .ok (.iload 4, 2) := by decide +kernel
theorem dX5_bestWant_98 : decode cX5_bestWant 98 = .ok (.if_icmp .le 10, 3) := by decide +kernel
theorem dX5_bestWant_101 : decode cX5_bestWant 101 = .ok (.iload 6, 2) := by decide +kernel
theorem dX5_bestWant_103 : decode cX5_bestWant 103 = .ok (.istore 4, 2) := by decide +kernel
theorem dX5_bestWant_105 : decode cX5_bestWant 105 = .ok (.iload 5, 2) := by decide +kernel
theorem dX5_bestWant_107 : decode cX5_bestWant 107 = .ok (.istore_n 3, 1) := by decide +kernel
theorem dX5_bestWant_108 : decode cX5_bestWant 108 = .ok (.iinc 5 1, 3) := by decide +kernel
theorem dX5_bestWant_111 : decode cX5_bestWant 111 = .ok (.goto (-68), 3) := by decide +kernel
theorem dX5_bestWant_114 : decode cX5_bestWant 114 = .ok (.iload_n 3, 1) := by decide +kernel
theorem dX5_bestWant_115 : decode cX5_bestWant 115 = .ok (.ireturn, 1) := by decide +kernel
theorem dX5_undo_0 : decode cX5_undo 0 = .ok (.aload_n 0, 1) := by decide +kernel
theorem dX5_undo_1 : decode cX5_undo 1 = .ok (.getfield 25, 3) := by decide +kernel
theorem dX5_undo_4 : decode cX5_undo 4 = .ok (.getfield 237, 3) := by decide +kernel
theorem dX5_undo_7 : decode cX5_undo 7 = .ok (.ifCond .gt 6, 3) := by decide +kernel
theorem dX5_undo_10 : decode cX5_undo 10 = .ok (.bipush (-2), 2) := by decide +kernel
theorem dX5_undo_12 : decode cX5_undo 12 = .ok (.ireturn, 1) := by decide +kernel
theorem dX5_undo_13 : decode cX5_undo 13 = .ok (.aload_n 0, 1) := by decide +kernel
theorem dX5_undo_14 : decode cX5_undo 14 = .ok (.getfield 25, 3) := by decide +kernel
theorem dX5_undo_17 : decode cX5_undo 17 = .ok (.aload_n 0, 1) := by decide +kernel
theorem dX5_undo_18 : decode cX5_undo 18 = .ok (.getfield 10, 3) := by decide +kernel
theorem dX5_undo_21 : decode cX5_undo 21 = .ok (.invokevirtual 252, 3) := by decide +kernel
theorem dX5_undo_24 : decode cX5_undo 24 = .ok (.aload_n 0, 1) := by decide +kernel
theorem dX5_undo_25 : decode cX5_undo 25 = .ok (.getfield 25, 3) := by decide +kernel
theorem dX5_undo_28 : decode cX5_undo 28 = .ok (.getfield 237, 3) := by decide +kernel
theorem dX5_undo_31 : decode cX5_undo 31 = .ok (.ireturn, 1) := by decide +kernel
theorem dX5_save_0 : decode cX5_save 0 = .ok (.aload_n 0, 1) := by decide +kernel
theorem dX5_save_1 : decode cX5_save 1 = .ok (.getfield 19, 3) := by decide +kernel
theorem dX5_save_4 : decode cX5_save 4 = .ok (.aload_n 0, 1) := by decide +kernel
theorem dX5_save_5 : decode cX5_save 5 = .ok (.getfield 10, 3) := by decide +kernel
theorem dX5_save_8 : decode cX5_save 8 = .ok (.invokevirtual 243, 3) := by decide +kernel
theorem dX5_save_11 : decode cX5_save 11 = .ok (.aload_n 0, 1) := by decide +kernel
theorem dX5_save_12 : decode cX5_save 12 = .ok (.iconst 1, 1) := by decide +kernel
theorem dX5_save_13 : decode cX5_save 13 = .ok (.putfield 255, 3) := by decide +kernel
theorem dX5_save_16 : decode cX5_save 16 = .ok (.aload_n 0, 1) := by decide +kernel
theorem dX5_save_17 : decode cX5_save 17 = .ok (.getfield 10, 3) := by decide +kernel
theorem dX5_save_20 : decode cX5_save 20 = .ok (.getfield 210, 3) := by decide +kernel
theorem dX5_save_23 : decode cX5_save 23 = .ok (.ireturn, 1) := by decide +kernel
theorem dX5_restore_0 : decode cX5_restore 0 = .ok (.aload_n 0, 1) := by decide +kernel
theorem dX5_restore_1 : decode cX5_restore 1 = .ok (.getfield 255, 3) := by decide +kernel
theorem dX5_restore_4 : decode cX5_restore 4 = .ok (.ifCond .ne 6, 3) := by decide +kernel
theorem dX5_restore_7 : decode cX5_restore 7 = .ok (.bipush (-2), 2) := by decide +kernel
theorem dX5_restore_9 : decode cX5_restore 9 = .ok (.ireturn, 1) := by decide +kernel
theorem dX5_restore_10 : decode cX5_restore 10 = .ok (.aload_n 0, 1) := by decide +kernel
theorem dX5_restore_11 : decode cX5_restore 11 = .ok (.getfield 25, 3) := by decide +kernel
theorem dX5_restore_14 : decode cX5_restore 14 = .ok (.aload_n 0, 1) := by decide +kernel
theorem dX5_restore_15 : decode cX5_restore 15 = .ok (.getfield 10, 3) := by decide +kernel
theorem dX5_restore_18 : decode cX5_restore 18 = .ok (.invokevirtual 64, 3) := by decide +kernel
theorem dX5_restore_21 : decode cX5_restore 21 = .ok (.aload_n 0, 1) := by decide +kernel
theorem dX5_restore_22 : decode cX5_restore 22 = .ok (.getfield 10, 3) := by decide +kernel
theorem dX5_restore_25 : decode cX5_restore 25 = .ok (.aload_n 0, 1) := by decide +kernel
theorem dX5_restore_26 : decode cX5_restore 26 = .ok (.getfield 19, 3) := by decide +kernel
theorem dX5_restore_29 : decode cX5_restore 29 = .ok (.invokevirtual 243, 3) := by decide +kernel
theorem dX5_restore_32 : decode cX5_restore 32 = .ok (.aload_n 0, 1) := by decide +kernel
theorem dX5_restore_33 : decode cX5_restore 33 = .ok (.getfield 10, 3) := by decide +kernel
theorem dX5_restore_36 : decode cX5_restore 36 = .ok (.getfield 210, 3) := by decide +kernel
theorem dX5_restore_39 : decode cX5_restore 39 = .ok (.ireturn, 1) := by decide +kernel
theorem dX5_isKind_0 : decode cX5_isKind 0 = .ok (.iload_n 0, 1) := by decide +kernel
theorem dX5_isKind_1 : decode cX5_isKind 1 = .ok (.ifCond .lt 13, 3) := by decide +kernel
theorem dX5_isKind_4 : decode cX5_isKind 4 = .ok (.iload_n 0, 1) := by decide +kernel
theorem dX5_isKind_5 : decode cX5_isKind 5 = .ok (.bipush 6, 2) := by decide +kernel
theorem dX5_isKind_7 : decode cX5_isKind 7 = .ok (.if_icmp .ge 7, 3) := by decide +kernel
theorem dX5_isKind_10 : decode cX5_isKind 10 = .ok (.iconst 1, 1) := by decide +kernel
theorem dX5_isKind_11 : decode cX5_isKind 11 = .ok (.goto 4, 3) := by decide +kernel
theorem dX5_isKind_14 : decode cX5_isKind 14 = .ok (.iconst 0, 1) := by decide +kernel
theorem dX5_isKind_15 : decode cX5_isKind 15 = .ok (.ireturn, 1) := by decide +kernel
theorem dX5_isSetOfKinds_0 : decode cX5_isSetOfKinds 0 = .ok (.iload_n 0, 1) := by decide +kernel
theorem dX5_isSetOfKinds_1 : decode cX5_isSetOfKinds 1 = .ok (.ifCond .lt 13, 3) := by decide +kernel
theorem dX5_isSetOfKinds_4 : decode cX5_isSetOfKinds 4 = .ok (.iload_n 0, 1) := by decide +kernel
theorem dX5_isSetOfKinds_5 : decode cX5_isSetOfKinds 5 = .ok (.bipush 63, 2) := by decide +kernel
theorem dX5_isSetOfKinds_7 : decode cX5_isSetOfKinds 7 = .ok (.if_icmp .gt 7, 3) := by decide +kernel
theorem dX5_isSetOfKinds_10 : decode cX5_isSetOfKinds 10 = .ok (.iconst 1, 1) := by decide +kernel
theorem dX5_isSetOfKinds_11 : decode cX5_isSetOfKinds 11 = .ok (.goto 4, 3) := by decide +kernel
theorem dX5_isSetOfKinds_14 : decode cX5_isSetOfKinds 14 = .ok (.iconst 0, 1) := by decide +kernel
theorem dX5_isSetOfKinds_15 : decode cX5_isSetOfKinds 15 = .ok (.ireturn, 1) := by decide +kernel
theorem dX5_isCircleLength_0 : decode cX5_isCircleLength 0 = .ok (.iload_n 0, 1) := by decide +kernel
theorem dX5_isCircleLength_1 : decode cX5_isCircleLength 1 = .ok (.iconst 2, 1) := by decide +kernel
theorem dX5_isCircleLength_2 : decode cX5_isCircleLength 2 = .ok (.if_icmp .lt 13, 3) := by decide +kernel
theorem dX5_isCircleLength_5 : decode cX5_isCircleLength 5 = .ok (.iload_n 0, 1) := by decide +kernel
theorem dX5_isCircleLength_6 : decode cX5_isCircleLength 6 = .ok (.bipush 7, 2) := by decide +kernel
theorem dX5_isCircleLength_8 : decode cX5_isCircleLength 8 = .ok (.if_icmp .gt 7, 3) := by decide +kernel
theorem dX5_isCircleLength_11 : decode cX5_isCircleLength 11 = .ok (.iconst 1, 1) := by decide +kernel
theorem dX5_isCircleLength_12 : decode cX5_isCircleLength 12 = .ok (.goto 4, 3) := by decide +kernel
theorem dX5_isCircleLength_15 : decode cX5_isCircleLength 15 = .ok (.iconst 0, 1) := by decide +kernel
theorem dX5_isCircleLength_16 : decode cX5_isCircleLength 16 = .ok (.ireturn, 1) := by decide +kernel
theorem dX5_holds_0 : decode cX5_holds 0 = .ok (.iload_n 0, 1) := by decide +kernel
theorem dX5_holds_1 : decode cX5_holds 1 = .ok (.iload_n 1, 1) := by decide +kernel
theorem dX5_holds_2 : decode cX5_holds 2 = .ok (.ishr, 1) := by decide +kernel
theorem dX5_holds_3 : decode cX5_holds 3 = .ok (.iconst 1, 1) := by decide +kernel
theorem dX5_holds_4 : decode cX5_holds 4 = .ok (.iand, 1) := by decide +kernel
theorem dX5_holds_5 : decode cX5_holds 5 = .ok (.ifCond .eq 7, 3) := by decide +kernel
theorem dX5_holds_8 : decode cX5_holds 8 = .ok (.iconst 1, 1) := by decide +kernel
theorem dX5_holds_9 : decode cX5_holds 9 = .ok (.goto 4, 3) := by decide +kernel
theorem dX5_holds_12 : decode cX5_holds 12 = .ok (.iconst 0, 1) := by decide +kernel
theorem dX5_holds_13 : decode cX5_holds 13 = .ok (.ireturn, 1) := by decide +kernel
theorem dX5_with_0 : decode cX5_with 0 = .ok (.iload_n 0, 1) := by decide +kernel
theorem dX5_with_1 : decode cX5_with 1 = .ok (.iconst 1, 1) := by decide +kernel
theorem dX5_with_2 : decode cX5_with 2 = .ok (.iload_n 1, 1) := by decide +kernel
theorem dX5_with_3 : decode cX5_with 3 = .ok (.ishl, 1) := by decide +kernel
theorem dX5_with_4 : decode cX5_with 4 = .ok (.ior, 1) := by decide +kernel
theorem dX5_with_5 : decode cX5_with 5 = .ok (.ireturn, 1) := by decide +kernel
theorem dX5_callMarket_0 : decode cX5_callMarket 0 = .ok (.aload_n 0, 1) := by decide +kernel
theorem dX5_callMarket_1 : decode cX5_callMarket 1 = .ok (.getfield 46, 3) := by decide +kernel
theorem dX5_callMarket_4 : decode cX5_callMarket 4 = .ok (.aload_n 1, 1) := by decide +kernel
theorem dX5_callMarket_5 : decode cX5_callMarket 5 = .ok (.invokevirtual 192, 3) := by decide +kernel
theorem dX5_callMarket_8 : decode cX5_callMarket 8 = .ok (.istore_n 2, 1) := by decide +kernel
theorem dX5_callMarket_9 : decode cX5_callMarket 9 = .ok (.aload_n 1, 1) := by decide +kernel
theorem dX5_callMarket_10 : decode cX5_callMarket 10 = .ok (.aload_n 0, 1) := by decide +kernel
theorem dX5_callMarket_11 : decode cX5_callMarket 11 = .ok (.getfield 46, 3) := by decide +kernel
theorem dX5_callMarket_14 : decode cX5_callMarket 14 = .ok (.getfield 259, 3) := by decide +kernel
theorem dX5_callMarket_17 : decode cX5_callMarket 17 = .ok (.invokevirtual 262, 3) := by decide +kernel
theorem dX5_callMarket_20 : decode cX5_callMarket 20 = .ok (.aload_n 1, 1) := by decide +kernel
theorem dX5_callMarket_21 : decode cX5_callMarket 21 = .ok (.dup, 1) := by decide +kernel
theorem dX5_callMarket_22 : decode cX5_callMarket 22 = .ok (.getfield 228, 3) := by decide +kernel
theorem dX5_callMarket_25 : decode cX5_callMarket 25 = .ok (.iconst 1, 1) := by decide +kernel
theorem dX5_callMarket_26 : decode cX5_callMarket 26 = .ok (.iadd, 1) := by decide +kernel
theorem dX5_callMarket_27 : decode cX5_callMarket 27 = .ok (.putfield 228, 3) := by decide +kernel
theorem dX5_callMarket_30 : decode cX5_callMarket 30 = .ok (.iload_n 2, 1) := by decide +kernel
theorem dX5_callMarket_31 : decode cX5_callMarket 31 = .ok (.ireturn, 1) := by decide +kernel
theorem dX5_bestGiver_0 : decode cX5_bestGiver 0 = .ok (.aload_n 0, 1) := by decide +kernel
theorem dX5_bestGiver_1 : decode cX5_bestGiver 1 = .ok (.getfield 46, 3) := by decide +kernel
theorem dX5_bestGiver_4 : decode cX5_bestGiver 4 = .ok (.aload_n 0, 1) := by decide +kernel
theorem dX5_bestGiver_5 : decode cX5_bestGiver 5 = .ok (.getfield 10, 3) := by decide +kernel
theorem dX5_bestGiver_8 : decode cX5_bestGiver 8 = .ok (.invokevirtual 192, 3) := by decide +kernel
theorem dX5_bestGiver_11 : decode cX5_bestGiver 11 = .ok (.pop, 1) := by decide +kernel
theorem dX5_bestGiver_12 : decode cX5_bestGiver 12 = .ok (.aload_n 0, 1) := by decide +kernel
theorem dX5_bestGiver_13 : decode cX5_bestGiver 13 = .ok (.getfield 46, 3) := by decide +kernel
theorem dX5_bestGiver_16 : decode cX5_bestGiver 16 = .ok (.getfield 259, 3) := by decide +kernel
theorem dX5_bestGiver_19 : decode cX5_bestGiver 19 = .ok (.iload_n 1, 1) := by decide +kernel
theorem dX5_bestGiver_20 : decode cX5_bestGiver 20 = .ok (.iaload, 1) := by decide +kernel
theorem dX5_bestGiver_21 : decode cX5_bestGiver 21 = .ok (.istore_n 2, 1) := by decide +kernel
theorem dX5_bestGiver_22 : decode cX5_bestGiver 22 = .ok (.iload_n 2, 1) := by decide +kernel
theorem dX5_bestGiver_23 : decode cX5_bestGiver 23 = .ok (.iconst (-1), 1) := by decide +kernel
theorem dX5_bestGiver_24 : decode cX5_bestGiver 24 = .ok (.if_icmp .ne 8, 3) := by decide +kernel
theorem dX5_bestGiver_27 : decode cX5_bestGiver 27 = .ok (.bipush (-4), 2) := by decide +kernel
theorem dX5_bestGiver_29 : decode cX5_bestGiver 29 = .ok (.goto 4, 3) := by decide +kernel
theorem dX5_bestGiver_32 : decode cX5_bestGiver 32 = .ok (.iload_n 2, 1) := by decide +kernel
theorem dX5_bestGiver_33 : decode cX5_bestGiver 33 = .ok (.ireturn, 1) := by decide +kernel
theorem dX5_doDaysOfPad_0 : decode cX5_doDaysOfPad 0 = .ok (.aload_n 0, 1) := by decide +kernel
theorem dX5_doDaysOfPad_1 : decode cX5_doDaysOfPad 1 = .ok (.iconst (-1), 1) := by decide +kernel
theorem dX5_doDaysOfPad_2 : decode cX5_doDaysOfPad 2 = .ok (.putfield 50, 3) := by decide +kernel
theorem dX5_doDaysOfPad_5 : decode cX5_doDaysOfPad 5 = .ok (.iconst 0, 1) := by decide +kernel
theorem dX5_doDaysOfPad_6 : decode cX5_doDaysOfPad 6 = .ok (.istore_n 1, 1) := by decide +kernel
theorem dX5_doDaysOfPad_7 : decode cX5_doDaysOfPad 7 = .ok (.iload_n 1, 1) := by decide +kernel
theorem dX5_doDaysOfPad_8 : decode cX5_doDaysOfPad 8 = .ok (.aload_n 0, 1) := by decide +kernel
theorem dX5_doDaysOfPad_9 : decode cX5_doDaysOfPad 9 = .ok (.getfield 32, 3) := by decide +kernel
theorem dX5_doDaysOfPad_12 : decode cX5_doDaysOfPad 12 = .ok (.getfield 114, 3) := by decide +kernel
theorem dX5_doDaysOfPad_15 : decode cX5_doDaysOfPad 15 = .ok (.if_icmp .ge 72, 3) := by decide +kernel
theorem dX5_doDaysOfPad_18 : decode cX5_doDaysOfPad 18 = .ok (.aload_n 0, 1) := by decide +kernel
theorem dX5_doDaysOfPad_19 : decode cX5_doDaysOfPad 19 = .ok (.getfield 50, 3) := by decide +kernel
theorem dX5_doDaysOfPad_22 : decode cX5_doDaysOfPad 22 = .ok (.iconst (-1), 1) := by decide +kernel
theorem dX5_doDaysOfPad_23 : decode cX5_doDaysOfPad 23 = .ok (.if_icmp .ne 64, 3) := by decide +kernel
theorem dX5_doDaysOfPad_26 : decode cX5_doDaysOfPad 26 = .ok (.aload_n 0, 1) := by decide +kernel
theorem dX5_doDaysOfPad_27 : decode cX5_doDaysOfPad 27 = .ok (.getfield 32, 3) := by decide +kernel
theorem dX5_doDaysOfPad_30 : decode cX5_doDaysOfPad 30 = .ok (.iload_n 1, 1) := by decide +kernel
theorem dX5_doDaysOfPad_31 : decode cX5_doDaysOfPad 31 = .ok (.invokevirtual 130, 3) := by decide +kernel
theorem dX5_doDaysOfPad_34 : decode cX5_doDaysOfPad 34 = .ok (.istore_n 2, 1) := by decide +kernel
theorem dX5_doDaysOfPad_35 : decode cX5_doDaysOfPad 35 = .ok (.iload_n 2, 1) := by decide +kernel
theorem dX5_doDaysOfPad_36 : decode cX5_doDaysOfPad 36 = .ok (.bipush 99, 2) := by decide +kernel
theorem dX5_doDaysOfPad_38 : decode cX5_doDaysOfPad 38 = .ok (.if_icmp .ne 15, 3) := by decide +kernel
theorem dX5_doDaysOfPad_41 : decode cX5_doDaysOfPad 41 = .ok (.aload_n 0, 1) := by decide +kernel
theorem dX5_doDaysOfPad_42 : decode cX5_doDaysOfPad 42 = .ok (.aload_n 0, 1) := by decide +kernel
theorem dX5_doDaysOfPad_43 : decode cX5_doDaysOfPad 43 = .ok (.getfield 10, 3) := by decide +kernel
theorem dX5_doDaysOfPad_46 : decode cX5_doDaysOfPad 46 = .ok (.invokevirtual 106, 3) := by decide +kernel
theorem dX5_doDaysOfPad_49 : decode cX5_doDaysOfPad 49 = .ok (.pop, 1) := by decide +kernel
theorem dX5_doDaysOfPad_50 : decode cX5_doDaysOfPad 50 = .ok (.goto 31, 3) := by decide +kernel
theorem dX5_doDaysOfPad_53 : decode cX5_doDaysOfPad 53 = .ok (.iload_n 2, 1) := by decide +kernel
theorem dX5_doDaysOfPad_54 : decode cX5_doDaysOfPad 54 = .ok (.bipush 100, 2) := by decide +kernel
theorem dX5_doDaysOfPad_56 : decode cX5_doDaysOfPad 56 = .ok (.if_icmp .ne 14, 3) := by decide +kernel
theorem dX5_doDaysOfPad_59 : decode cX5_doDaysOfPad 59 = .ok (.aload_n 0, 1) := by decide +kernel
theorem dX5_doDaysOfPad_60 : decode cX5_doDaysOfPad 60 = .ok (.getfield 10, 3) := by decide +kernel
theorem dX5_doDaysOfPad_63 : decode cX5_doDaysOfPad 63 = .ok (.invokevirtual 110, 3) := by decide +kernel
theorem dX5_doDaysOfPad_66 : decode cX5_doDaysOfPad 66 = .ok (.pop, 1) := by decide +kernel
theorem dX5_doDaysOfPad_67 : decode cX5_doDaysOfPad 67 = .ok (.goto 14, 3) := by decide +kernel
theorem dX5_doDaysOfPad_70 : decode cX5_doDaysOfPad 70 = .ok (.iload_n 2, 1) := by decide +kernel
theorem dX5_doDaysOfPad_71 : decode cX5_doDaysOfPad 71 = .ok (.bipush 120, 2) := by decide +kernel
theorem dX5_doDaysOfPad_73 : decode cX5_doDaysOfPad 73 = .ok (.if_icmp .ne 8, 3) := by decide +kernel
theorem dX5_doDaysOfPad_76 : decode cX5_doDaysOfPad 76 = .ok (.aload_n 0, 1) := by decide +kernel
theorem dX5_doDaysOfPad_77 : decode cX5_doDaysOfPad 77 = .ok (.iload_n 1, 1) := by decide +kernel
theorem dX5_doDaysOfPad_78 : decode cX5_doDaysOfPad 78 = .ok (.invokevirtual 266, 3) := by decide +kernel
theorem dX5_doDaysOfPad_81 : decode cX5_doDaysOfPad 81 = .ok (.iinc 1 1, 3) := by decide +kernel
theorem dX5_doDaysOfPad_84 : decode cX5_doDaysOfPad 84 = .ok (.goto (-77), 3) := by decide +kernel
theorem dX5_doDaysOfPad_87 : decode cX5_doDaysOfPad 87 = .ok (.return_, 1) := by decide +kernel
theorem dX5_doBarterOfPad_0 : decode cX5_doBarterOfPad 0 = .ok (.aload_n 0, 1) := by decide +kernel
theorem dX5_doBarterOfPad_1 : decode cX5_doBarterOfPad 1 = .ok (.getfield 32, 3) := by decide +kernel
theorem dX5_doBarterOfPad_4 : decode cX5_doBarterOfPad 4 = .ok (.iload_n 1, 1) := by decide +kernel
theorem dX5_doBarterOfPad_5 : decode cX5_doBarterOfPad 5 = .ok (.iconst 1, 1) := by decide +kernel
theorem dX5_doBarterOfPad_6 : decode cX5_doBarterOfPad 6 = .ok (.iadd, 1) := by decide +kernel
theorem dX5_doBarterOfPad_7 : decode cX5_doBarterOfPad 7 = .ok (.invokevirtual 134, 3) := by decide +kernel
theorem dX5_doBarterOfPad_10 : decode cX5_doBarterOfPad 10 = .ok (.istore_n 2, 1) := by decide +kernel
theorem dX5_doBarterOfPad_11 : decode cX5_doBarterOfPad 11 = .ok (.aload_n 0, 1) := by decide +kernel
theorem dX5_doBarterOfPad_12 : decode cX5_doBarterOfPad 12 = .ok (.getfield 32, 3) := by decide +kernel
theorem dX5_doBarterOfPad_15 : decode cX5_doBarterOfPad 15 = .ok (.iload_n 1, 1) := by decide +kernel
theorem dX5_doBarterOfPad_16 : decode cX5_doBarterOfPad 16 = .ok (.iconst 2, 1) := by decide +kernel
theorem dX5_doBarterOfPad_17 : decode cX5_doBarterOfPad 17 = .ok (.iadd, 1) := by decide +kernel
theorem dX5_doBarterOfPad_18 : decode cX5_doBarterOfPad 18 = .ok (.invokevirtual 134, 3) := by decide +kernel
theorem dX5_doBarterOfPad_21 : decode cX5_doBarterOfPad 21 = .ok (.istore_n 3, 1) := by decide +kernel
theorem dX5_doBarterOfPad_22 : decode cX5_doBarterOfPad 22 = .ok (.aload_n 0, 1) := by decide +kernel
theorem dX5_doBarterOfPad_23 : decode cX5_doBarterOfPad 23 = .ok (.getfield 10, 3) := by decide +kernel
theorem dX5_doBarterOfPad_26 : decode cX5_doBarterOfPad 26 = .ok (.iload_n 2, 1) := by decide +kernel
theorem dX5_doBarterOfPad_27 : decode cX5_doBarterOfPad 27 = .ok (.iload_n 3, 1) := by decide +kernel
theorem dX5_doBarterOfPad_28 : decode cX5_doBarterOfPad 28 = .ok (.invokevirtual 98, 3) := by decide +kernel
theorem dX5_doBarterOfPad_31 : decode cX5_doBarterOfPad 31 = .ok (.ifCond .eq 15, 3) := by decide +kernel
theorem dX5_doBarterOfPad_34 : decode cX5_doBarterOfPad 34 = .ok (.aload_n 0, 1) := by decide +kernel
theorem dX5_doBarterOfPad_35 : decode cX5_doBarterOfPad 35 = .ok (.getfield 10, 3) := by decide +kernel
theorem dX5_doBarterOfPad_38 : decode cX5_doBarterOfPad 38 = .ok (.iload_n 2, 1) := by decide +kernel
theorem dX5_doBarterOfPad_39 : decode cX5_doBarterOfPad 39 = .ok (.iload_n 3, 1) := by decide +kernel
theorem dX5_doBarterOfPad_40 : decode cX5_doBarterOfPad 40 = .ok (.invokevirtual 102, 3) := by decide +kernel
theorem dX5_doBarterOfPad_43 : decode cX5_doBarterOfPad 43 = .ok (.goto 4, 3) := by decide +kernel
theorem dX5_doBarterOfPad_46 : decode cX5_doBarterOfPad 46 = .ok (.iconst (-1), 1) := by decide +kernel
theorem dX5_doBarterOfPad_47 : decode cX5_doBarterOfPad 47 = .ok (.istore 4, 2) := by decide +kernel
theorem dX5_doBarterOfPad_49 : decode cX5_doBarterOfPad 49 = .ok (.iload 4, 2) := by decide +kernel
theorem dX5_doBarterOfPad_51 : decode cX5_doBarterOfPad 51 = .ok (.bipush 10, 2) := by decide +kernel
theorem dX5_doBarterOfPad_53 : decode cX5_doBarterOfPad 53 = .ok (.if_icmp .eq 14, 3) := by decide +kernel
theorem dX5_doBarterOfPad_56 : decode cX5_doBarterOfPad 56 = .ok (.aload_n 0, 1) := by decide +kernel
theorem dX5_doBarterOfPad_57 : decode cX5_doBarterOfPad 57 = .ok (.iload 4, 2) := by decide +kernel
theorem dX5_doBarterOfPad_59 : decode cX5_doBarterOfPad 59 = .ok (.putfield 147, 3) := by decide +kernel
theorem dX5_doBarterOfPad_62 : decode cX5_doBarterOfPad 62 = .ok (.aload_n 0, 1) := by decide +kernel
theorem dX5_doBarterOfPad_63 : decode cX5_doBarterOfPad 63 = .ok (.iload_n 1, 1) := by decide +kernel
theorem dX5_doBarterOfPad_64 : decode cX5_doBarterOfPad 64 = .ok (.putfield 50, 3) := by decide +kernel
theorem dX5_doBarterOfPad_67 : decode cX5_doBarterOfPad 67 = .ok (.return_, 1) := by decide +kernel
theorem dX6_init_0 : decode cX6_init 0 = .ok (.aload_n 0, 1) := by decide +kernel
theorem dX6_init_1 : decode cX6_init 1 = .ok (.invokespecial 1, 3) := by decide +kernel
theorem dX6_init_4 : decode cX6_init 4 = .ok (.aload_n 0, 1) := by decide +kernel
theorem dX6_init_5 : decode cX6_init 5 = .ok (.bipush 57, 2) := by decide +kernel
theorem dX6_init_7 : decode cX6_init 7 = .ok (.newarray .int, 2) := by decide +kernel
theorem dX6_init_9 : decode cX6_init 9 = .ok (.putfield 7, 3) := by decide +kernel
theorem dX6_init_12 : decode cX6_init 12 = .ok (.aload_n 0, 1) := by decide +kernel
theorem dX6_init_13 : decode cX6_init 13 = .ok (.bipush 57, 2) := by decide +kernel
theorem dX6_init_15 : decode cX6_init 15 = .ok (.newarray .int, 2) := by decide +kernel
theorem dX6_init_17 : decode cX6_init 17 = .ok (.putfield 13, 3) := by decide +kernel
theorem dX6_init_20 : decode cX6_init 20 = .ok (.aload_n 0, 1) := by decide +kernel
theorem dX6_init_21 : decode cX6_init 21 = .ok (.sipush 228, 3) := by decide +kernel
theorem dX6_init_24 : decode cX6_init 24 = .ok (.newarray .int, 2) := by decide +kernel
theorem dX6_init_26 : decode cX6_init 26 = .ok (.putfield 16, 3) := by decide +kernel
theorem dX6_init_29 : decode cX6_init 29 = .ok (.aload_n 0, 1) := by decide +kernel
theorem dX6_init_30 : decode cX6_init 30 = .ok (.bipush 57, 2) := by decide +kernel
theorem dX6_init_32 : decode cX6_init 32 = .ok (.newarray .int, 2) := by decide +kernel
theorem dX6_init_34 : decode cX6_init 34 = .ok (.putfield 19, 3) := by decide +kernel
theorem dX6_init_37 : decode cX6_init 37 = .ok (.aload_n 0, 1) := by decide +kernel
theorem dX6_init_38 : decode cX6_init 38 = .ok (.bipush 60, 2) := by decide +kernel
theorem dX6_init_40 : decode cX6_init 40 = .ok (.newarray .int, 2) := by decide +kernel
theorem dX6_init_42 : decode cX6_init 42 = .ok (.putfield 22, 3) := by decide +kernel
theorem dX6_init_45 : decode cX6_init 45 = .ok (.aload_n 0, 1) := by decide +kernel
theorem dX6_init_46 : decode cX6_init 46 = .ok (.bipush (-4), 2) := by decide +kernel
theorem dX6_init_48 : decode cX6_init 48 = .ok (.putfield 25, 3) := by decide +kernel
theorem dX6_init_51 : decode cX6_init 51 = .ok (.aload_n 0, 1) := by decide +kernel
theorem dX6_init_52 : decode cX6_init 52 = .ok (.bipush (-4), 2) := by decide +kernel
theorem dX6_init_54 : decode cX6_init 54 = .ok (.putfield 29, 3) := by decide +kernel
theorem dX6_init_57 : decode cX6_init 57 = .ok (.aload_n 0, 1) := by decide +kernel
theorem dX6_init_58 : decode cX6_init 58 = .ok (.bipush 7, 2) := by decide +kernel
theorem dX6_init_60 : decode cX6_init 60 = .ok (.newarray .int, 2) := by decide +kernel
theorem dX6_init_62 : decode cX6_init 62 = .ok (.putfield 32, 3) := by decide +kernel
theorem dX6_init_65 : decode cX6_init 65 = .ok (.aload_n 0, 1) := by decide +kernel
theorem dX6_init_66 : decode cX6_init 66 = .ok (.bipush 7, 2) := by decide +kernel
theorem dX6_init_68 : decode cX6_init 68 = .ok (.newarray .int, 2) := by decide +kernel
theorem dX6_init_70 : decode cX6_init 70 = .ok (.putfield 35, 3) := by decide +kernel
theorem dX6_init_73 : decode cX6_init 73 = .ok (.aload_n 0, 1) := by decide +kernel
theorem dX6_init_74 : decode cX6_init 74 = .ok (.bipush 8, 2) := by decide +kernel
theorem dX6_init_76 : decode cX6_init 76 = .ok (.newarray .int, 2) := by decide +kernel
theorem dX6_init_78 : decode cX6_init 78 = .ok (.putfield 38, 3) := by decide +kernel
theorem dX6_init_81 : decode cX6_init 81 = .ok (.aload_n 0, 1) := by decide +kernel
theorem dX6_init_82 : decode cX6_init 82 = .ok (.bipush 7, 2) := by decide +kernel
theorem dX6_init_84 : decode cX6_init 84 = .ok (.newarray .int, 2) := by decide +kernel
theorem dX6_init_86 : decode cX6_init 86 = .ok (.putfield 41, 3) := by decide +kernel
theorem dX6_init_89 : decode cX6_init 89 = .ok (.aload_n 0, 1) := by decide +kernel
theorem dX6_init_90 : decode cX6_init 90 = .ok (.bipush 7, 2) := by decide +kernel
theorem dX6_init_92 : decode cX6_init 92 = .ok (.newarray .int, 2) := by decide +kernel
theorem dX6_init_94 : decode cX6_init 94 = .ok (.putfield 44, 3) := by decide +kernel
theorem dX6_init_97 : decode cX6_init 97 = .ok (.aload_n 0, 1) := by decide +kernel
theorem dX6_init_98 : decode cX6_init 98 = .ok (.getfield 7, 3) := by decide +kernel
theorem dX6_init_101 : decode cX6_init 101 = .ok (.bipush 7, 2) := by decide +kernel
theorem dX6_init_103 : decode cX6_init 103 = .ok (.bipush 7, 2) := by decide +kernel
theorem dX6_init_105 : decode cX6_init 105 = .ok (.iastore, 1) := by decide +kernel
theorem dX6_init_106 : decode cX6_init 106 = .ok (.aload_n 0, 1) := by decide +kernel
theorem dX6_init_107 : decode cX6_init 107 = .ok (.getfield 7, 3) := by decide +kernel
theorem dX6_init_110 : decode cX6_init 110 = .ok (.bipush 8, 2) := by decide +kernel
theorem dX6_init_112 : decode cX6_init 112 = .ok (.iconst 1, 1) := by decide +kernel
theorem dX6_init_113 : decode cX6_init 113 = .ok (.iastore, 1) := by decide +kernel
theorem dX6_init_114 : decode cX6_init 114 = .ok (.aload_n 0, 1) := by decide +kernel
theorem dX6_init_115 : decode cX6_init 115 = .ok (.getfield 7, 3) := by decide +kernel
theorem dX6_init_118 : decode cX6_init 118 = .ok (.bipush 9, 2) := by decide +kernel
theorem dX6_init_120 : decode cX6_init 120 = .ok (.bipush (-4), 2) := by decide +kernel
theorem dX6_init_122 : decode cX6_init 122 = .ok (.iastore, 1) := by decide +kernel
theorem dX6_init_123 : decode cX6_init 123 = .ok (.iconst 0, 1) := by decide +kernel
theorem dX6_init_124 : decode cX6_init 124 = .ok (.istore_n 1, 1) := by decide +kernel
theorem dX6_init_125 : decode cX6_init 125 = .ok (.iload_n 1, 1) := by decide +kernel
theorem dX6_init_126 : decode cX6_init 126 = .ok (.bipush 6, 2) := by decide +kernel
theorem dX6_init_128 : decode cX6_init 128 = .ok (.if_icmp .ge 20, 3) := by decide +kernel
theorem dX6_init_131 : decode cX6_init 131 = .ok (.aload_n 0, 1) := by decide +kernel
theorem dX6_init_132 : decode cX6_init 132 = .ok (.getfield 7, 3) := by decide +kernel
theorem dX6_init_135 : decode cX6_init 135 = .ok (.iload_n 1, 1) := by decide +kernel
theorem dX6_init_136 : decode cX6_init 136 = .ok (.iconst 0, 1) := by decide +kernel
theorem dX6_init_137 : decode cX6_init 137 = .ok (.invokestatic 47, 3) := by decide +kernel
theorem dX6_init_140 : decode cX6_init 140 = .ok (.iconst 3, 1) := by decide +kernel
theorem dX6_init_141 : decode cX6_init 141 = .ok (.iastore, 1) := by decide +kernel
theorem dX6_init_142 : decode cX6_init 142 = .ok (.iinc 1 1, 3) := by decide +kernel
theorem dX6_init_145 : decode cX6_init 145 = .ok (.goto (-20), 3) := by decide +kernel
theorem dX6_init_148 : decode cX6_init 148 = .ok (.return_, 1) := by decide +kernel
theorem dX6_in_0 : decode cX6_in 0 = .ok (.iload_n 0, 1) := by decide +kernel
theorem dX6_in_1 : decode cX6_in 1 = .ok (.iload_n 1, 1) := by decide +kernel
theorem dX6_in_2 : decode cX6_in 2 = .ok (.if_icmp .lt 12, 3) := by decide +kernel
theorem dX6_in_5 : decode cX6_in 5 = .ok (.iload_n 0, 1) := by decide +kernel
theorem dX6_in_6 : decode cX6_in 6 = .ok (.iload_n 2, 1) := by decide +kernel
theorem dX6_in_7 : decode cX6_in 7 = .ok (.if_icmp .gt 7, 3) := by decide +kernel
theorem dX6_in_10 : decode cX6_in 10 = .ok (.iconst 1, 1) := by decide +kernel
theorem dX6_in_11 : decode cX6_in 11 = .ok (.goto 4, 3) := by decide +kernel
theorem dX6_in_14 : decode cX6_in 14 = .ok (.iconst 0, 1) := by decide +kernel
theorem dX6_in_15 : decode cX6_in 15 = .ok (.ireturn, 1) := by decide +kernel
theorem dX6_isTrader_0 : decode cX6_isTrader 0 = .ok (.iload_n 1, 1) := by decide +kernel
theorem dX6_isTrader_1 : decode cX6_isTrader 1 = .ok (.iconst 0, 1) := by decide +kernel
theorem dX6_isTrader_2 : decode cX6_isTrader 2 = .ok (.aload_n 0, 1) := by decide +kernel
theorem dX6_isTrader_3 : decode cX6_isTrader 3 = .ok (.getfield 7, 3) := by decide +kernel
theorem dX6_isTrader_6 : decode cX6_isTrader 6 = .ok (.iconst 1, 1) := by decide +kernel
theorem dX6_isTrader_7 : decode cX6_isTrader 7 = .ok (.iaload, 1) := by decide +kernel
theorem dX6_isTrader_8 : decode cX6_isTrader 8 = .ok (.iconst 1, 1) := by decide +kernel
theorem dX6_isTrader_9 : decode cX6_isTrader 9 = .ok (.isub, 1) := by decide +kernel
theorem dX6_isTrader_10 : decode cX6_isTrader 10 = .ok (.invokestatic 51, 3) := by decide +kernel
theorem dX6_isTrader_13 : decode cX6_isTrader 13 = .ok (.ireturn, 1) := by decide +kernel
theorem dX6_arePair_0 : decode cX6_arePair 0 = .ok (.aload_n 0, 1) := by decide +kernel
theorem dX6_arePair_1 : decode cX6_arePair 1 = .ok (.iload_n 1, 1) := by decide +kernel
theorem dX6_arePair_2 : decode cX6_arePair 2 = .ok (.invokevirtual 55, 3) := by decide +kernel
theorem dX6_arePair_5 : decode cX6_arePair 5 = .ok (.ifCond .eq 20, 3) := by decide +kernel
theorem dX6_arePair_8 : decode cX6_arePair 8 = .ok (.aload_n 0, 1) := by decide +kernel
theorem dX6_arePair_9 : decode cX6_arePair 9 = .ok (.iload_n 2, 1) := by decide +kernel
theorem dX6_arePair_10 : decode cX6_arePair 10 = .ok (.invokevirtual 55, 3) := by decide +kernel
theorem dX6_arePair_13 : decode cX6_arePair 13 = .ok (.ifCond .eq 12, 3) := by decide +kernel
theorem dX6_arePair_16 : decode cX6_arePair 16 = .ok (.iload_n 1, 1) := by decide +kernel
theorem dX6_arePair_17 : decode cX6_arePair 17 = .ok (.iload_n 2, 1) := by decide +kernel
theorem dX6_arePair_18 : decode cX6_arePair 18 = .ok (.if_icmp .eq 7, 3) := by decide +kernel
theorem dX6_arePair_21 : decode cX6_arePair 21 = .ok (.iconst 1, 1) := by decide +kernel
theorem dX6_arePair_22 : decode cX6_arePair 22 = .ok (.goto 4, 3) := by decide +kernel
theorem dX6_arePair_25 : decode cX6_arePair 25 = .ok (.iconst 0, 1) := by decide +kernel
theorem dX6_arePair_26 : decode cX6_arePair 26 = .ok (.ireturn, 1) := by decide +kernel
theorem dX6_isKind_0 : decode cX6_isKind 0 = .ok (.iload_n 0, 1) := by decide +kernel
theorem dX6_isKind_1 : decode cX6_isKind 1 = .ok (.iconst 0, 1) := by decide +kernel
theorem dX6_isKind_2 : decode cX6_isKind 2 = .ok (.iconst 5, 1) := by decide +kernel
theorem dX6_isKind_3 : decode cX6_isKind 3 = .ok (.invokestatic 51, 3) := by decide +kernel
theorem dX6_isKind_6 : decode cX6_isKind 6 = .ok (.ireturn, 1) := by decide +kernel
theorem dX6_ofKind_0 : decode cX6_ofKind 0 = .ok (.bipush 10, 2) := by decide +kernel
theorem dX6_ofKind_2 : decode cX6_ofKind 2 = .ok (.iconst 2, 1) := by decide +kernel
theorem dX6_ofKind_3 : decode cX6_ofKind 3 = .ok (.iload_n 0, 1) := by decide +kernel
theorem dX6_ofKind_4 : decode cX6_ofKind 4 = .ok (.imul, 1) := by decide +kernel
theorem dX6_ofKind_5 : decode cX6_ofKind 5 = .ok (.iadd, 1) := by decide +kernel
theorem dX6_ofKind_6 : decode cX6_ofKind 6 = .ok (.iload_n 1, 1) := by decide +kernel
theorem dX6_ofKind_7 : decode cX6_ofKind 7 = .ok (.iadd, 1) := by decide +kernel
theorem dX6_ofKind_8 : decode cX6_ofKind 8 = .ok (.ireturn, 1) := by decide +kernel
theorem dX6_at_0 : decode cX6_at 0 = .ok (.bipush 22, 2) := by decide +kernel
theorem dX6_at_2 : decode cX6_at 2 = .ok (.iconst 5, 1) := by decide +kernel
theorem dX6_at_3 : decode cX6_at 3 = .ok (.iload_n 0, 1) := by decide +kernel
theorem dX6_at_4 : decode cX6_at 4 = .ok (.imul, 1) := by decide +kernel
theorem dX6_at_5 : decode cX6_at 5 = .ok (.iadd, 1) := by decide +kernel
theorem dX6_at_6 : decode cX6_at 6 = .ok (.iload_n 1, 1) := by decide +kernel
theorem dX6_at_7 : decode cX6_at 7 = .ok (.iadd, 1) := by decide +kernel
theorem dX6_at_8 : decode cX6_at 8 = .ok (.ireturn, 1) := by decide +kernel
theorem dX6_of_0 : decode cX6_of 0 = .ok (.aload_n 0, 1) := by decide +kernel
theorem dX6_of_1 : decode cX6_of 1 = .ok (.getfield 7, 3) := by decide +kernel
theorem dX6_of_4 : decode cX6_of 4 = .ok (.iload_n 1, 1) := by decide +kernel
theorem dX6_of_5 : decode cX6_of 5 = .ok (.iload_n 2, 1) := by decide +kernel
theorem dX6_of_6 : decode cX6_of 6 = .ok (.invokestatic 59, 3) := by decide +kernel
theorem dX6_of_9 : decode cX6_of 9 = .ok (.iaload, 1) := by decide +kernel
theorem dX6_of_10 : decode cX6_of 10 = .ok (.ireturn, 1) := by decide +kernel
theorem dX6_bits_0 : decode cX6_bits 0 = .ok (.iconst 0, 1) := by decide +kernel
theorem dX6_bits_1 : decode cX6_bits 1 = .ok (.istore_n 1, 1) := by decide +kernel
theorem dX6_bits_2 : decode cX6_bits 2 = .ok (.iconst 0, 1) := by decide +kernel
theorem dX6_bits_3 : decode cX6_bits 3 = .ok (.istore_n 2, 1) := by decide +kernel
theorem dX6_bits_4 : decode cX6_bits 4 = .ok (.iload_n 2, 1) := by decide +kernel
theorem dX6_bits_5 : decode cX6_bits 5 = .ok (.bipush 7, 2) := by decide +kernel
theorem dX6_bits_7 : decode cX6_bits 7 = .ok (.if_icmp .ge 17, 3) := by decide +kernel
theorem dX6_bits_10 : decode cX6_bits 10 = .ok (.iload_n 1, 1) := by decide +kernel
theorem dX6_bits_11 : decode cX6_bits 11 = .ok (.iload_n 0, 1) := by decide +kernel
theorem dX6_bits_12 : decode cX6_bits 12 = .ok (.iload_n 2, 1) := by decide +kernel
theorem dX6_bits_13 : decode cX6_bits 13 = .ok (.ishr, 1) := by decide +kernel
theorem dX6_bits_14 : decode cX6_bits 14 = .ok (.iconst 1, 1) := by decide +kernel
theorem dX6_bits_15 : decode cX6_bits 15 = .ok (.iand, 1) := by decide +kernel
theorem dX6_bits_16 : decode cX6_bits 16 = .ok (.iadd, 1) := by decide +kernel
theorem dX6_bits_17 : decode cX6_bits 17 = .ok (.istore_n 1, 1) := by decide +kernel
theorem dX6_bits_18 : decode cX6_bits 18 = .ok (.iinc 2 1, 3) := by decide +kernel
theorem dX6_bits_21 : decode cX6_bits 21 = .ok (.goto (-17), 3) := by decide +kernel
theorem dX6_bits_24 : decode cX6_bits 24 = .ok (.iload_n 1, 1) := by decide +kernel
theorem dX6_bits_25 : decode cX6_bits 25 = .ok (.ireturn, 1) := by decide +kernel
theorem dX6_record_0 : decode cX6_record 0 = .ok (.aload_n 0, 1) := by decide +kernel
theorem dX6_record_1 : decode cX6_record 1 = .ok (.getfield 62, 3) := by decide +kernel
theorem dX6_record_4 : decode cX6_record 4 = .ok (.iconst 4, 1) := by decide +kernel
theorem dX6_record_5 : decode cX6_record 5 = .ok (.if_icmp .ne 43, 3) := by decide +kernel
theorem dX6_record_8 : decode cX6_record 8 = .ok (.iconst 0, 1) := by decide +kernel
theorem dX6_record_9 : decode cX6_record 9 = .ok (.istore_n 1, 1) := by decide +kernel
theorem dX6_record_10 : decode cX6_record 10 = .ok (.iload_n 1, 1) := by decide +kernel
theorem dX6_record_11 : decode cX6_record 11 = .ok (.sipush 171, 3) := by decide +kernel
theorem dX6_record_14 : decode cX6_record 14 = .ok (.if_icmp .ge 24, 3) := by decide +kernel
theorem dX6_record_17 : decode cX6_record 17 = .ok (.aload_n 0, 1) := by decide +kernel
theorem dX6_record_18 : decode cX6_record 18 = .ok (.getfield 16, 3) := by decide +kernel
theorem dX6_record_21 : decode cX6_record 21 = .ok (.iload_n 1, 1) := by decide +kernel
theorem dX6_record_22 : decode cX6_record 22 = .ok (.aload_n 0, 1) := by decide +kernel
theorem dX6_record_23 : decode cX6_record 23 = .ok (.getfield 16, 3) := by decide +kernel
theorem dX6_record_26 : decode cX6_record 26 = .ok (.iload_n 1, 1) := by decide +kernel
theorem dX6_record_27 : decode cX6_record 27 = .ok (.bipush 57, 2) := by decide +kernel
theorem dX6_record_29 : decode cX6_record 29 = .ok (.iadd, 1) := by decide +kernel
theorem dX6_record_30 : decode cX6_record 30 = .ok (.iaload, 1) := by decide +kernel
theorem dX6_record_31 : decode cX6_record 31 = .ok (.iastore, 1) := by decide +kernel
theorem dX6_record_32 : decode cX6_record 32 = .ok (.iinc 1 1, 3) := by decide +kernel
theorem dX6_record_35 : decode cX6_record 35 = .ok (.goto (-25), 3) := by decide +kernel
theorem dX6_record_38 : decode cX6_record 38 = .ok (.aload_n 0, 1) := by decide +kernel
theorem dX6_record_39 : decode cX6_record 39 = .ok (.dup, 1) := by decide +kernel
theorem dX6_record_40 : decode cX6_record 40 = .ok (.getfield 62, 3) := by decide +kernel
theorem dX6_record_43 : decode cX6_record 43 = .ok (.iconst 1, 1) := by decide +kernel
theorem dX6_record_44 : decode cX6_record 44 = .ok (.isub, 1) := by decide +kernel
theorem dX6_record_45 : decode cX6_record 45 = .ok (.putfield 62, 3) := by decide +kernel
theorem dX6_record_48 : decode cX6_record 48 = .ok (.iconst 0, 1) := by decide +kernel
theorem dX6_record_49 : decode cX6_record 49 = .ok (.istore_n 1, 1) := by decide +kernel
theorem dX6_record_50 : decode cX6_record 50 = .ok (.iload_n 1, 1) := by decide +kernel
theorem dX6_record_51 : decode cX6_record 51 = .ok (.bipush 57, 2) := by decide +kernel
theorem dX6_record_53 : decode cX6_record 53 = .ok (.if_icmp .ge 29, 3) := by decide +kernel
theorem dX6_record_56 : decode cX6_record 56 = .ok (.aload_n 0, 1) := by decide +kernel
theorem dX6_record_57 : decode cX6_record 57 = .ok (.getfield 16, 3) := by decide +kernel
theorem dX6_record_60 : decode cX6_record 60 = .ok (.bipush 57, 2) := by decide +kernel
theorem dX6_record_62 : decode cX6_record 62 = .ok (.aload_n 0, 1) := by decide +kernel
theorem dX6_record_63 : decode cX6_record 63 = .ok (.getfield 62, 3) := by decide +kernel
theorem dX6_record_66 : decode cX6_record 66 = .ok (.imul, 1) := by decide +kernel
theorem dX6_record_67 : decode cX6_record 67 = .ok (.iload_n 1, 1) := by decide +kernel
theorem dX6_record_68 : decode cX6_record 68 = .ok (.iadd, 1) := by decide +kernel
theorem dX6_record_69 : decode cX6_record 69 = .ok (.aload_n 0, 1) := by decide +kernel
theorem dX6_record_70 : decode cX6_record 70 = .ok (.getfield 7, 3) := by decide +kernel
theorem dX6_record_73 : decode cX6_record 73 = .ok (.iload_n 1, 1) := by decide +kernel
theorem dX6_record_74 : decode cX6_record 74 = .ok (.iaload, 1) := by decide +kernel
theorem dX6_record_75 : decode cX6_record 75 = .ok (.iastore, 1) := by decide +kernel
theorem dX6_record_76 : decode cX6_record 76 = .ok (.iinc 1 1, 3) := by decide +kernel
theorem dX6_record_79 : decode cX6_record 79 = .ok (.goto (-29), 3) := by decide +kernel
theorem dX6_record_82 : decode cX6_record 82 = .ok (.aload_n 0, 1) := by decide +kernel
theorem dX6_record_83 : decode cX6_record 83 = .ok (.dup, 1) := by decide +kernel
theorem dX6_record_84 : decode cX6_record 84 = .ok (.getfield 62, 3) := by decide +kernel
theorem dX6_record_87 : decode cX6_record 87 = .ok (.iconst 1, 1) := by decide +kernel
theorem dX6_record_88 : decode cX6_record 88 = .ok (.iadd, 1) := by decide +kernel
theorem dX6_record_89 : decode cX6_record 89 = .ok (.putfield 62, 3) := by decide +kernel
theorem dX6_record_92 : decode cX6_record 92 = .ok (.return_, 1) := by decide +kernel
theorem dX6_putAside_0 : decode cX6_putAside 0 = .ok (.iconst 0, 1) := by decide +kernel
theorem dX6_putAside_1 : decode cX6_putAside 1 = .ok (.istore_n 1, 1) := by decide +kernel
theorem dX6_putAside_2 : decode cX6_putAside 2 = .ok (.iload_n 1, 1) := by decide +kernel
theorem dX6_putAside_3 : decode cX6_putAside 3 = .ok (.bipush 57, 2) := by decide +kernel
theorem dX6_putAside_5 : decode cX6_putAside 5 = .ok (.if_icmp .ge 21, 3) := by decide +kernel
theorem dX6_putAside_8 : decode cX6_putAside 8 = .ok (.aload_n 0, 1) := by decide +kernel
theorem dX6_putAside_9 : decode cX6_putAside 9 = .ok (.getfield 13, 3) := by decide +kernel
theorem dX6_putAside_12 : decode cX6_putAside 12 = .ok (.iload_n 1, 1) := by decide +kernel
theorem dX6_putAside_13 : decode cX6_putAside 13 = .ok (.aload_n 0, 1) := by decide +kernel
theorem dX6_putAside_14 : decode cX6_putAside 14 = .ok (.getfield 7, 3) := by decide +kernel
theorem dX6_putAside_17 : decode cX6_putAside 17 = .ok (.iload_n 1, 1) := by decide +kernel
theorem dX6_putAside_18 : decode cX6_putAside 18 = .ok (.iaload, 1) := by decide +kernel
theorem dX6_putAside_19 : decode cX6_putAside 19 = .ok (.iastore, 1) := by decide +kernel
theorem dX6_putAside_20 : decode cX6_putAside 20 = .ok (.iinc 1 1, 3) := by decide +kernel
theorem dX6_putAside_23 : decode cX6_putAside 23 = .ok (.goto (-21), 3) := by decide +kernel
theorem dX6_putAside_26 : decode cX6_putAside 26 = .ok (.return_, 1) := by decide +kernel
theorem dX6_putBack_0 : decode cX6_putBack 0 = .ok (.iconst 0, 1) := by decide +kernel
theorem dX6_putBack_1 : decode cX6_putBack 1 = .ok (.istore_n 1, 1) := by decide +kernel
theorem dX6_putBack_2 : decode cX6_putBack 2 = .ok (.iload_n 1, 1) := by decide +kernel
theorem dX6_putBack_3 : decode cX6_putBack 3 = .ok (.bipush 57, 2) := by decide +kernel
theorem dX6_putBack_5 : decode cX6_putBack 5 = .ok (.if_icmp .ge 21, 3) := by decide +kernel
theorem dX6_putBack_8 : decode cX6_putBack 8 = .ok (.aload_n 0, 1) := by decide +kernel
theorem dX6_putBack_9 : decode cX6_putBack 9 = .ok (.getfield 7, 3) := by decide +kernel
theorem dX6_putBack_12 : decode cX6_putBack 12 = .ok (.iload_n 1, 1) := by decide +kernel
theorem dX6_putBack_13 : decode cX6_putBack 13 = .ok (.aload_n 0, 1) := by decide +kernel
theorem dX6_putBack_14 : decode cX6_putBack 14 = .ok (.getfield 13, 3) := by decide +kernel
theorem dX6_putBack_17 : decode cX6_putBack 17 = .ok (.iload_n 1, 1) := by decide +kernel
theorem dX6_putBack_18 : decode cX6_putBack 18 = .ok (.iaload, 1) := by decide +kernel
theorem dX6_putBack_19 : decode cX6_putBack 19 = .ok (.iastore, 1) := by decide +kernel
theorem dX6_putBack_20 : decode cX6_putBack 20 = .ok (.iinc 1 1, 3) := by decide +kernel
theorem dX6_putBack_23 : decode cX6_putBack 23 = .ok (.goto (-21), 3) := by decide +kernel
theorem dX6_putBack_26 : decode cX6_putBack 26 = .ok (.return_, 1) := by decide +kernel
theorem dX6_daysLeft_0 : decode cX6_daysLeft 0 = .ok (.aload_n 0, 1) := by decide +kernel
theorem dX6_daysLeft_1 : decode cX6_daysLeft 1 = .ok (.getfield 7, 3) := by decide +kernel
theorem dX6_daysLeft_4 : decode cX6_daysLeft 4 = .ok (.aload_n 0, 1) := by decide +kernel
theorem dX6_daysLeft_5 : decode cX6_daysLeft 5 = .ok (.iload_n 1, 1) := by decide +kernel
theorem dX6_daysLeft_6 : decode cX6_daysLeft 6 = .ok (.iconst 2, 1) := by decide +kernel
theorem dX6_daysLeft_7 : decode cX6_daysLeft 7 = .ok (.invokevirtual 65, 3) := by decide +kernel
theorem dX6_daysLeft_10 : decode cX6_daysLeft 10 = .ok (.iconst 0, 1) := by decide +kernel
theorem dX6_daysLeft_11 : decode cX6_daysLeft 11 = .ok (.invokestatic 47, 3) := by decide +kernel
theorem dX6_daysLeft_14 : decode cX6_daysLeft 14 = .ok (.iaload, 1) := by decide +kernel
theorem dX6_daysLeft_15 : decode cX6_daysLeft 15 = .ok (.aload_n 0, 1) := by decide +kernel
theorem dX6_daysLeft_16 : decode cX6_daysLeft 16 = .ok (.iload_n 1, 1) := by decide +kernel
theorem dX6_daysLeft_17 : decode cX6_daysLeft 17 = .ok (.iconst 3, 1) := by decide +kernel
theorem dX6_daysLeft_18 : decode cX6_daysLeft 18 = .ok (.invokevirtual 65, 3) := by decide +kernel
theorem dX6_daysLeft_21 : decode cX6_daysLeft 21 = .ok (.isub, 1) := by decide +kernel
theorem dX6_daysLeft_22 : decode cX6_daysLeft 22 = .ok (.istore_n 2, 1) := by decide +kernel
theorem dX6_daysLeft_23 : decode cX6_daysLeft 23 = .ok (.iload_n 2, 1) := by decide +kernel
theorem dX6_daysLeft_24 : decode cX6_daysLeft 24 = .ok (.ifCond .le 7, 3) := by decide +kernel
theorem dX6_daysLeft_27 : decode cX6_daysLeft 27 = .ok (.iload_n 2, 1) := by decide +kernel
theorem dX6_daysLeft_28 : decode cX6_daysLeft 28 = .ok (.goto 4, 3) := by decide +kernel
theorem dX6_daysLeft_31 : decode cX6_daysLeft 31 = .ok (.iconst 0, 1) := by decide +kernel
theorem dX6_daysLeft_32 : decode cX6_daysLeft 32 = .ok (.ireturn, 1) := by decide +kernel
theorem dX6_wants_0 : decode cX6_wants 0 = .ok (.aload_n 0, 1) := by decide +kernel
theorem dX6_wants_1 : decode cX6_wants 1 = .ok (.iload_n 1, 1) := by decide +kernel
theorem dX6_wants_2 : decode cX6_wants 2 = .ok (.iconst 1, 1) := by decide +kernel
theorem dX6_wants_3 : decode cX6_wants 3 = .ok (.invokevirtual 65, 3) := by decide +kernel
theorem dX6_wants_6 : decode cX6_wants 6 = .ok (.aload_n 0, 1) := by decide +kernel
theorem dX6_wants_7 : decode cX6_wants 7 = .ok (.iload_n 2, 1) := by decide +kernel
theorem dX6_wants_8 : decode cX6_wants 8 = .ok (.iconst 2, 1) := by decide +kernel
theorem dX6_wants_9 : decode cX6_wants 9 = .ok (.invokevirtual 65, 3) := by decide +kernel
theorem dX6_wants_12 : decode cX6_wants 12 = .ok (.ishr, 1) := by decide +kernel
theorem dX6_wants_13 : decode cX6_wants 13 = .ok (.iconst 1, 1) := by decide +kernel
theorem dX6_wants_14 : decode cX6_wants 14 = .ok (.iand, 1) := by decide +kernel
theorem dX6_wants_15 : decode cX6_wants 15 = .ok (.iconst 1, 1) := by decide +kernel
theorem dX6_wants_16 : decode cX6_wants 16 = .ok (.if_icmp .ne 7, 3) := by decide +kernel
theorem dX6_wants_19 : decode cX6_wants 19 = .ok (.iconst 1, 1) := by decide +kernel
theorem dX6_wants_20 : decode cX6_wants 20 = .ok (.goto 4, 3) := by decide +kernel
theorem dX6_wants_23 : decode cX6_wants 23 = .ok (.iconst 0, 1) := by decide +kernel
theorem dX6_wants_24 : decode cX6_wants 24 = .ok (.ireturn, 1) := by decide +kernel
theorem dX6_takes_0 : decode cX6_takes 0 = .ok (.aload_n 0, 1) := by decide +kernel
theorem dX6_takes_1 : decode cX6_takes 1 = .ok (.getfield 7, 3) := by decide +kernel
theorem dX6_takes_4 : decode cX6_takes 4 = .ok (.bipush 9, 2) := by decide +kernel
theorem dX6_takes_6 : decode cX6_takes 6 = .ok (.iaload, 1) := by decide +kernel
theorem dX6_takes_7 : decode cX6_takes 7 = .ok (.iload_n 1, 1) := by decide +kernel
theorem dX6_takes_8 : decode cX6_takes 8 = .ok (.if_icmp .eq 18, 3) := by decide +kernel
theorem dX6_takes_11 : decode cX6_takes 11 = .ok (.aload_n 0, 1) := by decide +kernel
theorem dX6_takes_12 : decode cX6_takes 12 = .ok (.getfield 7, 3) := by decide +kernel
theorem dX6_takes_15 : decode cX6_takes 15 = .ok (.bipush 9, 2) := by decide +kernel
theorem dX6_takes_17 : decode cX6_takes 17 = .ok (.iaload, 1) := by decide +kernel
theorem dX6_takes_18 : decode cX6_takes 18 = .ok (.iload_n 2, 1) := by decide +kernel
theorem dX6_takes_19 : decode cX6_takes 19 = .ok (.if_icmp .eq 7, 3) := by decide +kernel
theorem dX6_takes_22 : decode cX6_takes 22 = .ok (.iconst 1, 1) := by decide +kernel
theorem dX6_takes_23 : decode cX6_takes 23 = .ok (.goto 4, 3) := by decide +kernel
theorem dX6_takes_26 : decode cX6_takes 26 = .ok (.iconst 0, 1) := by decide +kernel
theorem dX6_takes_27 : decode cX6_takes 27 = .ok (.istore_n 3, 1) := by decide +kernel
theorem dX6_takes_28 : decode cX6_takes 28 = .ok (.iload_n 1, 1) := by decide +kernel
theorem dX6_takes_29 : decode cX6_takes 29 = .ok (.iload_n 2, 1) := by decide +kernel
theorem dX6_takes_30 : decode cX6_takes 30 = .ok (.if_icmp .eq 36, 3) := by decide +kernel
theorem dX6_takes_33 : decode cX6_takes 33 = .ok (.iload_n 3, 1) := by decide +kernel
theorem dX6_takes_34 : decode cX6_takes 34 = .ok (.ifCond .eq 32, 3) := by decide +kernel
theorem dX6_takes_37 : decode cX6_takes 37 = .ok (.aload_n 0, 1) := by decide +kernel
theorem dX6_takes_38 : decode cX6_takes 38 = .ok (.iload_n 1, 1) := by decide +kernel
theorem dX6_takes_39 : decode cX6_takes 39 = .ok (.invokevirtual 68, 3) := by decide +kernel
theorem dX6_takes_42 : decode cX6_takes 42 = .ok (.ifCond .le 24, 3) := by decide +kernel
theorem dX6_takes_45 : decode cX6_takes 45 = .ok (.aload_n 0, 1) := by decide +kernel
theorem dX6_takes_46 : decode cX6_takes 46 = .ok (.iload_n 2, 1) := by decide +kernel
theorem dX6_takes_47 : decode cX6_takes 47 = .ok (.invokevirtual 68, 3) := by decide +kernel
theorem dX6_takes_50 : decode cX6_takes 50 = .ok (.ifCond .le 16, 3) := by decide +kernel
theorem dX6_takes_53 : decode cX6_takes 53 = .ok (.aload_n 0, 1) := by decide +kernel
theorem dX6_takes_54 : decode cX6_takes 54 = .ok (.iload_n 1, 1) := by decide +kernel
theorem dX6_takes_55 : decode cX6_takes 55 = .ok (.iload_n 2, 1) := by decide +kernel
theorem dX6_takes_56 : decode cX6_takes 56 = .ok (.invokevirtual 72, 3) := by decide +kernel
theorem dX6_takes_59 : decode cX6_takes 59 = .ok (.ifCond .eq 7, 3) := by decide +kernel
theorem dX6_takes_62 : decode cX6_takes 62 = .ok (.iconst 1, 1) := by decide +kernel
theorem dX6_takes_63 : decode cX6_takes 63 = .ok (.goto 4, 3) := by decide +kernel
theorem dX6_takes_66 : decode cX6_takes 66 = .ok (.iconst 0, 1) := by decide +kernel
theorem dX6_takes_67 : decode cX6_takes 67 = .ok (.ireturn, 1) := by decide +kernel
theorem dX6_areCircles_0 : decode cX6_areCircles 0 = .ok (.iconst 1, 1) := by decide +kernel
theorem dX6_areCircles_1 : decode cX6_areCircles 1 = .ok (.istore_n 2, 1) := by decide +kernel
theorem dX6_areCircles_2 : decode cX6_areCircles 2 = .ok (.iconst 0, 1) := by decide +kernel
theorem dX6_areCircles_3 : decode cX6_areCircles 3 = .ok (.istore_n 3, 1) := by decide +kernel
theorem dX6_areCircles_4 : decode cX6_areCircles 4 = .ok (.iload_n 3, 1) := by decide +kernel
theorem dX6_areCircles_5 : decode cX6_areCircles 5 = .ok (.aload_n 0, 1) := by decide +kernel
theorem dX6_areCircles_6 : decode cX6_areCircles 6 = .ok (.getfield 7, 3) := by decide +kernel
theorem dX6_areCircles_9 : decode cX6_areCircles 9 = .ok (.iconst 1, 1) := by decide +kernel
theorem dX6_areCircles_10 : decode cX6_areCircles 10 = .ok (.iaload, 1) := by decide +kernel
theorem dX6_areCircles_11 : decode cX6_areCircles 11 = .ok (.if_icmp .ge 87, 3) := by decide +kernel
theorem dX6_areCircles_14 : decode cX6_areCircles 14 = .ok (.iload_n 2, 1) := by decide +kernel
theorem dX6_areCircles_15 : decode cX6_areCircles 15 = .ok (.ifCond .eq 83, 3) := by decide +kernel
theorem dX6_areCircles_18 : decode cX6_areCircles 18 = .ok (.aload_n 0, 1) := by decide +kernel
theorem dX6_areCircles_19 : decode cX6_areCircles 19 = .ok (.getfield 35, 3) := by decide +kernel
theorem dX6_areCircles_22 : decode cX6_areCircles 22 = .ok (.iload_n 3, 1) := by decide +kernel
theorem dX6_areCircles_23 : decode cX6_areCircles 23 = .ok (.iaload, 1) := by decide +kernel
theorem dX6_areCircles_24 : decode cX6_areCircles 24 = .ok (.bipush (-4), 2) := by decide +kernel
theorem dX6_areCircles_26 : decode cX6_areCircles 26 = .ok (.if_icmp .eq 66, 3) := by decide +kernel
theorem dX6_areCircles_29 : decode cX6_areCircles 29 = .ok (.iconst 1, 1) := by decide +kernel
theorem dX6_areCircles_30 : decode cX6_areCircles 30 = .ok (.istore 4, 2) := by decide +kernel
theorem dX6_areCircles_32 : decode cX6_areCircles 32 = .ok (.aload_n 0, 1) := by decide +kernel
theorem dX6_areCircles_33 : decode cX6_areCircles 33 = .ok (.getfield 35, 3) := by decide +kernel
theorem dX6_areCircles_36 : decode cX6_areCircles 36 = .ok (.iload_n 3, 1) := by decide +kernel
theorem dX6_areCircles_37 : decode cX6_areCircles 37 = .ok (.iaload, 1) := by decide +kernel
theorem dX6_areCircles_38 : decode cX6_areCircles 38 = .ok (.istore 5, 2) := by decide +kernel
theorem dX6_areCircles_40 : decode cX6_areCircles 40 = .ok (.iload 4, 2) := by decide +kernel
theorem dX6_areCircles_42 : decode cX6_areCircles 42 = .ok (.iload_n 1, 1) := by decide +kernel
theorem dX6_areCircles_43 : decode cX6_areCircles 43 = .ok (.if_icmp .gt 31, 3) := by decide +kernel
theorem dX6_areCircles_46 : decode cX6_areCircles 46 = .ok (.iload 5, 2) := by decide +kernel
theorem dX6_areCircles_48 : decode cX6_areCircles 48 = .ok (.iload_n 3, 1) := by decide +kernel
theorem dX6_areCircles_49 : decode cX6_areCircles 49 = .ok (.if_icmp .eq 25, 3) := by decide +kernel
theorem dX6_areCircles_52 : decode cX6_areCircles 52 = .ok (.iload 5, 2) := by decide +kernel
theorem dX6_areCircles_54 : decode cX6_areCircles 54 = .ok (.bipush (-4), 2) := by decide +kernel
theorem dX6_areCircles_56 : decode cX6_areCircles 56 = .ok (.if_icmp .eq 18, 3) := by decide +kernel
theorem dX6_areCircles_59 : decode cX6_areCircles 59 = .ok (.aload_n 0, 1) := by decide +kernel
theorem dX6_areCircles_60 : decode cX6_areCircles 60 = .ok (.getfield 35, 3) := by decide +kernel
theorem dX6_areCircles_63 : decode cX6_areCircles 63 = .ok (.iload 5, 2) := by decide +kernel
theorem dX6_areCircles_65 : decode cX6_areCircles 65 = .ok (.iaload, 1) := by decide +kernel
theorem dX6_areCircles_66 : decode cX6_areCircles 66 = .ok (.istore 5, 2) := by decide +kernel
theorem dX6_areCircles_68 : decode cX6_areCircles 68 = .ok (.iinc 4 1, 3) := by decide +kernel
theorem dX6_areCircles_71 : decode cX6_areCircles 71 = .ok (.goto (-31), 3) := by decide +kernel
theorem dX6_areCircles_74 : decode cX6_areCircles 74 = .ok (.iload 5, 2) := by decide +kernel
theorem dX6_areCircles_76 : decode cX6_areCircles 76 = .ok (.iload_n 3, 1) := by decide +kernel
theorem dX6_areCircles_77 : decode cX6_areCircles 77 = .ok (.if_icmp .ne 13, 3) := by decide +kernel
theorem dX6_areCircles_80 : decode cX6_areCircles 80 = .ok (.iload 4, 2) := by decide +kernel
theorem dX6_areCircles_82 : decode cX6_areCircles 82 = .ok (.iload_n 1, 1) := by decide +kernel
theorem dX6_areCircles_83 : decode cX6_areCircles 83 = .ok (.if_icmp .gt 7, 3) := by decide +kernel
theorem dX6_areCircles_86 : decode cX6_areCircles 86 = .ok (.iconst 1, 1) := by decide +kernel
theorem dX6_areCircles_87 : decode cX6_areCircles 87 = .ok (.goto 4, 3) := by decide +kernel
theorem dX6_areCircles_90 : decode cX6_areCircles 90 = .ok (.iconst 0, 1) := by decide +kernel
theorem dX6_areCircles_91 : decode cX6_areCircles 91 = .ok (.istore_n 2, 1) := by decide +kernel
theorem dX6_areCircles_92 : decode cX6_areCircles 92 = .ok (.iinc 3 1, 3) := by decide +kernel
theorem dX6_areCircles_95 : decode cX6_areCircles 95 = .ok (.goto (-91), 3) := by decide +kernel
theorem dX6_areCircles_98 : decode cX6_areCircles 98 = .ok (.iload_n 2, 1) := by decide +kernel
theorem dX6_areCircles_99 : decode cX6_areCircles 99 = .ok (.ireturn, 1) := by decide +kernel
theorem dX6_keepsBest_0 : decode cX6_keepsBest 0 = .ok (.aload_n 0, 1) := by decide +kernel
theorem dX6_keepsBest_1 : decode cX6_keepsBest 1 = .ok (.iload_n 1, 1) := by decide +kernel
theorem dX6_keepsBest_2 : decode cX6_keepsBest 2 = .ok (.putfield 76, 3) := by decide +kernel
theorem dX6_keepsBest_5 : decode cX6_keepsBest 5 = .ok (.iconst 0, 1) := by decide +kernel
theorem dX6_keepsBest_6 : decode cX6_keepsBest 6 = .ok (.istore_n 2, 1) := by decide +kernel
theorem dX6_keepsBest_7 : decode cX6_keepsBest 7 = .ok (.iload_n 2, 1) := by decide +kernel
theorem dX6_keepsBest_8 : decode cX6_keepsBest 8 = .ok (.bipush 7, 2) := by decide +kernel
theorem dX6_keepsBest_10 : decode cX6_keepsBest 10 = .ok (.if_icmp .ge 21, 3) := by decide +kernel
theorem dX6_keepsBest_13 : decode cX6_keepsBest 13 = .ok (.aload_n 0, 1) := by decide +kernel
theorem dX6_keepsBest_14 : decode cX6_keepsBest 14 = .ok (.getfield 32, 3) := by decide +kernel
theorem dX6_keepsBest_17 : decode cX6_keepsBest 17 = .ok (.iload_n 2, 1) := by decide +kernel
theorem dX6_keepsBest_18 : decode cX6_keepsBest 18 = .ok (.aload_n 0, 1) := by decide +kernel
theorem dX6_keepsBest_19 : decode cX6_keepsBest 19 = .ok (.getfield 35, 3) := by decide +kernel
theorem dX6_keepsBest_22 : decode cX6_keepsBest 22 = .ok (.iload_n 2, 1) := by decide +kernel
theorem dX6_keepsBest_23 : decode cX6_keepsBest 23 = .ok (.iaload, 1) := by decide +kernel
theorem dX6_keepsBest_24 : decode cX6_keepsBest 24 = .ok (.iastore, 1) := by decide +kernel
theorem dX6_keepsBest_25 : decode cX6_keepsBest 25 = .ok (.iinc 2 1, 3) := by decide +kernel
theorem dX6_keepsBest_28 : decode cX6_keepsBest 28 = .ok (.goto (-21), 3) := by decide +kernel
theorem dX6_keepsBest_31 : decode cX6_keepsBest 31 = .ok (.return_, 1) := by decide +kernel
theorem dX6_may_0 : decode cX6_may 0 = .ok (.iload_n 3, 1) := by decide +kernel
theorem dX6_may_1 : decode cX6_may 1 = .ok (.iload_n 2, 1) := by decide +kernel
theorem dX6_may_2 : decode cX6_may 2 = .ok (.ishr, 1) := by decide +kernel
theorem dX6_may_3 : decode cX6_may 3 = .ok (.iconst 1, 1) := by decide +kernel
theorem dX6_may_4 : decode cX6_may 4 = .ok (.iand, 1) := by decide +kernel
theorem dX6_may_5 : decode cX6_may 5 = .ok (.ifCond .ne 16, 3) := by decide +kernel
theorem dX6_may_8 : decode cX6_may 8 = .ok (.aload_n 0, 1) := by decide +kernel
theorem dX6_may_9 : decode cX6_may 9 = .ok (.iload_n 1, 1) := by decide +kernel
theorem dX6_may_10 : decode cX6_may 10 = .ok (.iload_n 2, 1) := by decide +kernel
theorem dX6_may_11 : decode cX6_may 11 = .ok (.invokevirtual 79, 3) := by decide +kernel
theorem dX6_may_14 : decode cX6_may 14 = .ok (.ifCond .eq 7, 3) := by decide +kernel
theorem dX6_may_17 : decode cX6_may 17 = .ok (.iconst 1, 1) := by decide +kernel
theorem dX6_may_18 : decode cX6_may 18 = .ok (.goto 4, 3) := by decide +kernel
theorem dX6_may_21 : decode cX6_may 21 = .ok (.iconst 0, 1) := by decide +kernel
theorem dX6_may_22 : decode cX6_may 22 = .ok (.ireturn, 1) := by decide +kernel
theorem dX6_layBest_0 : decode cX6_layBest 0 = .ok (.aload_n 0, 1) := by decide +kernel
theorem dX6_layBest_1 : decode cX6_layBest 1 = .ok (.getfield 7, 3) := by decide +kernel
theorem dX6_layBest_4 : decode cX6_layBest 4 = .ok (.iconst 1, 1) := by decide +kernel
theorem dX6_layBest_5 : decode cX6_layBest 5 = .ok (.iaload, 1) := by decide +kernel
theorem dX6_layBest_6 : decode cX6_layBest 6 = .ok (.istore_n 2, 1) := by decide +kernel
theorem dX6_layBest_7 : decode cX6_layBest 7 = .ok (.iconst 0, 1) := by decide +kernel
theorem dX6_layBest_8 : decode cX6_layBest 8 = .ok (.istore_n 3, 1) := by decide +kernel
theorem dX6_layBest_9 : decode cX6_layBest 9 = .ok (.iload_n 3, 1) := by decide +kernel
theorem dX6_layBest_10 : decode cX6_layBest 10 = .ok (.bipush 7, 2) := by decide +kernel
theorem dX6_layBest_12 : decode cX6_layBest 12 = .ok (.if_icmp .ge 17, 3) := by decide +kernel
theorem dX6_layBest_15 : decode cX6_layBest 15 = .ok (.aload_n 0, 1) := by decide +kernel
theorem dX6_layBest_16 : decode cX6_layBest 16 = .ok (.getfield 35, 3) := by decide +kernel
theorem dX6_layBest_19 : decode cX6_layBest 19 = .ok (.iload_n 3, 1) := by decide +kernel
theorem dX6_layBest_20 : decode cX6_layBest 20 = .ok (.bipush (-4), 2) := by decide +kernel
theorem dX6_layBest_22 : decode cX6_layBest 22 = .ok (.iastore, 1) := by decide +kernel
theorem dX6_layBest_23 : decode cX6_layBest 23 = .ok (.iinc 3 1, 3) := by decide +kernel
theorem dX6_layBest_26 : decode cX6_layBest 26 = .ok (.goto (-17), 3) := by decide +kernel
theorem dX6_layBest_29 : decode cX6_layBest 29 = .ok (.aload_n 0, 1) := by decide +kernel
theorem dX6_layBest_30 : decode cX6_layBest 30 = .ok (.iconst 0, 1) := by decide +kernel
theorem dX6_layBest_31 : decode cX6_layBest 31 = .ok (.invokevirtual 82, 3) := by decide +kernel
theorem dX6_layBest_34 : decode cX6_layBest 34 = .ok (.iconst 0, 1) := by decide +kernel
theorem dX6_layBest_35 : decode cX6_layBest 35 = .ok (.istore_n 3, 1) := by decide +kernel
theorem dX6_layBest_36 : decode cX6_layBest 36 = .ok (.iconst 0, 1) := by decide +kernel
theorem dX6_layBest_37 : decode cX6_layBest 37 = .ok (.istore 4, 2) := by decide +kernel
theorem dX6_layBest_39 : decode cX6_layBest 39 = .ok (.iconst 0, 1) := by decide +kernel
theorem dX6_layBest_40 : decode cX6_layBest 40 = .ok (.istore 5, 2) := by decide +kernel
theorem dX6_layBest_42 : decode cX6_layBest 42 = .ok (.aload_n 0, 1) := by decide +kernel
theorem dX6_layBest_43 : decode cX6_layBest 43 = .ok (.getfield 38, 3) := by decide +kernel
theorem dX6_layBest_46 : decode cX6_layBest 46 = .ok (.iconst 0, 1) := by decide +kernel
theorem dX6_layBest_47 : decode cX6_layBest 47 = .ok (.iconst 0, 1) := by decide +kernel
theorem dX6_layBest_48 : decode cX6_layBest 48 = .ok (.iastore, 1) := by decide +kernel
theorem dX6_layBest_49 : decode cX6_layBest 49 = .ok (.iload_n 3, 1) := by decide +kernel
theorem dX6_layBest_50 : decode cX6_layBest 50 = .ok (.ifCond .lt 192, 3) := by decide +kernel
theorem dX6_layBest_53 : decode cX6_layBest 53 = .ok (.iload_n 3, 1) := by decide +kernel
theorem dX6_layBest_54 : decode cX6_layBest 54 = .ok (.iload_n 2, 1) := by decide +kernel
theorem dX6_layBest_55 : decode cX6_layBest 55 = .ok (.if_icmp .ne 32, 3) := by decide +kernel
theorem dX6_layBest_58 : decode cX6_layBest 58 = .ok (.iload 5, 2) := by decide +kernel
theorem dX6_layBest_60 : decode cX6_layBest 60 = .ok (.aload_n 0, 1) := by decide +kernel
theorem dX6_layBest_61 : decode cX6_layBest 61 = .ok (.getfield 76, 3) := by decide +kernel
theorem dX6_layBest_64 : decode cX6_layBest 64 = .ok (.if_icmp .le 17, 3) := by decide +kernel
theorem dX6_layBest_67 : decode cX6_layBest 67 = .ok (.aload_n 0, 1) := by decide +kernel
theorem dX6_layBest_68 : decode cX6_layBest 68 = .ok (.iload_n 1, 1) := by decide +kernel
theorem dX6_layBest_69 : decode cX6_layBest 69 = .ok (.invokevirtual 86, 3) := by decide +kernel
theorem dX6_layBest_72 : decode cX6_layBest 72 = .ok (.ifCond .eq 9, 3) := by decide +kernel
theorem dX6_layBest_75 : decode cX6_layBest 75 = .ok (.aload_n 0, 1) := by decide +kernel
theorem dX6_layBest_76 : decode cX6_layBest 76 = .ok (.iload 5, 2) := by decide +kernel
theorem dX6_layBest_78 : decode cX6_layBest 78 = .ok (.invokevirtual 82, 3) := by decide +kernel
theorem dX6_layBest_81 : decode cX6_layBest 81 = .ok (.iinc 3 (-1), 3) := by decide +kernel
theorem dX6_layBest_84 : decode cX6_layBest 84 = .ok (.goto (-35), 3) := by decide +kernel
theorem dX6_layBest_87 : decode cX6_layBest 87 = .ok (.aload_n 0, 1) := by decide +kernel
theorem dX6_layBest_88 : decode cX6_layBest 88 = .ok (.getfield 35, 3) := by decide +kernel
theorem dX6_layBest_91 : decode cX6_layBest 91 = .ok (.iload_n 3, 1) := by decide +kernel
theorem dX6_layBest_92 : decode cX6_layBest 92 = .ok (.iaload, 1) := by decide +kernel
theorem dX6_layBest_93 : decode cX6_layBest 93 = .ok (.bipush (-4), 2) := by decide +kernel
theorem dX6_layBest_95 : decode cX6_layBest 95 = .ok (.if_icmp .eq 29, 3) := by decide +kernel
theorem dX6_layBest_98 : decode cX6_layBest 98 = .ok (.iload 4, 2) := by decide +kernel
theorem dX6_layBest_100 : decode cX6_layBest 100 = .ok (.iconst 1, 1) := by decide +kernel
theorem dX6_layBest_101 : decode cX6_layBest 101 = .ok (.aload_n 0, 1) := by decide +kernel
theorem dX6_layBest_102 : decode cX6_layBest 102 = .ok (.getfield 35, 3) := by decide +kernel
theorem dX6_layBest_105 : decode cX6_layBest 105 = .ok (.iload_n 3, 1) := by decide +kernel
theorem dX6_layBest_106 : decode cX6_layBest 106 = .ok (.iaload, 1) := by decide +kernel
theorem dX6_layBest_107 : decode cX6_layBest 107 = .ok (.ishl, 1) := by decide +kernel
theorem dX6_layBest_108 : decode cX6_layBest 108 = .ok (.iconst (-1), 1) := by decide +kernel
theorem dX6_layBest_109 : decode cX6_layBest 109 = .ok (.ixor, 1) := by decide +kernel
theorem dX6_layBest_110 : decode cX6_layBest 110 = .ok (.iand, 1) := by decide +kernel
theorem dX6_layBest_111 : decode cX6_layBest 111 = .ok (.istore 4, 2) := by decide +kernel
theorem dX6_layBest_113 : decode cX6_layBest 113 = .ok (.iinc 5 (-1), 3) := by decide +kernel
theorem dX6_layBest_116 : decode cX6_layBest 116 = .ok (.aload_n 0, 1) := by decide +kernel
theorem dX6_layBest_117 : decode cX6_layBest 117 = .ok (.getfield 35, 3) := by decide +kernel
theorem dX6_layBest_120 : decode cX6_layBest 120 = .ok (.iload_n 3, 1) := by decide +kernel
theorem dX6_layBest_121 : decode cX6_layBest 121 = .ok (.bipush (-4), 2) := by decide +kernel
theorem dX6_layBest_123 : decode cX6_layBest 123 = .ok (.iastore, 1) := by decide +kernel
theorem dX6_layBest_124 : decode cX6_layBest 124 = .ok (.aload_n 0, 1) := by decide +kernel
theorem dX6_layBest_125 : decode cX6_layBest 125 = .ok (.getfield 38, 3) := by decide +kernel
theorem dX6_layBest_128 : decode cX6_layBest 128 = .ok (.iload_n 3, 1) := by decide +kernel
theorem dX6_layBest_129 : decode cX6_layBest 129 = .ok (.iaload, 1) := by decide +kernel
theorem dX6_layBest_130 : decode cX6_layBest 130 = .ok (.istore 6, 2) := by decide +kernel
theorem dX6_layBest_132 : decode cX6_layBest 132 = .ok (.iload 6, 2) := by decide +kernel
theorem dX6_layBest_134 : decode cX6_layBest 134 = .ok (.iload_n 2, 1) := by decide +kernel
theorem dX6_layBest_135 : decode cX6_layBest 135 = .ok (.if_icmp .ge 21, 3) := by decide +kernel
theorem dX6_layBest_138 : decode cX6_layBest 138 = .ok (.aload_n 0, 1) := by decide +kernel
theorem dX6_layBest_139 : decode cX6_layBest 139 = .ok (.iload_n 3, 1) := by decide +kernel
theorem dX6_layBest_140 : decode cX6_layBest 140 = .ok (.iload 6, 2) := by decide +kernel
theorem dX6_layBest_142 : decode cX6_layBest 142 = .ok (.iload 4, 2) := by decide +kernel
theorem dX6_layBest_144 : decode cX6_layBest 144 = .ok (.invokevirtual 89, 3) := by decide +kernel
theorem dX6_layBest_147 : decode cX6_layBest 147 = .ok (.ifCond .ne 9, 3) := by decide +kernel
theorem dX6_layBest_150 : decode cX6_layBest 150 = .ok (.iinc 6 1, 3) := by decide +kernel
theorem dX6_layBest_153 : decode cX6_layBest 153 = .ok (.goto (-21), 3) := by decide +kernel
theorem dX6_layBest_156 : decode cX6_layBest 156 = .ok (.aload_n 0, 1) := by decide +kernel
theorem dX6_layBest_157 : decode cX6_layBest 157 = .ok (.getfield 38, 3) := by decide +kernel
theorem dX6_layBest_160 : decode cX6_layBest 160 = .ok (.iload_n 3, 1) := by decide +kernel
theorem dX6_layBest_161 : decode cX6_layBest 161 = .ok (.iload 6, 2) := by decide +kernel
theorem dX6_layBest_163 : decode cX6_layBest 163 = .ok (.iconst 1, 1) := by decide +kernel
theorem dX6_layBest_164 : decode cX6_layBest 164 = .ok (.iadd, 1) := by decide +kernel
theorem dX6_layBest_165 : decode cX6_layBest 165 = .ok (.iastore, 1) := by decide +kernel
theorem dX6_layBest_166 : decode cX6_layBest 166 = .ok (.iload 5, 2) := by decide +kernel
theorem dX6_layBest_168 : decode cX6_layBest 168 = .ok (.iload_n 2, 1) := by decide +kernel
theorem dX6_layBest_169 : decode cX6_layBest 169 = .ok (.iadd, 1) := by decide +kernel
theorem dX6_layBest_170 : decode cX6_layBest 170 = .ok (.iload_n 3, 1) := by decide +kernel
theorem dX6_layBest_171 : decode cX6_layBest 171 = .ok (.isub, 1) := by decide +kernel
theorem dX6_layBest_172 : decode cX6_layBest 172 = .ok (.aload_n 0, 1) := by decide +kernel
theorem dX6_layBest_173 : decode cX6_layBest 173 = .ok (.getfield 76, 3) := by decide +kernel
theorem dX6_layBest_176 : decode cX6_layBest 176 = .ok (.if_icmp .gt 7, 3) := by decide +kernel
theorem dX6_layBest_179 : decode cX6_layBest 179 = .ok (.iconst 1, 1) := by decide +kernel
theorem dX6_layBest_180 : decode cX6_layBest 180 = .ok (.goto 4, 3) := by decide +kernel
theorem dX6_layBest_183 : decode cX6_layBest 183 = .ok (.iconst 0, 1) := by decide +kernel
theorem dX6_layBest_184 : decode cX6_layBest 184 = .ok (.istore 7, 2) := by decide +kernel
theorem dX6_layBest_186 : decode cX6_layBest 186 = .ok (.iload 6, 2) := by decide +kernel
theorem dX6_layBest_188 : decode cX6_layBest 188 = .ok (.iload_n 2, 1) := by decide +kernel
theorem dX6_layBest_189 : decode cX6_layBest 189 = .ok (.if_icmp .gt 8, 3) := by decide +kernel
theorem dX6_layBest_192 : decode cX6_layBest 192 = .ok (.iload 7, 2) := by decide +kernel
theorem dX6_layBest_194 : decode cX6_layBest 194 = .ok (.ifCond .eq 9, 3) := by decide +kernel
theorem dX6_layBest_197 : decode cX6_layBest 197 = .ok (.iinc 3 (-1), 3) := by decide +kernel
theorem dX6_layBest_200 : decode cX6_layBest 200 = .ok (.goto 39, 3) := by decide +kernel
theorem dX6_layBest_203 : decode cX6_layBest 203 = .ok (.iload 6, 2) := by decide +kernel
theorem dX6_layBest_205 : decode cX6_layBest 205 = .ok (.iload_n 2, 1) := by decide +kernel
theorem dX6_layBest_206 : decode cX6_layBest 206 = .ok (.if_icmp .ge 23, 3) := by decide +kernel
theorem dX6_layBest_209 : decode cX6_layBest 209 = .ok (.aload_n 0, 1) := by decide +kernel
theorem dX6_layBest_210 : decode cX6_layBest 210 = .ok (.getfield 35, 3) := by decide +kernel
theorem dX6_layBest_213 : decode cX6_layBest 213 = .ok (.iload_n 3, 1) := by decide +kernel
theorem dX6_layBest_214 : decode cX6_layBest 214 = .ok (.iload 6, 2) := by decide +kernel
theorem dX6_layBest_216 : decode cX6_layBest 216 = .ok (.iastore, 1) := by decide +kernel
theorem dX6_layBest_217 : decode cX6_layBest 217 = .ok (.iload 4, 2) := by decide +kernel
theorem dX6_layBest_219 : decode cX6_layBest 219 = .ok (.iconst 1, 1) := by decide +kernel
theorem dX6_layBest_220 : decode cX6_layBest 220 = .ok (.iload 6, 2) := by decide +kernel
theorem dX6_layBest_222 : decode cX6_layBest 222 = .ok (.ishl, 1) := by decide +kernel
theorem dX6_layBest_223 : decode cX6_layBest 223 = .ok (.ior, 1) := by decide +kernel
theorem dX6_layBest_224 : decode cX6_layBest 224 = .ok (.istore 4, 2) := by decide +kernel
theorem dX6_layBest_226 : decode cX6_layBest 226 = .ok (.iinc 5 1, 3) := by decide +kernel
theorem dX6_layBest_229 : decode cX6_layBest 229 = .ok (.iinc 3 1, 3) := by decide +kernel
theorem dX6_layBest_232 : decode cX6_layBest 232 = .ok (.aload_n 0, 1) := by decide +kernel
theorem dX6_layBest_233 : decode cX6_layBest 233 = .ok (.getfield 38, 3) := by decide +kernel
theorem dX6_layBest_236 : decode cX6_layBest 236 = .ok (.iload_n 3, 1) := by decide +kernel
theorem dX6_layBest_237 : decode cX6_layBest 237 = .ok (.iconst 0, 1) := by decide +kernel
theorem dX6_layBest_238 : decode cX6_layBest 238 = .ok (.iastore, 1) := by decide +kernel
theorem dX6_layBest_239 : decode cX6_layBest 239 = .ok (.goto (-190), 3) := by decide +kernel
theorem dX6_layBest_242 : decode cX6_layBest 242 = .ok (.return_, 1) := by decide +kernel
theorem dX6_gets_0 : decode cX6_gets 0 = .ok (.aload_n 0, 1) := by decide +kernel
theorem dX6_gets_1 : decode cX6_gets 1 = .ok (.getfield 7, 3) := by decide +kernel
theorem dX6_gets_4 : decode cX6_gets 4 = .ok (.iload_n 1, 1) := by decide +kernel
theorem dX6_gets_5 : decode cX6_gets 5 = .ok (.iconst 2, 1) := by decide +kernel
theorem dX6_gets_6 : decode cX6_gets 6 = .ok (.invokestatic 59, 3) := by decide +kernel
theorem dX6_gets_9 : decode cX6_gets 9 = .ok (.iload_n 2, 1) := by decide +kernel
theorem dX6_gets_10 : decode cX6_gets 10 = .ok (.iastore, 1) := by decide +kernel
theorem dX6_gets_11 : decode cX6_gets 11 = .ok (.aload_n 0, 1) := by decide +kernel
theorem dX6_gets_12 : decode cX6_gets 12 = .ok (.getfield 7, 3) := by decide +kernel
theorem dX6_gets_15 : decode cX6_gets 15 = .ok (.iload_n 1, 1) := by decide +kernel
theorem dX6_gets_16 : decode cX6_gets 16 = .ok (.iconst 3, 1) := by decide +kernel
theorem dX6_gets_17 : decode cX6_gets 17 = .ok (.invokestatic 59, 3) := by decide +kernel
theorem dX6_gets_20 : decode cX6_gets 20 = .ok (.iload_n 3, 1) := by decide +kernel
theorem dX6_gets_21 : decode cX6_gets 21 = .ok (.iastore, 1) := by decide +kernel
theorem dX6_gets_22 : decode cX6_gets 22 = .ok (.aload_n 0, 1) := by decide +kernel
theorem dX6_gets_23 : decode cX6_gets 23 = .ok (.getfield 7, 3) := by decide +kernel
theorem dX6_gets_26 : decode cX6_gets 26 = .ok (.iload_n 1, 1) := by decide +kernel
theorem dX6_gets_27 : decode cX6_gets 27 = .ok (.iconst 1, 1) := by decide +kernel
theorem dX6_gets_28 : decode cX6_gets 28 = .ok (.invokestatic 59, 3) := by decide +kernel
theorem dX6_gets_31 : decode cX6_gets 31 = .ok (.dup2, 1) := by decide +kernel
theorem dX6_gets_32 : decode cX6_gets 32 = .ok (.iaload, 1) := by decide +kernel
theorem dX6_gets_33 : decode cX6_gets 33 = .ok (.iconst 1, 1) := by decide +kernel
theorem dX6_gets_34 : decode cX6_gets 34 = .ok (.iload_n 2, 1) := by decide +kernel
theorem dX6_gets_35 : decode cX6_gets 35 = .ok (.ishl, 1) := by decide +kernel
theorem dX6_gets_36 : decode cX6_gets 36 = .ok (.iconst (-1), 1) := by decide +kernel
theorem dX6_gets_37 : decode cX6_gets 37 = .ok (.ixor, 1) := by decide +kernel
theorem dX6_gets_38 : decode cX6_gets 38 = .ok (.iand, 1) := by decide +kernel
theorem dX6_gets_39 : decode cX6_gets 39 = .ok (.iastore, 1) := by decide +kernel
theorem dX6_gets_40 : decode cX6_gets 40 = .ok (.aload_n 0, 1) := by decide +kernel
theorem dX6_gets_41 : decode cX6_gets 41 = .ok (.getfield 7, 3) := by decide +kernel
theorem dX6_gets_44 : decode cX6_gets 44 = .ok (.iload_n 1, 1) := by decide +kernel
theorem dX6_gets_45 : decode cX6_gets 45 = .ok (.iconst 4, 1) := by decide +kernel
theorem dX6_gets_46 : decode cX6_gets 46 = .ok (.invokestatic 59, 3) := by decide +kernel
theorem dX6_gets_49 : decode cX6_gets 49 = .ok (.dup2, 1) := by decide +kernel
theorem dX6_gets_50 : decode cX6_gets 50 = .ok (.iaload, 1) := by decide +kernel
theorem dX6_gets_51 : decode cX6_gets 51 = .ok (.iconst 1, 1) := by decide +kernel
theorem dX6_gets_52 : decode cX6_gets 52 = .ok (.iadd, 1) := by decide +kernel
theorem dX6_gets_53 : decode cX6_gets 53 = .ok (.iastore, 1) := by decide +kernel
theorem dX6_gets_54 : decode cX6_gets 54 = .ok (.aload_n 0, 1) := by decide +kernel
theorem dX6_gets_55 : decode cX6_gets 55 = .ok (.getfield 7, 3) := by decide +kernel
theorem dX6_gets_58 : decode cX6_gets 58 = .ok (.iload_n 2, 1) := by decide +kernel
theorem dX6_gets_59 : decode cX6_gets 59 = .ok (.iconst 1, 1) := by decide +kernel
theorem dX6_gets_60 : decode cX6_gets 60 = .ok (.invokestatic 47, 3) := by decide +kernel
theorem dX6_gets_63 : decode cX6_gets 63 = .ok (.dup2, 1) := by decide +kernel
theorem dX6_gets_64 : decode cX6_gets 64 = .ok (.iaload, 1) := by decide +kernel
theorem dX6_gets_65 : decode cX6_gets 65 = .ok (.iconst 1, 1) := by decide +kernel
theorem dX6_gets_66 : decode cX6_gets 66 = .ok (.iadd, 1) := by decide +kernel
theorem dX6_gets_67 : decode cX6_gets 67 = .ok (.iastore, 1) := by decide +kernel
theorem dX6_gets_68 : decode cX6_gets 68 = .ok (.aload_n 0, 1) := by decide +kernel
theorem dX6_gets_69 : decode cX6_gets 69 = .ok (.getfield 7, 3) := by decide +kernel
theorem dX6_gets_72 : decode cX6_gets 72 = .ok (.iconst 2, 1) := by decide +kernel
theorem dX6_gets_73 : decode cX6_gets 73 = .ok (.dup2, 1) := by decide +kernel
theorem dX6_gets_74 : decode cX6_gets 74 = .ok (.iaload, 1) := by decide +kernel
theorem dX6_gets_75 : decode cX6_gets 75 = .ok (.iconst 1, 1) := by decide +kernel
theorem dX6_gets_76 : decode cX6_gets 76 = .ok (.iadd, 1) := by decide +kernel
theorem dX6_gets_77 : decode cX6_gets 77 = .ok (.iastore, 1) := by decide +kernel
theorem dX6_gets_78 : decode cX6_gets 78 = .ok (.return_, 1) := by decide +kernel
theorem dX6_looksAtWares_0 : decode cX6_looksAtWares 0 = .ok (.iconst 0, 1) := by decide +kernel
theorem dX6_looksAtWares_1 : decode cX6_looksAtWares 1 = .ok (.istore_n 1, 1) := by decide +kernel
theorem dX6_looksAtWares_2 : decode cX6_looksAtWares 2 = .ok (.iload_n 1, 1) := by decide +kernel
theorem dX6_looksAtWares_3 : decode cX6_looksAtWares 3 = .ok (.bipush 7, 2) := by decide +kernel
theorem dX6_looksAtWares_5 : decode cX6_looksAtWares 5 = .ok (.if_icmp .ge 33, 3) := by decide +kernel
theorem dX6_looksAtWares_8 : decode cX6_looksAtWares 8 = .ok (.aload_n 0, 1) := by decide +kernel
theorem dX6_looksAtWares_9 : decode cX6_looksAtWares 9 = .ok (.getfield 41, 3) := by decide +kernel
theorem dX6_looksAtWares_12 : decode cX6_looksAtWares 12 = .ok (.iload_n 1, 1) := by decide +kernel
theorem dX6_looksAtWares_13 : decode cX6_looksAtWares 13 = .ok (.aload_n 0, 1) := by decide +kernel
theorem dX6_looksAtWares_14 : decode cX6_looksAtWares 14 = .ok (.iload_n 1, 1) := by decide +kernel
theorem dX6_looksAtWares_15 : decode cX6_looksAtWares 15 = .ok (.iconst 2, 1) := by decide +kernel
theorem dX6_looksAtWares_16 : decode cX6_looksAtWares 16 = .ok (.invokevirtual 65, 3) := by decide +kernel
theorem dX6_looksAtWares_19 : decode cX6_looksAtWares 19 = .ok (.iastore, 1) := by decide +kernel
theorem dX6_looksAtWares_20 : decode cX6_looksAtWares 20 = .ok (.aload_n 0, 1) := by decide +kernel
theorem dX6_looksAtWares_21 : decode cX6_looksAtWares 21 = .ok (.getfield 44, 3) := by decide +kernel
theorem dX6_looksAtWares_24 : decode cX6_looksAtWares 24 = .ok (.iload_n 1, 1) := by decide +kernel
theorem dX6_looksAtWares_25 : decode cX6_looksAtWares 25 = .ok (.aload_n 0, 1) := by decide +kernel
theorem dX6_looksAtWares_26 : decode cX6_looksAtWares 26 = .ok (.iload_n 1, 1) := by decide +kernel
theorem dX6_looksAtWares_27 : decode cX6_looksAtWares 27 = .ok (.iconst 3, 1) := by decide +kernel
theorem dX6_looksAtWares_28 : decode cX6_looksAtWares 28 = .ok (.invokevirtual 65, 3) := by decide +kernel
theorem dX6_looksAtWares_31 : decode cX6_looksAtWares 31 = .ok (.iastore, 1) := by decide +kernel
theorem dX6_looksAtWares_32 : decode cX6_looksAtWares 32 = .ok (.iinc 1 1, 3) := by decide +kernel
theorem dX6_looksAtWares_35 : decode cX6_looksAtWares 35 = .ok (.goto (-33), 3) := by decide +kernel
theorem dX6_looksAtWares_38 : decode cX6_looksAtWares 38 = .ok (.return_, 1) := by decide +kernel
theorem dX6_calls_0 : decode cX6_calls 0 = .ok (.aload_n 0, 1) := by decide +kernel
theorem dX6_calls_1 : decode cX6_calls 1 = .ok (.aload_n 0, 1) := by decide +kernel
theorem dX6_calls_2 : decode cX6_calls 2 = .ok (.getfield 7, 3) := by decide +kernel
theorem dX6_calls_5 : decode cX6_calls 5 = .ok (.bipush 7, 2) := by decide +kernel
theorem dX6_calls_7 : decode cX6_calls 7 = .ok (.iaload, 1) := by decide +kernel
theorem dX6_calls_8 : decode cX6_calls 8 = .ok (.invokevirtual 92, 3) := by decide +kernel
theorem dX6_calls_11 : decode cX6_calls 11 = .ok (.aload_n 0, 1) := by decide +kernel
theorem dX6_calls_12 : decode cX6_calls 12 = .ok (.invokevirtual 95, 3) := by decide +kernel
theorem dX6_calls_15 : decode cX6_calls 15 = .ok (.iconst 0, 1) := by decide +kernel
theorem dX6_calls_16 : decode cX6_calls 16 = .ok (.istore_n 1, 1) := by decide +kernel
theorem dX6_calls_17 : decode cX6_calls 17 = .ok (.iload_n 1, 1) := by decide +kernel
theorem dX6_calls_18 : decode cX6_calls 18 = .ok (.aload_n 0, 1) := by decide +kernel
theorem dX6_calls_19 : decode cX6_calls 19 = .ok (.getfield 7, 3) := by decide +kernel
theorem dX6_calls_22 : decode cX6_calls 22 = .ok (.iconst 1, 1) := by decide +kernel
theorem dX6_calls_23 : decode cX6_calls 23 = .ok (.iaload, 1) := by decide +kernel
theorem dX6_calls_24 : decode cX6_calls 24 = .ok (.if_icmp .ge 47, 3) := by decide +kernel
theorem dX6_calls_27 : decode cX6_calls 27 = .ok (.aload_n 0, 1) := by decide +kernel
theorem dX6_calls_28 : decode cX6_calls 28 = .ok (.getfield 32, 3) := by decide +kernel
theorem dX6_calls_31 : decode cX6_calls 31 = .ok (.iload_n 1, 1) := by decide +kernel
theorem dX6_calls_32 : decode cX6_calls 32 = .ok (.iaload, 1) := by decide +kernel
theorem dX6_calls_33 : decode cX6_calls 33 = .ok (.bipush (-4), 2) := by decide +kernel
theorem dX6_calls_35 : decode cX6_calls 35 = .ok (.if_icmp .eq 30, 3) := by decide +kernel
theorem dX6_calls_38 : decode cX6_calls 38 = .ok (.aload_n 0, 1) := by decide +kernel
theorem dX6_calls_39 : decode cX6_calls 39 = .ok (.iload_n 1, 1) := by decide +kernel
theorem dX6_calls_40 : decode cX6_calls 40 = .ok (.aload_n 0, 1) := by decide +kernel
theorem dX6_calls_41 : decode cX6_calls 41 = .ok (.getfield 41, 3) := by decide +kernel
theorem dX6_calls_44 : decode cX6_calls 44 = .ok (.aload_n 0, 1) := by decide +kernel
theorem dX6_calls_45 : decode cX6_calls 45 = .ok (.getfield 32, 3) := by decide +kernel
theorem dX6_calls_48 : decode cX6_calls 48 = .ok (.iload_n 1, 1) := by decide +kernel
theorem dX6_calls_49 : decode cX6_calls 49 = .ok (.iaload, 1) := by decide +kernel
theorem dX6_calls_50 : decode cX6_calls 50 = .ok (.iaload, 1) := by decide +kernel
theorem dX6_calls_51 : decode cX6_calls 51 = .ok (.aload_n 0, 1) := by decide +kernel
theorem dX6_calls_52 : decode cX6_calls 52 = .ok (.getfield 44, 3) := by decide +kernel
theorem dX6_calls_55 : decode cX6_calls 55 = .ok (.aload_n 0, 1) := by decide +kernel
theorem dX6_calls_56 : decode cX6_calls 56 = .ok (.getfield 32, 3) := by decide +kernel
theorem dX6_calls_59 : decode cX6_calls 59 = .ok (.iload_n 1, 1) := by decide +kernel
theorem dX6_calls_60 : decode cX6_calls 60 = .ok (.iaload, 1) := by decide +kernel
theorem dX6_calls_61 : decode cX6_calls 61 = .ok (.iaload, 1) := by decide +kernel
theorem dX6_calls_62 : decode cX6_calls 62 = .ok (.invokevirtual 98, 3) := by decide +kernel
theorem dX6_calls_65 : decode cX6_calls 65 = .ok (.iinc 1 1, 3) := by decide +kernel
theorem dX6_calls_68 : decode cX6_calls 68 = .ok (.goto (-51), 3) := by decide +kernel
theorem dX6_calls_71 : decode cX6_calls 71 = .ok (.aload_n 0, 1) := by decide +kernel
theorem dX6_calls_72 : decode cX6_calls 72 = .ok (.getfield 7, 3) := by decide +kernel
theorem dX6_calls_75 : decode cX6_calls 75 = .ok (.iconst 5, 1) := by decide +kernel
theorem dX6_calls_76 : decode cX6_calls 76 = .ok (.dup2, 1) := by decide +kernel
theorem dX6_calls_77 : decode cX6_calls 77 = .ok (.iaload, 1) := by decide +kernel
theorem dX6_calls_78 : decode cX6_calls 78 = .ok (.iconst 1, 1) := by decide +kernel
theorem dX6_calls_79 : decode cX6_calls 79 = .ok (.iadd, 1) := by decide +kernel
theorem dX6_calls_80 : decode cX6_calls 80 = .ok (.iastore, 1) := by decide +kernel
theorem dX6_calls_81 : decode cX6_calls 81 = .ok (.aload_n 0, 1) := by decide +kernel
theorem dX6_calls_82 : decode cX6_calls 82 = .ok (.getfield 76, 3) := by decide +kernel
theorem dX6_calls_85 : decode cX6_calls 85 = .ok (.ireturn, 1) := by decide +kernel
theorem dX6_reason_0 : decode cX6_reason 0 = .ok (.aload_n 0, 1) := by decide +kernel
theorem dX6_reason_1 : decode cX6_reason 1 = .ok (.getfield 7, 3) := by decide +kernel
theorem dX6_reason_4 : decode cX6_reason 4 = .ok (.bipush 9, 2) := by decide +kernel
theorem dX6_reason_6 : decode cX6_reason 6 = .ok (.iaload, 1) := by decide +kernel
theorem dX6_reason_7 : decode cX6_reason 7 = .ok (.iload_n 1, 1) := by decide +kernel
theorem dX6_reason_8 : decode cX6_reason 8 = .ok (.if_icmp .eq 14, 3) := by decide +kernel
theorem dX6_reason_11 : decode cX6_reason 11 = .ok (.aload_n 0, 1) := by decide +kernel
theorem dX6_reason_12 : decode cX6_reason 12 = .ok (.getfield 7, 3) := by decide +kernel
theorem dX6_reason_15 : decode cX6_reason 15 = .ok (.bipush 9, 2) := by decide +kernel
theorem dX6_reason_17 : decode cX6_reason 17 = .ok (.iaload, 1) := by decide +kernel
theorem dX6_reason_18 : decode cX6_reason 18 = .ok (.iload_n 2, 1) := by decide +kernel
theorem dX6_reason_19 : decode cX6_reason 19 = .ok (.if_icmp .ne 5, 3) := by decide +kernel
theorem dX6_reason_22 : decode cX6_reason 22 = .ok (.iconst 1, 1) := by decide +kernel
theorem dX6_reason_23 : decode cX6_reason 23 = .ok (.ireturn, 1) := by decide +kernel
theorem dX6_reason_24 : decode cX6_reason 24 = .ok (.aload_n 0, 1) := by decide +kernel
theorem dX6_reason_25 : decode cX6_reason 25 = .ok (.iload_n 1, 1) := by decide +kernel
theorem dX6_reason_26 : decode cX6_reason 26 = .ok (.invokevirtual 68, 3) := by decide +kernel
theorem dX6_reason_29 : decode cX6_reason 29 = .ok (.ifCond .eq 11, 3) := by decide +kernel
theorem dX6_reason_32 : decode cX6_reason 32 = .ok (.aload_n 0, 1) := by decide +kernel
theorem dX6_reason_33 : decode cX6_reason 33 = .ok (.iload_n 2, 1) := by decide +kernel
theorem dX6_reason_34 : decode cX6_reason 34 = .ok (.invokevirtual 68, 3) := by decide +kernel
theorem dX6_reason_37 : decode cX6_reason 37 = .ok (.ifCond .ne 5, 3) := by decide +kernel
theorem dX6_reason_40 : decode cX6_reason 40 = .ok (.iconst 2, 1) := by decide +kernel
theorem dX6_reason_41 : decode cX6_reason 41 = .ok (.ireturn, 1) := by decide +kernel
theorem dX6_reason_42 : decode cX6_reason 42 = .ok (.aload_n 0, 1) := by decide +kernel
theorem dX6_reason_43 : decode cX6_reason 43 = .ok (.iload_n 1, 1) := by decide +kernel
theorem dX6_reason_44 : decode cX6_reason 44 = .ok (.iload_n 2, 1) := by decide +kernel
theorem dX6_reason_45 : decode cX6_reason 45 = .ok (.invokevirtual 72, 3) := by decide +kernel
theorem dX6_reason_48 : decode cX6_reason 48 = .ok (.ifCond .ne 7, 3) := by decide +kernel
theorem dX6_reason_51 : decode cX6_reason 51 = .ok (.iconst 3, 1) := by decide +kernel
theorem dX6_reason_52 : decode cX6_reason 52 = .ok (.goto 17, 3) := by decide +kernel
theorem dX6_reason_55 : decode cX6_reason 55 = .ok (.aload_n 0, 1) := by decide +kernel
theorem dX6_reason_56 : decode cX6_reason 56 = .ok (.iload_n 2, 1) := by decide +kernel
theorem dX6_reason_57 : decode cX6_reason 57 = .ok (.iload_n 1, 1) := by decide +kernel
theorem dX6_reason_58 : decode cX6_reason 58 = .ok (.invokevirtual 72, 3) := by decide +kernel
theorem dX6_reason_61 : decode cX6_reason 61 = .ok (.ifCond .ne 7, 3) := by decide +kernel
theorem dX6_reason_64 : decode cX6_reason 64 = .ok (.iconst 4, 1) := by decide +kernel
theorem dX6_reason_65 : decode cX6_reason 65 = .ok (.goto 4, 3) := by decide +kernel
theorem dX6_reason_68 : decode cX6_reason 68 = .ok (.iconst 0, 1) := by decide +kernel
theorem dX6_reason_69 : decode cX6_reason 69 = .ok (.ireturn, 1) := by decide +kernel
theorem dX6_barters_0 : decode cX6_barters 0 = .ok (.aload_n 0, 1) := by decide +kernel
theorem dX6_barters_1 : decode cX6_barters 1 = .ok (.iload_n 1, 1) := by decide +kernel
theorem dX6_barters_2 : decode cX6_barters 2 = .ok (.iload_n 2, 1) := by decide +kernel
theorem dX6_barters_3 : decode cX6_barters 3 = .ok (.invokevirtual 102, 3) := by decide +kernel
theorem dX6_barters_6 : decode cX6_barters 6 = .ok (.istore_n 3, 1) := by decide +kernel
theorem dX6_barters_7 : decode cX6_barters 7 = .ok (.iload_n 3, 1) := by decide +kernel
theorem dX6_barters_8 : decode cX6_barters 8 = .ok (.ifCond .le 16, 3) := by decide +kernel
theorem dX6_barters_11 : decode cX6_barters 11 = .ok (.aload_n 0, 1) := by decide +kernel
theorem dX6_barters_12 : decode cX6_barters 12 = .ok (.getfield 7, 3) := by decide +kernel
theorem dX6_barters_15 : decode cX6_barters 15 = .ok (.bipush 6, 2) := by decide +kernel
theorem dX6_barters_17 : decode cX6_barters 17 = .ok (.dup2, 1) := by decide +kernel
theorem dX6_barters_18 : decode cX6_barters 18 = .ok (.iaload, 1) := by decide +kernel
theorem dX6_barters_19 : decode cX6_barters 19 = .ok (.iconst 1, 1) := by decide +kernel
theorem dX6_barters_20 : decode cX6_barters 20 = .ok (.iadd, 1) := by decide +kernel
theorem dX6_barters_21 : decode cX6_barters 21 = .ok (.iastore, 1) := by decide +kernel
theorem dX6_barters_22 : decode cX6_barters 22 = .ok (.iload_n 3, 1) := by decide +kernel
theorem dX6_barters_23 : decode cX6_barters 23 = .ok (.ireturn, 1) := by decide +kernel
theorem dX6_barters_24 : decode cX6_barters 24 = .ok (.aload_n 0, 1) := by decide +kernel
theorem dX6_barters_25 : decode cX6_barters 25 = .ok (.invokevirtual 95, 3) := by decide +kernel
theorem dX6_barters_28 : decode cX6_barters 28 = .ok (.aload_n 0, 1) := by decide +kernel
theorem dX6_barters_29 : decode cX6_barters 29 = .ok (.iload_n 1, 1) := by decide +kernel
theorem dX6_barters_30 : decode cX6_barters 30 = .ok (.aload_n 0, 1) := by decide +kernel
theorem dX6_barters_31 : decode cX6_barters 31 = .ok (.getfield 41, 3) := by decide +kernel
theorem dX6_barters_34 : decode cX6_barters 34 = .ok (.iload_n 2, 1) := by decide +kernel
theorem dX6_barters_35 : decode cX6_barters 35 = .ok (.iaload, 1) := by decide +kernel
theorem dX6_barters_36 : decode cX6_barters 36 = .ok (.aload_n 0, 1) := by decide +kernel
theorem dX6_barters_37 : decode cX6_barters 37 = .ok (.getfield 44, 3) := by decide +kernel
theorem dX6_barters_40 : decode cX6_barters 40 = .ok (.iload_n 2, 1) := by decide +kernel
theorem dX6_barters_41 : decode cX6_barters 41 = .ok (.iaload, 1) := by decide +kernel
theorem dX6_barters_42 : decode cX6_barters 42 = .ok (.invokevirtual 98, 3) := by decide +kernel
theorem dX6_barters_45 : decode cX6_barters 45 = .ok (.aload_n 0, 1) := by decide +kernel
theorem dX6_barters_46 : decode cX6_barters 46 = .ok (.iload_n 2, 1) := by decide +kernel
theorem dX6_barters_47 : decode cX6_barters 47 = .ok (.aload_n 0, 1) := by decide +kernel
theorem dX6_barters_48 : decode cX6_barters 48 = .ok (.getfield 41, 3) := by decide +kernel
theorem dX6_barters_51 : decode cX6_barters 51 = .ok (.iload_n 1, 1) := by decide +kernel
theorem dX6_barters_52 : decode cX6_barters 52 = .ok (.iaload, 1) := by decide +kernel
theorem dX6_barters_53 : decode cX6_barters 53 = .ok (.aload_n 0, 1) := by decide +kernel
theorem dX6_barters_54 : decode cX6_barters 54 = .ok (.getfield 44, 3) := by decide +kernel
theorem dX6_barters_57 : decode cX6_barters 57 = .ok (.iload_n 1, 1) := by decide +kernel
theorem dX6_barters_58 : decode cX6_barters 58 = .ok (.iaload, 1) := by decide +kernel
theorem dX6_barters_59 : decode cX6_barters 59 = .ok (.invokevirtual 98, 3) := by decide +kernel
theorem dX6_barters_62 : decode cX6_barters 62 = .ok (.bipush 10, 2) := by decide +kernel
theorem dX6_barters_64 : decode cX6_barters 64 = .ok (.ireturn, 1) := by decide +kernel
theorem dX6_passes_0 : decode cX6_passes 0 = .ok (.iconst 0, 1) := by decide +kernel
theorem dX6_passes_1 : decode cX6_passes 1 = .ok (.istore_n 1, 1) := by decide +kernel
theorem dX6_passes_2 : decode cX6_passes 2 = .ok (.aload_n 0, 1) := by decide +kernel
theorem dX6_passes_3 : decode cX6_passes 3 = .ok (.getfield 7, 3) := by decide +kernel
theorem dX6_passes_6 : decode cX6_passes 6 = .ok (.iconst 0, 1) := by decide +kernel
theorem dX6_passes_7 : decode cX6_passes 7 = .ok (.dup2, 1) := by decide +kernel
theorem dX6_passes_8 : decode cX6_passes 8 = .ok (.iaload, 1) := by decide +kernel
theorem dX6_passes_9 : decode cX6_passes 9 = .ok (.iconst 1, 1) := by decide +kernel
theorem dX6_passes_10 : decode cX6_passes 10 = .ok (.iadd, 1) := by decide +kernel
theorem dX6_passes_11 : decode cX6_passes 11 = .ok (.iastore, 1) := by decide +kernel
theorem dX6_passes_12 : decode cX6_passes 12 = .ok (.iconst 0, 1) := by decide +kernel
theorem dX6_passes_13 : decode cX6_passes 13 = .ok (.istore_n 2, 1) := by decide +kernel
theorem dX6_passes_14 : decode cX6_passes 14 = .ok (.iload_n 2, 1) := by decide +kernel
theorem dX6_passes_15 : decode cX6_passes 15 = .ok (.aload_n 0, 1) := by decide +kernel
theorem dX6_passes_16 : decode cX6_passes 16 = .ok (.getfield 7, 3) := by decide +kernel
theorem dX6_passes_19 : decode cX6_passes 19 = .ok (.iconst 1, 1) := by decide +kernel
theorem dX6_passes_20 : decode cX6_passes 20 = .ok (.iaload, 1) := by decide +kernel
theorem dX6_passes_21 : decode cX6_passes 21 = .ok (.if_icmp .ge 61, 3) := by decide +kernel
theorem dX6_passes_24 : decode cX6_passes 24 = .ok (.aload_n 0, 1) := by decide +kernel
theorem dX6_passes_25 : decode cX6_passes 25 = .ok (.getfield 7, 3) := by decide +kernel
theorem dX6_passes_28 : decode cX6_passes 28 = .ok (.iload_n 2, 1) := by decide +kernel
theorem dX6_passes_29 : decode cX6_passes 29 = .ok (.iconst 3, 1) := by decide +kernel
theorem dX6_passes_30 : decode cX6_passes 30 = .ok (.invokestatic 59, 3) := by decide +kernel
theorem dX6_passes_33 : decode cX6_passes 33 = .ok (.dup2, 1) := by decide +kernel
theorem dX6_passes_34 : decode cX6_passes 34 = .ok (.iaload, 1) := by decide +kernel
theorem dX6_passes_35 : decode cX6_passes 35 = .ok (.iconst 1, 1) := by decide +kernel
theorem dX6_passes_36 : decode cX6_passes 36 = .ok (.iadd, 1) := by decide +kernel
theorem dX6_passes_37 : decode cX6_passes 37 = .ok (.iastore, 1) := by decide +kernel
theorem dX6_passes_38 : decode cX6_passes 38 = .ok (.aload_n 0, 1) := by decide +kernel
theorem dX6_passes_39 : decode cX6_passes 39 = .ok (.iload_n 2, 1) := by decide +kernel
theorem dX6_passes_40 : decode cX6_passes 40 = .ok (.invokevirtual 68, 3) := by decide +kernel
theorem dX6_passes_43 : decode cX6_passes 43 = .ok (.ifCond .ne 33, 3) := by decide +kernel
theorem dX6_passes_46 : decode cX6_passes 46 = .ok (.aload_n 0, 1) := by decide +kernel
theorem dX6_passes_47 : decode cX6_passes 47 = .ok (.getfield 7, 3) := by decide +kernel
theorem dX6_passes_50 : decode cX6_passes 50 = .ok (.iload_n 2, 1) := by decide +kernel
theorem dX6_passes_51 : decode cX6_passes 51 = .ok (.iconst 2, 1) := by decide +kernel
theorem dX6_passes_52 : decode cX6_passes 52 = .ok (.invokestatic 59, 3) := by decide +kernel
theorem dX6_passes_55 : decode cX6_passes 55 = .ok (.aload_n 0, 1) := by decide +kernel
theorem dX6_passes_56 : decode cX6_passes 56 = .ok (.iload_n 2, 1) := by decide +kernel
theorem dX6_passes_57 : decode cX6_passes 57 = .ok (.iconst 0, 1) := by decide +kernel
theorem dX6_passes_58 : decode cX6_passes 58 = .ok (.invokevirtual 65, 3) := by decide +kernel
theorem dX6_passes_61 : decode cX6_passes 61 = .ok (.iastore, 1) := by decide +kernel
theorem dX6_passes_62 : decode cX6_passes 62 = .ok (.aload_n 0, 1) := by decide +kernel
theorem dX6_passes_63 : decode cX6_passes 63 = .ok (.getfield 7, 3) := by decide +kernel
theorem dX6_passes_66 : decode cX6_passes 66 = .ok (.iload_n 2, 1) := by decide +kernel
theorem dX6_passes_67 : decode cX6_passes 67 = .ok (.iconst 3, 1) := by decide +kernel
theorem dX6_passes_68 : decode cX6_passes 68 = .ok (.invokestatic 59, 3) := by decide +kernel
theorem dX6_passes_71 : decode cX6_passes 71 = .ok (.iconst 0, 1) := by decide +kernel
theorem dX6_passes_72 : decode cX6_passes 72 = .ok (.iastore, 1) := by decide +kernel
theorem dX6_passes_73 : decode cX6_passes 73 = .ok (.iinc 1 1, 3) := by decide +kernel
theorem dX6_passes_76 : decode cX6_passes 76 = .ok (.iinc 2 1, 3) := by decide +kernel
theorem dX6_passes_79 : decode cX6_passes 79 = .ok (.goto (-65), 3) := by decide +kernel
theorem dX6_passes_82 : decode cX6_passes 82 = .ok (.aload_n 0, 1) := by decide +kernel
theorem dX6_passes_83 : decode cX6_passes 83 = .ok (.getfield 7, 3) := by decide +kernel
theorem dX6_passes_86 : decode cX6_passes 86 = .ok (.iconst 3, 1) := by decide +kernel
theorem dX6_passes_87 : decode cX6_passes 87 = .ok (.dup2, 1) := by decide +kernel
theorem dX6_passes_88 : decode cX6_passes 88 = .ok (.iaload, 1) := by decide +kernel
theorem dX6_passes_89 : decode cX6_passes 89 = .ok (.iload_n 1, 1) := by decide +kernel
theorem dX6_passes_90 : decode cX6_passes 90 = .ok (.iadd, 1) := by decide +kernel
theorem dX6_passes_91 : decode cX6_passes 91 = .ok (.iastore, 1) := by decide +kernel
theorem dX6_passes_92 : decode cX6_passes 92 = .ok (.aload_n 0, 1) := by decide +kernel
theorem dX6_passes_93 : decode cX6_passes 93 = .ok (.getfield 7, 3) := by decide +kernel
theorem dX6_passes_96 : decode cX6_passes 96 = .ok (.iconst 4, 1) := by decide +kernel
theorem dX6_passes_97 : decode cX6_passes 97 = .ok (.dup2, 1) := by decide +kernel
theorem dX6_passes_98 : decode cX6_passes 98 = .ok (.iaload, 1) := by decide +kernel
theorem dX6_passes_99 : decode cX6_passes 99 = .ok (.iload_n 1, 1) := by decide +kernel
theorem dX6_passes_100 : decode cX6_passes 100 = .ok (.iadd, 1) := by decide +kernel
theorem dX6_passes_101 : decode cX6_passes 101 = .ok (.iastore, 1) := by decide +kernel
theorem dX6_passes_102 : decode cX6_passes 102 = .ok (.aload_n 0, 1) := by decide +kernel
theorem dX6_passes_103 : decode cX6_passes 103 = .ok (.getfield 7, 3) := by decide +kernel
theorem dX6_passes_106 : decode cX6_passes 106 = .ok (.bipush 8, 2) := by decide +kernel
theorem dX6_passes_108 : decode cX6_passes 108 = .ok (.sipush 421, 3) := by decide +kernel
theorem dX6_passes_111 : decode cX6_passes 111 = .ok (.aload_n 0, 1) := by decide +kernel
theorem dX6_passes_112 : decode cX6_passes 112 = .ok (.getfield 7, 3) := by decide +kernel
theorem dX6_passes_115 : decode cX6_passes 115 = .ok (.bipush 8, 2) := by decide +kernel
theorem dX6_passes_117 : decode cX6_passes 117 = .ok (.iaload, 1) := by decide +kernel
theorem dX6_passes_118 : decode cX6_passes 118 = .ok (.imul, 1) := by decide +kernel
theorem dX6_passes_119 : decode cX6_passes 119 = .ok (.sipush 1663, 3) := by decide +kernel
theorem dX6_passes_122 : decode cX6_passes 122 = .ok (.iadd, 1) := by decide +kernel
theorem dX6_passes_123 : decode cX6_passes 123 = .ok (.sipush 10000, 3) := by decide +kernel
theorem dX6_passes_126 : decode cX6_passes 126 = .ok (.irem, 1) := by decide +kernel
theorem dX6_passes_127 : decode cX6_passes 127 = .ok (.iastore, 1) := by decide +kernel
theorem dX6_passes_128 : decode cX6_passes 128 = .ok (.aload_n 0, 1) := by decide +kernel
theorem dX6_passes_129 : decode cX6_passes 129 = .ok (.getfield 7, 3) := by decide +kernel
theorem dX6_passes_132 : decode cX6_passes 132 = .ok (.bipush 8, 2) := by decide +kernel
theorem dX6_passes_134 : decode cX6_passes 134 = .ok (.iaload, 1) := by decide +kernel
theorem dX6_passes_135 : decode cX6_passes 135 = .ok (.aload_n 0, 1) := by decide +kernel
theorem dX6_passes_136 : decode cX6_passes 136 = .ok (.getfield 7, 3) := by decide +kernel
theorem dX6_passes_139 : decode cX6_passes 139 = .ok (.iconst 1, 1) := by decide +kernel
theorem dX6_passes_140 : decode cX6_passes 140 = .ok (.iaload, 1) := by decide +kernel
theorem dX6_passes_141 : decode cX6_passes 141 = .ok (.iconst 1, 1) := by decide +kernel
theorem dX6_passes_142 : decode cX6_passes 142 = .ok (.iadd, 1) := by decide +kernel
theorem dX6_passes_143 : decode cX6_passes 143 = .ok (.irem, 1) := by decide +kernel
theorem dX6_passes_144 : decode cX6_passes 144 = .ok (.istore_n 2, 1) := by decide +kernel
theorem dX6_passes_145 : decode cX6_passes 145 = .ok (.aload_n 0, 1) := by decide +kernel
theorem dX6_passes_146 : decode cX6_passes 146 = .ok (.getfield 7, 3) := by decide +kernel
theorem dX6_passes_149 : decode cX6_passes 149 = .ok (.bipush 9, 2) := by decide +kernel
theorem dX6_passes_151 : decode cX6_passes 151 = .ok (.iload_n 2, 1) := by decide +kernel
theorem dX6_passes_152 : decode cX6_passes 152 = .ok (.aload_n 0, 1) := by decide +kernel
theorem dX6_passes_153 : decode cX6_passes 153 = .ok (.getfield 7, 3) := by decide +kernel
theorem dX6_passes_156 : decode cX6_passes 156 = .ok (.iconst 1, 1) := by decide +kernel
theorem dX6_passes_157 : decode cX6_passes 157 = .ok (.iaload, 1) := by decide +kernel
theorem dX6_passes_158 : decode cX6_passes 158 = .ok (.if_icmp .ge 7, 3) := by decide +kernel
theorem dX6_passes_161 : decode cX6_passes 161 = .ok (.iload_n 2, 1) := by decide +kernel
theorem dX6_passes_162 : decode cX6_passes 162 = .ok (.goto 5, 3) := by decide +kernel
theorem dX6_passes_165 : decode cX6_passes 165 = .ok (.bipush (-4), 2) := by decide +kernel
theorem dX6_passes_167 : decode cX6_passes 167 = .ok (.iastore, 1) := by decide +kernel
theorem dX6_passes_168 : decode cX6_passes 168 = .ok (.iload_n 1, 1) := by decide +kernel
theorem dX6_passes_169 : decode cX6_passes 169 = .ok (.ireturn, 1) := by decide +kernel
theorem dX6_comes_0 : decode cX6_comes 0 = .ok (.aload_n 0, 1) := by decide +kernel
theorem dX6_comes_1 : decode cX6_comes 1 = .ok (.getfield 7, 3) := by decide +kernel
theorem dX6_comes_4 : decode cX6_comes 4 = .ok (.iconst 1, 1) := by decide +kernel
theorem dX6_comes_5 : decode cX6_comes 5 = .ok (.iaload, 1) := by decide +kernel
theorem dX6_comes_6 : decode cX6_comes 6 = .ok (.istore_n 3, 1) := by decide +kernel
theorem dX6_comes_7 : decode cX6_comes 7 = .ok (.aload_n 0, 1) := by decide +kernel
theorem dX6_comes_8 : decode cX6_comes 8 = .ok (.getfield 7, 3) := by decide +kernel
theorem dX6_comes_11 : decode cX6_comes 11 = .ok (.iconst 1, 1) := by decide +kernel
theorem dX6_comes_12 : decode cX6_comes 12 = .ok (.dup2, 1) := by decide +kernel
theorem dX6_comes_13 : decode cX6_comes 13 = .ok (.iaload, 1) := by decide +kernel
theorem dX6_comes_14 : decode cX6_comes 14 = .ok (.iconst 1, 1) := by decide +kernel
theorem dX6_comes_15 : decode cX6_comes 15 = .ok (.iadd, 1) := by decide +kernel
theorem dX6_comes_16 : decode cX6_comes 16 = .ok (.iastore, 1) := by decide +kernel
theorem dX6_comes_17 : decode cX6_comes 17 = .ok (.aload_n 0, 1) := by decide +kernel
theorem dX6_comes_18 : decode cX6_comes 18 = .ok (.getfield 7, 3) := by decide +kernel
theorem dX6_comes_21 : decode cX6_comes 21 = .ok (.iload_n 3, 1) := by decide +kernel
theorem dX6_comes_22 : decode cX6_comes 22 = .ok (.iconst 0, 1) := by decide +kernel
theorem dX6_comes_23 : decode cX6_comes 23 = .ok (.invokestatic 59, 3) := by decide +kernel
theorem dX6_comes_26 : decode cX6_comes 26 = .ok (.iload_n 1, 1) := by decide +kernel
theorem dX6_comes_27 : decode cX6_comes 27 = .ok (.iastore, 1) := by decide +kernel
theorem dX6_comes_28 : decode cX6_comes 28 = .ok (.aload_n 0, 1) := by decide +kernel
theorem dX6_comes_29 : decode cX6_comes 29 = .ok (.getfield 7, 3) := by decide +kernel
theorem dX6_comes_32 : decode cX6_comes 32 = .ok (.iload_n 3, 1) := by decide +kernel
theorem dX6_comes_33 : decode cX6_comes 33 = .ok (.iconst 1, 1) := by decide +kernel
theorem dX6_comes_34 : decode cX6_comes 34 = .ok (.invokestatic 59, 3) := by decide +kernel
theorem dX6_comes_37 : decode cX6_comes 37 = .ok (.iload_n 2, 1) := by decide +kernel
theorem dX6_comes_38 : decode cX6_comes 38 = .ok (.iastore, 1) := by decide +kernel
theorem dX6_comes_39 : decode cX6_comes 39 = .ok (.aload_n 0, 1) := by decide +kernel
theorem dX6_comes_40 : decode cX6_comes 40 = .ok (.getfield 7, 3) := by decide +kernel
theorem dX6_comes_43 : decode cX6_comes 43 = .ok (.iload_n 3, 1) := by decide +kernel
theorem dX6_comes_44 : decode cX6_comes 44 = .ok (.iconst 2, 1) := by decide +kernel
theorem dX6_comes_45 : decode cX6_comes 45 = .ok (.invokestatic 59, 3) := by decide +kernel
theorem dX6_comes_48 : decode cX6_comes 48 = .ok (.iload_n 1, 1) := by decide +kernel
theorem dX6_comes_49 : decode cX6_comes 49 = .ok (.iastore, 1) := by decide +kernel
theorem dX6_comes_50 : decode cX6_comes 50 = .ok (.aload_n 0, 1) := by decide +kernel
theorem dX6_comes_51 : decode cX6_comes 51 = .ok (.getfield 7, 3) := by decide +kernel
theorem dX6_comes_54 : decode cX6_comes 54 = .ok (.iload_n 3, 1) := by decide +kernel
theorem dX6_comes_55 : decode cX6_comes 55 = .ok (.iconst 3, 1) := by decide +kernel
theorem dX6_comes_56 : decode cX6_comes 56 = .ok (.invokestatic 59, 3) := by decide +kernel
theorem dX6_comes_59 : decode cX6_comes 59 = .ok (.iconst 0, 1) := by decide +kernel
theorem dX6_comes_60 : decode cX6_comes 60 = .ok (.iastore, 1) := by decide +kernel
theorem dX6_comes_61 : decode cX6_comes 61 = .ok (.aload_n 0, 1) := by decide +kernel
theorem dX6_comes_62 : decode cX6_comes 62 = .ok (.getfield 7, 3) := by decide +kernel
theorem dX6_comes_65 : decode cX6_comes 65 = .ok (.iload_n 3, 1) := by decide +kernel
theorem dX6_comes_66 : decode cX6_comes 66 = .ok (.iconst 4, 1) := by decide +kernel
theorem dX6_comes_67 : decode cX6_comes 67 = .ok (.invokestatic 59, 3) := by decide +kernel
theorem dX6_comes_70 : decode cX6_comes 70 = .ok (.iconst 0, 1) := by decide +kernel
theorem dX6_comes_71 : decode cX6_comes 71 = .ok (.iastore, 1) := by decide +kernel
theorem dX6_comes_72 : decode cX6_comes 72 = .ok (.aload_n 0, 1) := by decide +kernel
theorem dX6_comes_73 : decode cX6_comes 73 = .ok (.getfield 7, 3) := by decide +kernel
theorem dX6_comes_76 : decode cX6_comes 76 = .ok (.iconst 4, 1) := by decide +kernel
theorem dX6_comes_77 : decode cX6_comes 77 = .ok (.dup2, 1) := by decide +kernel
theorem dX6_comes_78 : decode cX6_comes 78 = .ok (.iaload, 1) := by decide +kernel
theorem dX6_comes_79 : decode cX6_comes 79 = .ok (.iconst 1, 1) := by decide +kernel
theorem dX6_comes_80 : decode cX6_comes 80 = .ok (.iadd, 1) := by decide +kernel
theorem dX6_comes_81 : decode cX6_comes 81 = .ok (.iastore, 1) := by decide +kernel
theorem dX6_comes_82 : decode cX6_comes 82 = .ok (.iload_n 3, 1) := by decide +kernel
theorem dX6_comes_83 : decode cX6_comes 83 = .ok (.ireturn, 1) := by decide +kernel
theorem dX6_come_0 : decode cX6_come 0 = .ok (.iload_n 1, 1) := by decide +kernel
theorem dX6_come_1 : decode cX6_come 1 = .ok (.invokestatic 105, 3) := by decide +kernel
theorem dX6_come_4 : decode cX6_come 4 = .ok (.ifCond .eq 13, 3) := by decide +kernel
theorem dX6_come_7 : decode cX6_come 7 = .ok (.iload_n 2, 1) := by decide +kernel
theorem dX6_come_8 : decode cX6_come 8 = .ok (.iconst 0, 1) := by decide +kernel
theorem dX6_come_9 : decode cX6_come 9 = .ok (.bipush 63, 2) := by decide +kernel
theorem dX6_come_11 : decode cX6_come 11 = .ok (.invokestatic 51, 3) := by decide +kernel
theorem dX6_come_14 : decode cX6_come 14 = .ok (.ifCond .ne 5, 3) := by decide +kernel
theorem dX6_come_17 : decode cX6_come 17 = .ok (.iconst (-1), 1) := by decide +kernel
theorem dX6_come_18 : decode cX6_come 18 = .ok (.ireturn, 1) := by decide +kernel
theorem dX6_come_19 : decode cX6_come 19 = .ok (.aload_n 0, 1) := by decide +kernel
theorem dX6_come_20 : decode cX6_come 20 = .ok (.getfield 7, 3) := by decide +kernel
theorem dX6_come_23 : decode cX6_come 23 = .ok (.iconst 1, 1) := by decide +kernel
theorem dX6_come_24 : decode cX6_come 24 = .ok (.iaload, 1) := by decide +kernel
theorem dX6_come_25 : decode cX6_come 25 = .ok (.bipush 7, 2) := by decide +kernel
theorem dX6_come_27 : decode cX6_come 27 = .ok (.if_icmp .ne 6, 3) := by decide +kernel
theorem dX6_come_30 : decode cX6_come 30 = .ok (.bipush (-3), 2) := by decide +kernel
theorem dX6_come_32 : decode cX6_come 32 = .ok (.ireturn, 1) := by decide +kernel
theorem dX6_come_33 : decode cX6_come 33 = .ok (.aload_n 0, 1) := by decide +kernel
theorem dX6_come_34 : decode cX6_come 34 = .ok (.invokevirtual 108, 3) := by decide +kernel
theorem dX6_come_37 : decode cX6_come 37 = .ok (.aload_n 0, 1) := by decide +kernel
theorem dX6_come_38 : decode cX6_come 38 = .ok (.iload_n 1, 1) := by decide +kernel
theorem dX6_come_39 : decode cX6_come 39 = .ok (.iload_n 2, 1) := by decide +kernel
theorem dX6_come_40 : decode cX6_come 40 = .ok (.invokevirtual 111, 3) := by decide +kernel
theorem dX6_come_43 : decode cX6_come 43 = .ok (.ireturn, 1) := by decide +kernel
theorem dX6_go_0 : decode cX6_go 0 = .ok (.aload_n 0, 1) := by decide +kernel
theorem dX6_go_1 : decode cX6_go 1 = .ok (.iload_n 1, 1) := by decide +kernel
theorem dX6_go_2 : decode cX6_go 2 = .ok (.invokevirtual 55, 3) := by decide +kernel
theorem dX6_go_5 : decode cX6_go 5 = .ok (.ifCond .ne 5, 3) := by decide +kernel
theorem dX6_go_8 : decode cX6_go 8 = .ok (.iconst (-1), 1) := by decide +kernel
theorem dX6_go_9 : decode cX6_go 9 = .ok (.ireturn, 1) := by decide +kernel
theorem dX6_go_10 : decode cX6_go 10 = .ok (.aload_n 0, 1) := by decide +kernel
theorem dX6_go_11 : decode cX6_go 11 = .ok (.invokevirtual 108, 3) := by decide +kernel
theorem dX6_go_14 : decode cX6_go 14 = .ok (.aload_n 0, 1) := by decide +kernel
theorem dX6_go_15 : decode cX6_go 15 = .ok (.iload_n 1, 1) := by decide +kernel
theorem dX6_go_16 : decode cX6_go 16 = .ok (.iconst 4, 1) := by decide +kernel
theorem dX6_go_17 : decode cX6_go 17 = .ok (.invokevirtual 65, 3) := by decide +kernel
theorem dX6_go_20 : decode cX6_go 20 = .ok (.istore_n 2, 1) := by decide +kernel
theorem dX6_go_21 : decode cX6_go 21 = .ok (.aload_n 0, 1) := by decide +kernel
theorem dX6_go_22 : decode cX6_go 22 = .ok (.getfield 7, 3) := by decide +kernel
theorem dX6_go_25 : decode cX6_go 25 = .ok (.iconst 1, 1) := by decide +kernel
theorem dX6_go_26 : decode cX6_go 26 = .ok (.dup2, 1) := by decide +kernel
theorem dX6_go_27 : decode cX6_go 27 = .ok (.iaload, 1) := by decide +kernel
theorem dX6_go_28 : decode cX6_go 28 = .ok (.iconst 1, 1) := by decide +kernel
theorem dX6_go_29 : decode cX6_go 29 = .ok (.isub, 1) := by decide +kernel
theorem dX6_go_30 : decode cX6_go 30 = .ok (.iastore, 1) := by decide +kernel
theorem dX6_go_31 : decode cX6_go 31 = .ok (.iload_n 1, 1) := by decide +kernel
theorem dX6_go_32 : decode cX6_go 32 = .ok (.iconst 0, 1) := by decide +kernel
theorem dX6_go_33 : decode cX6_go 33 = .ok (.invokestatic 59, 3) := by decide +kernel
theorem dX6_go_36 : decode cX6_go 36 = .ok (.istore_n 3, 1) := by decide +kernel
theorem dX6_go_37 : decode cX6_go 37 = .ok (.iload_n 3, 1) := by decide +kernel
theorem dX6_go_38 : decode cX6_go 38 = .ok (.aload_n 0, 1) := by decide +kernel
theorem dX6_go_39 : decode cX6_go 39 = .ok (.getfield 7, 3) := by decide +kernel
theorem dX6_go_42 : decode cX6_go 42 = .ok (.iconst 1, 1) := by decide +kernel
theorem dX6_go_43 : decode cX6_go 43 = .ok (.iaload, 1) := by decide +kernel
theorem dX6_go_44 : decode cX6_go 44 = .ok (.iconst 0, 1) := by decide +kernel
theorem dX6_go_45 : decode cX6_go 45 = .ok (.invokestatic 59, 3) := by decide +kernel
theorem dX6_go_48 : decode cX6_go 48 = .ok (.if_icmp .ge 23, 3) := by decide +kernel
theorem dX6_go_51 : decode cX6_go 51 = .ok (.aload_n 0, 1) := by decide +kernel
theorem dX6_go_52 : decode cX6_go 52 = .ok (.getfield 7, 3) := by decide +kernel
theorem dX6_go_55 : decode cX6_go 55 = .ok (.iload_n 3, 1) := by decide +kernel
theorem dX6_go_56 : decode cX6_go 56 = .ok (.aload_n 0, 1) := by decide +kernel
theorem dX6_go_57 : decode cX6_go 57 = .ok (.getfield 7, 3) := by decide +kernel
theorem dX6_go_60 : decode cX6_go 60 = .ok (.iload_n 3, 1) := by decide +kernel
theorem dX6_go_61 : decode cX6_go 61 = .ok (.iconst 5, 1) := by decide +kernel
theorem dX6_go_62 : decode cX6_go 62 = .ok (.iadd, 1) := by decide +kernel
theorem dX6_go_63 : decode cX6_go 63 = .ok (.iaload, 1) := by decide +kernel
theorem dX6_go_64 : decode cX6_go 64 = .ok (.iastore, 1) := by decide +kernel
theorem dX6_go_65 : decode cX6_go 65 = .ok (.iinc 3 1, 3) := by decide +kernel
theorem dX6_go_68 : decode cX6_go 68 = .ok (.goto (-31), 3) := by decide +kernel
theorem dX6_go_71 : decode cX6_go 71 = .ok (.iconst 0, 1) := by decide +kernel
theorem dX6_go_72 : decode cX6_go 72 = .ok (.istore_n 3, 1) := by decide +kernel
theorem dX6_go_73 : decode cX6_go 73 = .ok (.iload_n 3, 1) := by decide +kernel
theorem dX6_go_74 : decode cX6_go 74 = .ok (.iconst 5, 1) := by decide +kernel
theorem dX6_go_75 : decode cX6_go 75 = .ok (.if_icmp .ge 25, 3) := by decide +kernel
theorem dX6_go_78 : decode cX6_go 78 = .ok (.aload_n 0, 1) := by decide +kernel
theorem dX6_go_79 : decode cX6_go 79 = .ok (.getfield 7, 3) := by decide +kernel
theorem dX6_go_82 : decode cX6_go 82 = .ok (.aload_n 0, 1) := by decide +kernel
theorem dX6_go_83 : decode cX6_go 83 = .ok (.getfield 7, 3) := by decide +kernel
end
section
theorem dX6_go_86 : decode cX6_go 86 = .ok (.iconst 1, 1) := by decide +kernel
theorem dX6_go_87 : decode cX6_go 87 = .ok (.iaload, 1) := by decide +kernel
theorem dX6_go_88 : decode cX6_go 88 = .ok (.iload_n 3, 1) := by decide +kernel
theorem dX6_go_89 : decode cX6_go 89 = .ok (.invokestatic 59, 3) := by decide +kernel
theorem dX6_go_92 : decode cX6_go 92 = .ok (.iconst 0, 1) := by decide +kernel
theorem dX6_go_93 : decode cX6_go 93 = .ok (.iastore, 1) := by decide +kernel
theorem dX6_go_94 : decode cX6_go 94 = .ok (.iinc 3 1, 3) := by decide +kernel
theorem dX6_go_97 : decode cX6_go 97 = .ok (.goto (-24), 3) := by decide +kernel
theorem dX6_go_100 : decode cX6_go 100 = .ok (.aload_n 0, 1) := by decide +kernel
theorem dX6_go_101 : decode cX6_go 101 = .ok (.getfield 7, 3) := by decide +kernel
theorem dX6_go_104 : decode cX6_go 104 = .ok (.bipush 9, 2) := by decide +kernel
theorem dX6_go_106 : decode cX6_go 106 = .ok (.aload_n 0, 1) := by decide +kernel
theorem dX6_go_107 : decode cX6_go 107 = .ok (.getfield 7, 3) := by decide +kernel
theorem dX6_go_110 : decode cX6_go 110 = .ok (.bipush 9, 2) := by decide +kernel
theorem dX6_go_112 : decode cX6_go 112 = .ok (.iaload, 1) := by decide +kernel
theorem dX6_go_113 : decode cX6_go 113 = .ok (.iload_n 1, 1) := by decide +kernel
theorem dX6_go_114 : decode cX6_go 114 = .ok (.if_icmp .ne 8, 3) := by decide +kernel
theorem dX6_go_117 : decode cX6_go 117 = .ok (.bipush (-4), 2) := by decide +kernel
theorem dX6_go_119 : decode cX6_go 119 = .ok (.goto 33, 3) := by decide +kernel
theorem dX6_go_122 : decode cX6_go 122 = .ok (.aload_n 0, 1) := by decide +kernel
theorem dX6_go_123 : decode cX6_go 123 = .ok (.getfield 7, 3) := by decide +kernel
theorem dX6_go_126 : decode cX6_go 126 = .ok (.bipush 9, 2) := by decide +kernel
theorem dX6_go_128 : decode cX6_go 128 = .ok (.iaload, 1) := by decide +kernel
theorem dX6_go_129 : decode cX6_go 129 = .ok (.iload_n 1, 1) := by decide +kernel
theorem dX6_go_130 : decode cX6_go 130 = .ok (.if_icmp .le 15, 3) := by decide +kernel
theorem dX6_go_133 : decode cX6_go 133 = .ok (.aload_n 0, 1) := by decide +kernel
theorem dX6_go_134 : decode cX6_go 134 = .ok (.getfield 7, 3) := by decide +kernel
theorem dX6_go_137 : decode cX6_go 137 = .ok (.bipush 9, 2) := by decide +kernel
theorem dX6_go_139 : decode cX6_go 139 = .ok (.iaload, 1) := by decide +kernel
theorem dX6_go_140 : decode cX6_go 140 = .ok (.iconst 1, 1) := by decide +kernel
theorem dX6_go_141 : decode cX6_go 141 = .ok (.isub, 1) := by decide +kernel
theorem dX6_go_142 : decode cX6_go 142 = .ok (.goto 10, 3) := by decide +kernel
theorem dX6_go_145 : decode cX6_go 145 = .ok (.aload_n 0, 1) := by decide +kernel
theorem dX6_go_146 : decode cX6_go 146 = .ok (.getfield 7, 3) := by decide +kernel
theorem dX6_go_149 : decode cX6_go 149 = .ok (.bipush 9, 2) := by decide +kernel
theorem dX6_go_151 : decode cX6_go 151 = .ok (.iaload, 1) := by decide +kernel
theorem dX6_go_152 : decode cX6_go 152 = .ok (.iastore, 1) := by decide +kernel
theorem dX6_go_153 : decode cX6_go 153 = .ok (.iload_n 2, 1) := by decide +kernel
theorem dX6_go_154 : decode cX6_go 154 = .ok (.ireturn, 1) := by decide +kernel
theorem dX6_lays_0 : decode cX6_lays 0 = .ok (.aload_n 0, 1) := by decide +kernel
theorem dX6_lays_1 : decode cX6_lays 1 = .ok (.invokevirtual 108, 3) := by decide +kernel
theorem dX6_lays_4 : decode cX6_lays 4 = .ok (.aload_n 0, 1) := by decide +kernel
theorem dX6_lays_5 : decode cX6_lays 5 = .ok (.getfield 7, 3) := by decide +kernel
theorem dX6_lays_8 : decode cX6_lays 8 = .ok (.iload_n 1, 1) := by decide +kernel
theorem dX6_lays_9 : decode cX6_lays 9 = .ok (.iaload, 1) := by decide +kernel
theorem dX6_lays_10 : decode cX6_lays 10 = .ok (.istore_n 3, 1) := by decide +kernel
theorem dX6_lays_11 : decode cX6_lays 11 = .ok (.aload_n 0, 1) := by decide +kernel
theorem dX6_lays_12 : decode cX6_lays 12 = .ok (.getfield 7, 3) := by decide +kernel
theorem dX6_lays_15 : decode cX6_lays 15 = .ok (.iload_n 1, 1) := by decide +kernel
theorem dX6_lays_16 : decode cX6_lays 16 = .ok (.iload_n 2, 1) := by decide +kernel
theorem dX6_lays_17 : decode cX6_lays 17 = .ok (.iastore, 1) := by decide +kernel
theorem dX6_lays_18 : decode cX6_lays 18 = .ok (.iload_n 3, 1) := by decide +kernel
theorem dX6_lays_19 : decode cX6_lays 19 = .ok (.ireturn, 1) := by decide +kernel
theorem dX6_want_0 : decode cX6_want 0 = .ok (.aload_n 0, 1) := by decide +kernel
theorem dX6_want_1 : decode cX6_want 1 = .ok (.iload_n 1, 1) := by decide +kernel
theorem dX6_want_2 : decode cX6_want 2 = .ok (.invokevirtual 55, 3) := by decide +kernel
theorem dX6_want_5 : decode cX6_want 5 = .ok (.ifCond .eq 26, 3) := by decide +kernel
theorem dX6_want_8 : decode cX6_want 8 = .ok (.iload_n 2, 1) := by decide +kernel
theorem dX6_want_9 : decode cX6_want 9 = .ok (.iconst 0, 1) := by decide +kernel
theorem dX6_want_10 : decode cX6_want 10 = .ok (.bipush 63, 2) := by decide +kernel
theorem dX6_want_12 : decode cX6_want 12 = .ok (.invokestatic 51, 3) := by decide +kernel
theorem dX6_want_15 : decode cX6_want 15 = .ok (.ifCond .eq 16, 3) := by decide +kernel
theorem dX6_want_18 : decode cX6_want 18 = .ok (.aload_n 0, 1) := by decide +kernel
theorem dX6_want_19 : decode cX6_want 19 = .ok (.iload_n 1, 1) := by decide +kernel
theorem dX6_want_20 : decode cX6_want 20 = .ok (.iconst 1, 1) := by decide +kernel
theorem dX6_want_21 : decode cX6_want 21 = .ok (.invokestatic 59, 3) := by decide +kernel
theorem dX6_want_24 : decode cX6_want 24 = .ok (.iload_n 2, 1) := by decide +kernel
theorem dX6_want_25 : decode cX6_want 25 = .ok (.invokevirtual 114, 3) := by decide +kernel
theorem dX6_want_28 : decode cX6_want 28 = .ok (.goto 4, 3) := by decide +kernel
theorem dX6_want_31 : decode cX6_want 31 = .ok (.iconst (-1), 1) := by decide +kernel
theorem dX6_want_32 : decode cX6_want 32 = .ok (.ireturn, 1) := by decide +kernel
theorem dX6_life_0 : decode cX6_life 0 = .ok (.iload_n 1, 1) := by decide +kernel
theorem dX6_life_1 : decode cX6_life 1 = .ok (.invokestatic 105, 3) := by decide +kernel
theorem dX6_life_4 : decode cX6_life 4 = .ok (.ifCond .eq 26, 3) := by decide +kernel
theorem dX6_life_7 : decode cX6_life 7 = .ok (.iload_n 2, 1) := by decide +kernel
theorem dX6_life_8 : decode cX6_life 8 = .ok (.iconst 1, 1) := by decide +kernel
theorem dX6_life_9 : decode cX6_life 9 = .ok (.bipush 9, 2) := by decide +kernel
theorem dX6_life_11 : decode cX6_life 11 = .ok (.invokestatic 51, 3) := by decide +kernel
theorem dX6_life_14 : decode cX6_life 14 = .ok (.ifCond .eq 16, 3) := by decide +kernel
theorem dX6_life_17 : decode cX6_life 17 = .ok (.aload_n 0, 1) := by decide +kernel
theorem dX6_life_18 : decode cX6_life 18 = .ok (.iload_n 1, 1) := by decide +kernel
theorem dX6_life_19 : decode cX6_life 19 = .ok (.iconst 0, 1) := by decide +kernel
theorem dX6_life_20 : decode cX6_life 20 = .ok (.invokestatic 47, 3) := by decide +kernel
theorem dX6_life_23 : decode cX6_life 23 = .ok (.iload_n 2, 1) := by decide +kernel
theorem dX6_life_24 : decode cX6_life 24 = .ok (.invokevirtual 114, 3) := by decide +kernel
theorem dX6_life_27 : decode cX6_life 27 = .ok (.goto 4, 3) := by decide +kernel
theorem dX6_life_30 : decode cX6_life 30 = .ok (.iconst (-1), 1) := by decide +kernel
theorem dX6_life_31 : decode cX6_life 31 = .ok (.ireturn, 1) := by decide +kernel
theorem dX6_circle_0 : decode cX6_circle 0 = .ok (.iload_n 1, 1) := by decide +kernel
theorem dX6_circle_1 : decode cX6_circle 1 = .ok (.iconst 2, 1) := by decide +kernel
theorem dX6_circle_2 : decode cX6_circle 2 = .ok (.bipush 7, 2) := by decide +kernel
theorem dX6_circle_4 : decode cX6_circle 4 = .ok (.invokestatic 51, 3) := by decide +kernel
theorem dX6_circle_7 : decode cX6_circle 7 = .ok (.ifCond .eq 13, 3) := by decide +kernel
theorem dX6_circle_10 : decode cX6_circle 10 = .ok (.aload_n 0, 1) := by decide +kernel
theorem dX6_circle_11 : decode cX6_circle 11 = .ok (.bipush 7, 2) := by decide +kernel
theorem dX6_circle_13 : decode cX6_circle 13 = .ok (.iload_n 1, 1) := by decide +kernel
theorem dX6_circle_14 : decode cX6_circle 14 = .ok (.invokevirtual 114, 3) := by decide +kernel
theorem dX6_circle_17 : decode cX6_circle 17 = .ok (.goto 4, 3) := by decide +kernel
theorem dX6_circle_20 : decode cX6_circle 20 = .ok (.iconst (-1), 1) := by decide +kernel
theorem dX6_circle_21 : decode cX6_circle 21 = .ok (.ireturn, 1) := by decide +kernel
theorem dX6_lot_0 : decode cX6_lot 0 = .ok (.iload_n 1, 1) := by decide +kernel
theorem dX6_lot_1 : decode cX6_lot 1 = .ok (.iconst 0, 1) := by decide +kernel
theorem dX6_lot_2 : decode cX6_lot 2 = .ok (.sipush 9999, 3) := by decide +kernel
theorem dX6_lot_5 : decode cX6_lot 5 = .ok (.invokestatic 51, 3) := by decide +kernel
theorem dX6_lot_8 : decode cX6_lot 8 = .ok (.ifCond .eq 13, 3) := by decide +kernel
theorem dX6_lot_11 : decode cX6_lot 11 = .ok (.aload_n 0, 1) := by decide +kernel
theorem dX6_lot_12 : decode cX6_lot 12 = .ok (.bipush 8, 2) := by decide +kernel
theorem dX6_lot_14 : decode cX6_lot 14 = .ok (.iload_n 1, 1) := by decide +kernel
theorem dX6_lot_15 : decode cX6_lot 15 = .ok (.invokevirtual 114, 3) := by decide +kernel
theorem dX6_lot_18 : decode cX6_lot 18 = .ok (.goto 4, 3) := by decide +kernel
theorem dX6_lot_21 : decode cX6_lot 21 = .ok (.iconst (-1), 1) := by decide +kernel
theorem dX6_lot_22 : decode cX6_lot 22 = .ok (.ireturn, 1) := by decide +kernel
theorem dX6_barter_0 : decode cX6_barter 0 = .ok (.aload_n 0, 1) := by decide +kernel
theorem dX6_barter_1 : decode cX6_barter 1 = .ok (.iload_n 1, 1) := by decide +kernel
theorem dX6_barter_2 : decode cX6_barter 2 = .ok (.iload_n 2, 1) := by decide +kernel
theorem dX6_barter_3 : decode cX6_barter 3 = .ok (.invokevirtual 117, 3) := by decide +kernel
theorem dX6_barter_6 : decode cX6_barter 6 = .ok (.ifCond .ne 5, 3) := by decide +kernel
theorem dX6_barter_9 : decode cX6_barter 9 = .ok (.iconst (-1), 1) := by decide +kernel
theorem dX6_barter_10 : decode cX6_barter 10 = .ok (.ireturn, 1) := by decide +kernel
theorem dX6_barter_11 : decode cX6_barter 11 = .ok (.aload_n 0, 1) := by decide +kernel
theorem dX6_barter_12 : decode cX6_barter 12 = .ok (.invokevirtual 108, 3) := by decide +kernel
theorem dX6_barter_15 : decode cX6_barter 15 = .ok (.aload_n 0, 1) := by decide +kernel
theorem dX6_barter_16 : decode cX6_barter 16 = .ok (.iload_n 1, 1) := by decide +kernel
theorem dX6_barter_17 : decode cX6_barter 17 = .ok (.iload_n 2, 1) := by decide +kernel
theorem dX6_barter_18 : decode cX6_barter 18 = .ok (.invokevirtual 120, 3) := by decide +kernel
theorem dX6_barter_21 : decode cX6_barter 21 = .ok (.ireturn, 1) := by decide +kernel
theorem dX6_call_0 : decode cX6_call 0 = .ok (.aload_n 0, 1) := by decide +kernel
theorem dX6_call_1 : decode cX6_call 1 = .ok (.invokevirtual 108, 3) := by decide +kernel
theorem dX6_call_4 : decode cX6_call 4 = .ok (.aload_n 0, 1) := by decide +kernel
theorem dX6_call_5 : decode cX6_call 5 = .ok (.invokevirtual 123, 3) := by decide +kernel
theorem dX6_call_8 : decode cX6_call 8 = .ok (.ireturn, 1) := by decide +kernel
theorem dX6_day_0 : decode cX6_day 0 = .ok (.aload_n 0, 1) := by decide +kernel
theorem dX6_day_1 : decode cX6_day 1 = .ok (.invokevirtual 108, 3) := by decide +kernel
theorem dX6_day_4 : decode cX6_day 4 = .ok (.aload_n 0, 1) := by decide +kernel
theorem dX6_day_5 : decode cX6_day 5 = .ok (.invokevirtual 127, 3) := by decide +kernel
theorem dX6_day_8 : decode cX6_day 8 = .ok (.ireturn, 1) := by decide +kernel
theorem dX6_append_0 : decode cX6_append 0 = .ok (.iload_n 1, 1) := by decide +kernel
theorem dX6_append_1 : decode cX6_append 1 = .ok (.bipush 33, 2) := by decide +kernel
theorem dX6_append_3 : decode cX6_append 3 = .ok (.bipush 126, 2) := by decide +kernel
theorem dX6_append_5 : decode cX6_append 5 = .ok (.invokestatic 51, 3) := by decide +kernel
theorem dX6_append_8 : decode cX6_append 8 = .ok (.ifCond .ne 5, 3) := by decide +kernel
theorem dX6_append_11 : decode cX6_append 11 = .ok (.iconst (-1), 1) := by decide +kernel
theorem dX6_append_12 : decode cX6_append 12 = .ok (.ireturn, 1) := by decide +kernel
theorem dX6_append_13 : decode cX6_append 13 = .ok (.aload_n 0, 1) := by decide +kernel
theorem dX6_append_14 : decode cX6_append 14 = .ok (.getfield 130, 3) := by decide +kernel
theorem dX6_append_17 : decode cX6_append 17 = .ok (.bipush 60, 2) := by decide +kernel
theorem dX6_append_19 : decode cX6_append 19 = .ok (.if_icmp .ne 6, 3) := by decide +kernel
theorem dX6_append_22 : decode cX6_append 22 = .ok (.bipush (-3), 2) := by decide +kernel
theorem dX6_append_24 : decode cX6_append 24 = .ok (.ireturn, 1) := by decide +kernel
theorem dX6_append_25 : decode cX6_append 25 = .ok (.aload_n 0, 1) := by decide +kernel
theorem dX6_append_26 : decode cX6_append 26 = .ok (.getfield 22, 3) := by decide +kernel
theorem dX6_append_29 : decode cX6_append 29 = .ok (.aload_n 0, 1) := by decide +kernel
theorem dX6_append_30 : decode cX6_append 30 = .ok (.getfield 130, 3) := by decide +kernel
theorem dX6_append_33 : decode cX6_append 33 = .ok (.iload_n 1, 1) := by decide +kernel
theorem dX6_append_34 : decode cX6_append 34 = .ok (.iastore, 1) := by decide +kernel
theorem dX6_append_35 : decode cX6_append 35 = .ok (.aload_n 0, 1) := by decide +kernel
theorem dX6_append_36 : decode cX6_append 36 = .ok (.dup, 1) := by decide +kernel
theorem dX6_append_37 : decode cX6_append 37 = .ok (.getfield 130, 3) := by decide +kernel
theorem dX6_append_40 : decode cX6_append 40 = .ok (.iconst 1, 1) := by decide +kernel
theorem dX6_append_41 : decode cX6_append 41 = .ok (.iadd, 1) := by decide +kernel
theorem dX6_append_42 : decode cX6_append 42 = .ok (.putfield 130, 3) := by decide +kernel
theorem dX6_append_45 : decode cX6_append 45 = .ok (.aload_n 0, 1) := by decide +kernel
theorem dX6_append_46 : decode cX6_append 46 = .ok (.getfield 130, 3) := by decide +kernel
theorem dX6_append_49 : decode cX6_append 49 = .ok (.ireturn, 1) := by decide +kernel
theorem dX6_clear_0 : decode cX6_clear 0 = .ok (.aload_n 0, 1) := by decide +kernel
theorem dX6_clear_1 : decode cX6_clear 1 = .ok (.getfield 130, 3) := by decide +kernel
theorem dX6_clear_4 : decode cX6_clear 4 = .ok (.istore_n 1, 1) := by decide +kernel
theorem dX6_clear_5 : decode cX6_clear 5 = .ok (.aload_n 0, 1) := by decide +kernel
theorem dX6_clear_6 : decode cX6_clear 6 = .ok (.iconst 0, 1) := by decide +kernel
theorem dX6_clear_7 : decode cX6_clear 7 = .ok (.putfield 130, 3) := by decide +kernel
theorem dX6_clear_10 : decode cX6_clear 10 = .ok (.iload_n 1, 1) := by decide +kernel
theorem dX6_clear_11 : decode cX6_clear 11 = .ok (.ireturn, 1) := by decide +kernel
theorem dX6_next_0 : decode cX6_next 0 = .ok (.iload_n 1, 1) := by decide +kernel
theorem dX6_next_1 : decode cX6_next 1 = .ok (.aload_n 0, 1) := by decide +kernel
theorem dX6_next_2 : decode cX6_next 2 = .ok (.getfield 130, 3) := by decide +kernel
theorem dX6_next_5 : decode cX6_next 5 = .ok (.if_icmp .ge 12, 3) := by decide +kernel
theorem dX6_next_8 : decode cX6_next 8 = .ok (.aload_n 0, 1) := by decide +kernel
theorem dX6_next_9 : decode cX6_next 9 = .ok (.getfield 22, 3) := by decide +kernel
theorem dX6_next_12 : decode cX6_next 12 = .ok (.iload_n 1, 1) := by decide +kernel
theorem dX6_next_13 : decode cX6_next 13 = .ok (.iaload, 1) := by decide +kernel
theorem dX6_next_14 : decode cX6_next 14 = .ok (.goto 4, 3) := by decide +kernel
theorem dX6_next_17 : decode cX6_next 17 = .ok (.iconst 0, 1) := by decide +kernel
theorem dX6_next_18 : decode cX6_next 18 = .ok (.ireturn, 1) := by decide +kernel
theorem dX6_behindTrader_0 : decode cX6_behindTrader 0 = .ok (.aload_n 0, 1) := by decide +kernel
theorem dX6_behindTrader_1 : decode cX6_behindTrader 1 = .ok (.iload_n 1, 1) := by decide +kernel
theorem dX6_behindTrader_2 : decode cX6_behindTrader 2 = .ok (.invokevirtual 133, 3) := by decide +kernel
theorem dX6_behindTrader_5 : decode cX6_behindTrader 5 = .ok (.bipush 48, 2) := by decide +kernel
theorem dX6_behindTrader_7 : decode cX6_behindTrader 7 = .ok (.bipush 53, 2) := by decide +kernel
theorem dX6_behindTrader_9 : decode cX6_behindTrader 9 = .ok (.invokestatic 51, 3) := by decide +kernel
theorem dX6_behindTrader_12 : decode cX6_behindTrader 12 = .ok (.ifCond .ne 7, 3) := by decide +kernel
theorem dX6_behindTrader_15 : decode cX6_behindTrader 15 = .ok (.iconst (-1), 1) := by decide +kernel
theorem dX6_behindTrader_16 : decode cX6_behindTrader 16 = .ok (.iload_n 1, 1) := by decide +kernel
theorem dX6_behindTrader_17 : decode cX6_behindTrader 17 = .ok (.isub, 1) := by decide +kernel
theorem dX6_behindTrader_18 : decode cX6_behindTrader 18 = .ok (.ireturn, 1) := by decide +kernel
theorem dX6_behindTrader_19 : decode cX6_behindTrader 19 = .ok (.aload_n 0, 1) := by decide +kernel
theorem dX6_behindTrader_20 : decode cX6_behindTrader 20 = .ok (.iload_n 1, 1) := by decide +kernel
theorem dX6_behindTrader_21 : decode cX6_behindTrader 21 = .ok (.iconst 1, 1) := by decide +kernel
theorem dX6_behindTrader_22 : decode cX6_behindTrader 22 = .ok (.iadd, 1) := by decide +kernel
theorem dX6_behindTrader_23 : decode cX6_behindTrader 23 = .ok (.invokevirtual 133, 3) := by decide +kernel
theorem dX6_behindTrader_26 : decode cX6_behindTrader 26 = .ok (.bipush 62, 2) := by decide +kernel
theorem dX6_behindTrader_28 : decode cX6_behindTrader 28 = .ok (.if_icmp .eq 8, 3) := by decide +kernel
theorem dX6_behindTrader_31 : decode cX6_behindTrader 31 = .ok (.bipush (-2), 2) := by decide +kernel
theorem dX6_behindTrader_33 : decode cX6_behindTrader 33 = .ok (.iload_n 1, 1) := by decide +kernel
theorem dX6_behindTrader_34 : decode cX6_behindTrader 34 = .ok (.isub, 1) := by decide +kernel
theorem dX6_behindTrader_35 : decode cX6_behindTrader 35 = .ok (.ireturn, 1) := by decide +kernel
theorem dX6_behindTrader_36 : decode cX6_behindTrader 36 = .ok (.iload_n 1, 1) := by decide +kernel
theorem dX6_behindTrader_37 : decode cX6_behindTrader 37 = .ok (.iconst 2, 1) := by decide +kernel
theorem dX6_behindTrader_38 : decode cX6_behindTrader 38 = .ok (.iadd, 1) := by decide +kernel
theorem dX6_behindTrader_39 : decode cX6_behindTrader 39 = .ok (.istore_n 2, 1) := by decide +kernel
theorem dX6_behindTrader_40 : decode cX6_behindTrader 40 = .ok (.bipush 48, 2) := by decide +kernel
theorem dX6_behindTrader_42 : decode cX6_behindTrader 42 = .ok (.istore_n 3, 1) := by decide +kernel
theorem dX6_behindTrader_43 : decode cX6_behindTrader 43 = .ok (.aload_n 0, 1) := by decide +kernel
theorem dX6_behindTrader_44 : decode cX6_behindTrader 44 = .ok (.iload_n 2, 1) := by decide +kernel
theorem dX6_behindTrader_45 : decode cX6_behindTrader 45 = .ok (.invokevirtual 133, 3) := by decide +kernel
theorem dX6_behindTrader_48 : decode cX6_behindTrader 48 = .ok (.iload_n 3, 1) := by decide +kernel
theorem dX6_behindTrader_49 : decode cX6_behindTrader 49 = .ok (.bipush 53, 2) := by decide +kernel
theorem dX6_behindTrader_51 : decode cX6_behindTrader 51 = .ok (.invokestatic 51, 3) := by decide +kernel
theorem dX6_behindTrader_54 : decode cX6_behindTrader 54 = .ok (.ifCond .eq 17, 3) := by decide +kernel
theorem dX6_behindTrader_57 : decode cX6_behindTrader 57 = .ok (.aload_n 0, 1) := by decide +kernel
theorem dX6_behindTrader_58 : decode cX6_behindTrader 58 = .ok (.iload_n 2, 1) := by decide +kernel
theorem dX6_behindTrader_59 : decode cX6_behindTrader 59 = .ok (.invokevirtual 133, 3) := by decide +kernel
theorem dX6_behindTrader_62 : decode cX6_behindTrader 62 = .ok (.iconst 1, 1) := by decide +kernel
theorem dX6_behindTrader_63 : decode cX6_behindTrader 63 = .ok (.iadd, 1) := by decide +kernel
theorem dX6_behindTrader_64 : decode cX6_behindTrader 64 = .ok (.istore_n 3, 1) := by decide +kernel
theorem dX6_behindTrader_65 : decode cX6_behindTrader 65 = .ok (.iinc 2 1, 3) := by decide +kernel
theorem dX6_behindTrader_68 : decode cX6_behindTrader 68 = .ok (.goto (-25), 3) := by decide +kernel
theorem dX6_behindTrader_71 : decode cX6_behindTrader 71 = .ok (.iload_n 2, 1) := by decide +kernel
theorem dX6_behindTrader_72 : decode cX6_behindTrader 72 = .ok (.iload_n 1, 1) := by decide +kernel
theorem dX6_behindTrader_73 : decode cX6_behindTrader 73 = .ok (.iconst 2, 1) := by decide +kernel
theorem dX6_behindTrader_74 : decode cX6_behindTrader 74 = .ok (.iadd, 1) := by decide +kernel
theorem dX6_behindTrader_75 : decode cX6_behindTrader 75 = .ok (.if_icmp .ne 9, 3) := by decide +kernel
theorem dX6_behindTrader_78 : decode cX6_behindTrader 78 = .ok (.iconst (-1), 1) := by decide +kernel
theorem dX6_behindTrader_79 : decode cX6_behindTrader 79 = .ok (.iload_n 2, 1) := by decide +kernel
theorem dX6_behindTrader_80 : decode cX6_behindTrader 80 = .ok (.isub, 1) := by decide +kernel
theorem dX6_behindTrader_81 : decode cX6_behindTrader 81 = .ok (.goto 4, 3) := by decide +kernel
theorem dX6_behindTrader_84 : decode cX6_behindTrader 84 = .ok (.iload_n 2, 1) := by decide +kernel
theorem dX6_behindTrader_85 : decode cX6_behindTrader 85 = .ok (.ireturn, 1) := by decide +kernel
theorem dX6_faultOfTraders_0 : decode cX6_faultOfTraders 0 = .ok (.iconst 0, 1) := by decide +kernel
theorem dX6_faultOfTraders_1 : decode cX6_faultOfTraders 1 = .ok (.istore_n 1, 1) := by decide +kernel
theorem dX6_faultOfTraders_2 : decode cX6_faultOfTraders 2 = .ok (.aload_n 0, 1) := by decide +kernel
theorem dX6_faultOfTraders_3 : decode cX6_faultOfTraders 3 = .ok (.iconst 0, 1) := by decide +kernel
theorem dX6_faultOfTraders_4 : decode cX6_faultOfTraders 4 = .ok (.putfield 136, 3) := by decide +kernel
theorem dX6_faultOfTraders_7 : decode cX6_faultOfTraders 7 = .ok (.iconst 1, 1) := by decide +kernel
theorem dX6_faultOfTraders_8 : decode cX6_faultOfTraders 8 = .ok (.istore_n 2, 1) := by decide +kernel
theorem dX6_faultOfTraders_9 : decode cX6_faultOfTraders 9 = .ok (.iload_n 2, 1) := by decide +kernel
theorem dX6_faultOfTraders_10 : decode cX6_faultOfTraders 10 = .ok (.ifCond .eq 73, 3) := by decide +kernel
theorem dX6_faultOfTraders_13 : decode cX6_faultOfTraders 13 = .ok (.aload_n 0, 1) := by decide +kernel
theorem dX6_faultOfTraders_14 : decode cX6_faultOfTraders 14 = .ok (.iload_n 1, 1) := by decide +kernel
theorem dX6_faultOfTraders_15 : decode cX6_faultOfTraders 15 = .ok (.invokevirtual 139, 3) := by decide +kernel
theorem dX6_faultOfTraders_18 : decode cX6_faultOfTraders 18 = .ok (.istore_n 1, 1) := by decide +kernel
theorem dX6_faultOfTraders_19 : decode cX6_faultOfTraders 19 = .ok (.iload_n 1, 1) := by decide +kernel
theorem dX6_faultOfTraders_20 : decode cX6_faultOfTraders 20 = .ok (.ifCond .ge 7, 3) := by decide +kernel
theorem dX6_faultOfTraders_23 : decode cX6_faultOfTraders 23 = .ok (.iconst (-1), 1) := by decide +kernel
theorem dX6_faultOfTraders_24 : decode cX6_faultOfTraders 24 = .ok (.iload_n 1, 1) := by decide +kernel
theorem dX6_faultOfTraders_25 : decode cX6_faultOfTraders 25 = .ok (.isub, 1) := by decide +kernel
theorem dX6_faultOfTraders_26 : decode cX6_faultOfTraders 26 = .ok (.ireturn, 1) := by decide +kernel
theorem dX6_faultOfTraders_27 : decode cX6_faultOfTraders 27 = .ok (.aload_n 0, 1) := by decide +kernel
theorem dX6_faultOfTraders_28 : decode cX6_faultOfTraders 28 = .ok (.dup, 1) := by decide +kernel
theorem dX6_faultOfTraders_29 : decode cX6_faultOfTraders 29 = .ok (.getfield 136, 3) := by decide +kernel
theorem dX6_faultOfTraders_32 : decode cX6_faultOfTraders 32 = .ok (.iconst 1, 1) := by decide +kernel
theorem dX6_faultOfTraders_33 : decode cX6_faultOfTraders 33 = .ok (.iadd, 1) := by decide +kernel
theorem dX6_faultOfTraders_34 : decode cX6_faultOfTraders 34 = .ok (.putfield 136, 3) := by decide +kernel
theorem dX6_faultOfTraders_37 : decode cX6_faultOfTraders 37 = .ok (.iload_n 1, 1) := by decide +kernel
theorem dX6_faultOfTraders_38 : decode cX6_faultOfTraders 38 = .ok (.aload_n 0, 1) := by decide +kernel
theorem dX6_faultOfTraders_39 : decode cX6_faultOfTraders 39 = .ok (.getfield 130, 3) := by decide +kernel
theorem dX6_faultOfTraders_42 : decode cX6_faultOfTraders 42 = .ok (.if_icmp .ge 7, 3) := by decide +kernel
theorem dX6_faultOfTraders_45 : decode cX6_faultOfTraders 45 = .ok (.iconst 1, 1) := by decide +kernel
theorem dX6_faultOfTraders_46 : decode cX6_faultOfTraders 46 = .ok (.goto 4, 3) := by decide +kernel
theorem dX6_faultOfTraders_49 : decode cX6_faultOfTraders 49 = .ok (.iconst 0, 1) := by decide +kernel
theorem dX6_faultOfTraders_50 : decode cX6_faultOfTraders 50 = .ok (.istore_n 2, 1) := by decide +kernel
theorem dX6_faultOfTraders_51 : decode cX6_faultOfTraders 51 = .ok (.iload_n 2, 1) := by decide +kernel
theorem dX6_faultOfTraders_52 : decode cX6_faultOfTraders 52 = .ok (.ifCond .eq 16, 3) := by decide +kernel
theorem dX6_faultOfTraders_55 : decode cX6_faultOfTraders 55 = .ok (.aload_n 0, 1) := by decide +kernel
theorem dX6_faultOfTraders_56 : decode cX6_faultOfTraders 56 = .ok (.getfield 22, 3) := by decide +kernel
theorem dX6_faultOfTraders_59 : decode cX6_faultOfTraders 59 = .ok (.iload_n 1, 1) := by decide +kernel
theorem dX6_faultOfTraders_60 : decode cX6_faultOfTraders 60 = .ok (.iaload, 1) := by decide +kernel
theorem dX6_faultOfTraders_61 : decode cX6_faultOfTraders 61 = .ok (.bipush 44, 2) := by decide +kernel
theorem dX6_faultOfTraders_63 : decode cX6_faultOfTraders 63 = .ok (.if_icmp .eq 5, 3) := by decide +kernel
theorem dX6_faultOfTraders_66 : decode cX6_faultOfTraders 66 = .ok (.iload_n 1, 1) := by decide +kernel
theorem dX6_faultOfTraders_67 : decode cX6_faultOfTraders 67 = .ok (.ireturn, 1) := by decide +kernel
theorem dX6_faultOfTraders_68 : decode cX6_faultOfTraders 68 = .ok (.iload_n 1, 1) := by decide +kernel
theorem dX6_faultOfTraders_69 : decode cX6_faultOfTraders 69 = .ok (.iload_n 2, 1) := by decide +kernel
theorem dX6_faultOfTraders_70 : decode cX6_faultOfTraders 70 = .ok (.ifCond .eq 7, 3) := by decide +kernel
theorem dX6_faultOfTraders_73 : decode cX6_faultOfTraders 73 = .ok (.iconst 1, 1) := by decide +kernel
theorem dX6_faultOfTraders_74 : decode cX6_faultOfTraders 74 = .ok (.goto 4, 3) := by decide +kernel
theorem dX6_faultOfTraders_77 : decode cX6_faultOfTraders 77 = .ok (.iconst 0, 1) := by decide +kernel
theorem dX6_faultOfTraders_78 : decode cX6_faultOfTraders 78 = .ok (.iadd, 1) := by decide +kernel
theorem dX6_faultOfTraders_79 : decode cX6_faultOfTraders 79 = .ok (.istore_n 1, 1) := by decide +kernel
theorem dX6_faultOfTraders_80 : decode cX6_faultOfTraders 80 = .ok (.goto (-71), 3) := by decide +kernel
theorem dX6_faultOfTraders_83 : decode cX6_faultOfTraders 83 = .ok (.bipush (-4), 2) := by decide +kernel
theorem dX6_faultOfTraders_85 : decode cX6_faultOfTraders 85 = .ok (.ireturn, 1) := by decide +kernel
theorem dX6_faultOfDays_0 : decode cX6_faultOfDays 0 = .ok (.iconst 0, 1) := by decide +kernel
theorem dX6_faultOfDays_1 : decode cX6_faultOfDays 1 = .ok (.istore_n 1, 1) := by decide +kernel
theorem dX6_faultOfDays_2 : decode cX6_faultOfDays 2 = .ok (.iload_n 1, 1) := by decide +kernel
theorem dX6_faultOfDays_3 : decode cX6_faultOfDays 3 = .ok (.aload_n 0, 1) := by decide +kernel
theorem dX6_faultOfDays_4 : decode cX6_faultOfDays 4 = .ok (.getfield 130, 3) := by decide +kernel
theorem dX6_faultOfDays_7 : decode cX6_faultOfDays 7 = .ok (.if_icmp .ge 104, 3) := by decide +kernel
theorem dX6_faultOfDays_10 : decode cX6_faultOfDays 10 = .ok (.aload_n 0, 1) := by decide +kernel
theorem dX6_faultOfDays_11 : decode cX6_faultOfDays 11 = .ok (.getfield 22, 3) := by decide +kernel
theorem dX6_faultOfDays_14 : decode cX6_faultOfDays 14 = .ok (.iload_n 1, 1) := by decide +kernel
theorem dX6_faultOfDays_15 : decode cX6_faultOfDays 15 = .ok (.iaload, 1) := by decide +kernel
theorem dX6_faultOfDays_16 : decode cX6_faultOfDays 16 = .ok (.istore_n 2, 1) := by decide +kernel
theorem dX6_faultOfDays_17 : decode cX6_faultOfDays 17 = .ok (.iload_n 2, 1) := by decide +kernel
theorem dX6_faultOfDays_18 : decode cX6_faultOfDays 18 = .ok (.bipush 120, 2) := by decide +kernel
theorem dX6_faultOfDays_20 : decode cX6_faultOfDays 20 = .ok (.if_icmp .ne 68, 3) := by decide +kernel
theorem dX6_faultOfDays_23 : decode cX6_faultOfDays 23 = .ok (.aload_n 0, 1) := by decide +kernel
theorem dX6_faultOfDays_24 : decode cX6_faultOfDays 24 = .ok (.iload_n 1, 1) := by decide +kernel
theorem dX6_faultOfDays_25 : decode cX6_faultOfDays 25 = .ok (.iconst 1, 1) := by decide +kernel
theorem dX6_faultOfDays_26 : decode cX6_faultOfDays 26 = .ok (.iadd, 1) := by decide +kernel
theorem dX6_faultOfDays_27 : decode cX6_faultOfDays 27 = .ok (.invokevirtual 133, 3) := by decide +kernel
theorem dX6_faultOfDays_30 : decode cX6_faultOfDays 30 = .ok (.bipush 48, 2) := by decide +kernel
theorem dX6_faultOfDays_32 : decode cX6_faultOfDays 32 = .ok (.bipush 54, 2) := by decide +kernel
theorem dX6_faultOfDays_34 : decode cX6_faultOfDays 34 = .ok (.invokestatic 51, 3) := by decide +kernel
theorem dX6_faultOfDays_37 : decode cX6_faultOfDays 37 = .ok (.ifCond .ne 7, 3) := by decide +kernel
theorem dX6_faultOfDays_40 : decode cX6_faultOfDays 40 = .ok (.iload_n 1, 1) := by decide +kernel
theorem dX6_faultOfDays_41 : decode cX6_faultOfDays 41 = .ok (.iconst 1, 1) := by decide +kernel
theorem dX6_faultOfDays_42 : decode cX6_faultOfDays 42 = .ok (.iadd, 1) := by decide +kernel
theorem dX6_faultOfDays_43 : decode cX6_faultOfDays 43 = .ok (.ireturn, 1) := by decide +kernel
theorem dX6_faultOfDays_44 : decode cX6_faultOfDays 44 = .ok (.aload_n 0, 1) := by decide +kernel
theorem dX6_faultOfDays_45 : decode cX6_faultOfDays 45 = .ok (.iload_n 1, 1) := by decide +kernel
theorem dX6_faultOfDays_46 : decode cX6_faultOfDays 46 = .ok (.iconst 2, 1) := by decide +kernel
theorem dX6_faultOfDays_47 : decode cX6_faultOfDays 47 = .ok (.iadd, 1) := by decide +kernel
theorem dX6_faultOfDays_48 : decode cX6_faultOfDays 48 = .ok (.invokevirtual 133, 3) := by decide +kernel
theorem dX6_faultOfDays_51 : decode cX6_faultOfDays 51 = .ok (.bipush 48, 2) := by decide +kernel
theorem dX6_faultOfDays_53 : decode cX6_faultOfDays 53 = .ok (.bipush 54, 2) := by decide +kernel
theorem dX6_faultOfDays_55 : decode cX6_faultOfDays 55 = .ok (.invokestatic 51, 3) := by decide +kernel
theorem dX6_faultOfDays_58 : decode cX6_faultOfDays 58 = .ok (.ifCond .eq 20, 3) := by decide +kernel
theorem dX6_faultOfDays_61 : decode cX6_faultOfDays 61 = .ok (.aload_n 0, 1) := by decide +kernel
theorem dX6_faultOfDays_62 : decode cX6_faultOfDays 62 = .ok (.iload_n 1, 1) := by decide +kernel
theorem dX6_faultOfDays_63 : decode cX6_faultOfDays 63 = .ok (.iconst 2, 1) := by decide +kernel
theorem dX6_faultOfDays_64 : decode cX6_faultOfDays 64 = .ok (.iadd, 1) := by decide +kernel
theorem dX6_faultOfDays_65 : decode cX6_faultOfDays 65 = .ok (.invokevirtual 133, 3) := by decide +kernel
theorem dX6_faultOfDays_68 : decode cX6_faultOfDays 68 = .ok (.aload_n 0, 1) := by decide +kernel
theorem dX6_faultOfDays_69 : decode cX6_faultOfDays 69 = .ok (.iload_n 1, 1) := by decide +kernel
theorem dX6_faultOfDays_70 : decode cX6_faultOfDays 70 = .ok (.iconst 1, 1) := by decide +kernel
theorem dX6_faultOfDays_71 : decode cX6_faultOfDays 71 = .ok (.iadd, 1) := by decide +kernel
theorem dX6_faultOfDays_72 : decode cX6_faultOfDays 72 = .ok (.invokevirtual 133, 3) := by decide +kernel
theorem dX6_faultOfDays_75 : decode cX6_faultOfDays 75 = .ok (.if_icmp .ne 7, 3) := by decide +kernel
theorem dX6_faultOfDays_78 : decode cX6_faultOfDays 78 = .ok (.iload_n 1, 1) := by decide +kernel
theorem dX6_faultOfDays_79 : decode cX6_faultOfDays 79 = .ok (.iconst 2, 1) := by decide +kernel
theorem dX6_faultOfDays_80 : decode cX6_faultOfDays 80 = .ok (.iadd, 1) := by decide +kernel
theorem dX6_faultOfDays_81 : decode cX6_faultOfDays 81 = .ok (.ireturn, 1) := by decide +kernel
theorem dX6_faultOfDays_82 : decode cX6_faultOfDays 82 = .ok (.iinc 1 3, 3) := by decide +kernel
theorem dX6_faultOfDays_85 : decode cX6_faultOfDays 85 = .ok (.goto 23, 3) := by decide +kernel
theorem dX6_faultOfDays_88 : decode cX6_faultOfDays 88 = .ok (.iload_n 2, 1) := by decide +kernel
theorem dX6_faultOfDays_89 : decode cX6_faultOfDays 89 = .ok (.bipush 99, 2) := by decide +kernel
theorem dX6_faultOfDays_91 : decode cX6_faultOfDays 91 = .ok (.if_icmp .eq 9, 3) := by decide +kernel
theorem dX6_faultOfDays_94 : decode cX6_faultOfDays 94 = .ok (.iload_n 2, 1) := by decide +kernel
theorem dX6_faultOfDays_95 : decode cX6_faultOfDays 95 = .ok (.bipush 100, 2) := by decide +kernel
theorem dX6_faultOfDays_97 : decode cX6_faultOfDays 97 = .ok (.if_icmp .ne 9, 3) := by decide +kernel
theorem dX6_faultOfDays_100 : decode cX6_faultOfDays 100 = .ok (.iinc 1 1, 3) := by decide +kernel
theorem dX6_faultOfDays_103 : decode cX6_faultOfDays 103 = .ok (.goto 5, 3) := by decide +kernel
theorem dX6_faultOfDays_106 : decode cX6_faultOfDays 106 = .ok (.iload_n 1, 1) := by decide +kernel
theorem dX6_faultOfDays_107 : decode cX6_faultOfDays 107 = .ok (.ireturn, 1) := by decide +kernel
theorem dX6_faultOfDays_108 : decode cX6_faultOfDays 108 = .ok (.goto (-106), 3) := by decide +kernel
theorem dX6_faultOfDays_111 : decode cX6_faultOfDays 111 = .ok (.aload_n 0, 1) := by decide +kernel
theorem dX6_faultOfDays_112 : decode cX6_faultOfDays 112 = .ok (.getfield 130, 3) := by decide +kernel
theorem dX6_faultOfDays_115 : decode cX6_faultOfDays 115 = .ok (.ifCond .ne 7, 3) := by decide +kernel
theorem dX6_faultOfDays_118 : decode cX6_faultOfDays 118 = .ok (.iconst 0, 1) := by decide +kernel
theorem dX6_faultOfDays_119 : decode cX6_faultOfDays 119 = .ok (.goto 5, 3) := by decide +kernel
theorem dX6_faultOfDays_122 : decode cX6_faultOfDays 122 = .ok (.bipush (-4), 2) := by decide +kernel
theorem dX6_faultOfDays_124 : decode cX6_faultOfDays 124 = .ok (.ireturn, 1) := by decide +kernel
theorem dX6_fault_0 : decode cX6_fault 0 = .ok (.iload_n 1, 1) := by decide +kernel
theorem dX6_fault_1 : decode cX6_fault 1 = .ok (.ifCond .ne 10, 3) := by decide +kernel
theorem dX6_fault_4 : decode cX6_fault 4 = .ok (.aload_n 0, 1) := by decide +kernel
theorem dX6_fault_5 : decode cX6_fault 5 = .ok (.invokevirtual 142, 3) := by decide +kernel
theorem dX6_fault_8 : decode cX6_fault 8 = .ok (.goto 16, 3) := by decide +kernel
theorem dX6_fault_11 : decode cX6_fault 11 = .ok (.iload_n 1, 1) := by decide +kernel
theorem dX6_fault_12 : decode cX6_fault 12 = .ok (.iconst 1, 1) := by decide +kernel
theorem dX6_fault_13 : decode cX6_fault 13 = .ok (.if_icmp .ne 10, 3) := by decide +kernel
theorem dX6_fault_16 : decode cX6_fault 16 = .ok (.aload_n 0, 1) := by decide +kernel
theorem dX6_fault_17 : decode cX6_fault 17 = .ok (.invokevirtual 145, 3) := by decide +kernel
theorem dX6_fault_20 : decode cX6_fault 20 = .ok (.goto 4, 3) := by decide +kernel
theorem dX6_fault_23 : decode cX6_fault 23 = .ok (.iconst (-1), 1) := by decide +kernel
theorem dX6_fault_24 : decode cX6_fault 24 = .ok (.ireturn, 1) := by decide +kernel
theorem dX6_traders_0 : decode cX6_traders 0 = .ok (.aload_n 0, 1) := by decide +kernel
theorem dX6_traders_1 : decode cX6_traders 1 = .ok (.invokevirtual 142, 3) := by decide +kernel
theorem dX6_traders_4 : decode cX6_traders 4 = .ok (.bipush (-4), 2) := by decide +kernel
theorem dX6_traders_6 : decode cX6_traders 6 = .ok (.if_icmp .eq 6, 3) := by decide +kernel
theorem dX6_traders_9 : decode cX6_traders 9 = .ok (.bipush (-2), 2) := by decide +kernel
theorem dX6_traders_11 : decode cX6_traders 11 = .ok (.ireturn, 1) := by decide +kernel
theorem dX6_traders_12 : decode cX6_traders 12 = .ok (.aload_n 0, 1) := by decide +kernel
theorem dX6_traders_13 : decode cX6_traders 13 = .ok (.getfield 7, 3) := by decide +kernel
theorem dX6_traders_16 : decode cX6_traders 16 = .ok (.iconst 1, 1) := by decide +kernel
theorem dX6_traders_17 : decode cX6_traders 17 = .ok (.iaload, 1) := by decide +kernel
theorem dX6_traders_18 : decode cX6_traders 18 = .ok (.aload_n 0, 1) := by decide +kernel
theorem dX6_traders_19 : decode cX6_traders 19 = .ok (.getfield 136, 3) := by decide +kernel
theorem dX6_traders_22 : decode cX6_traders 22 = .ok (.iadd, 1) := by decide +kernel
theorem dX6_traders_23 : decode cX6_traders 23 = .ok (.bipush 7, 2) := by decide +kernel
theorem dX6_traders_25 : decode cX6_traders 25 = .ok (.if_icmp .le 6, 3) := by decide +kernel
theorem dX6_traders_28 : decode cX6_traders 28 = .ok (.bipush (-3), 2) := by decide +kernel
theorem dX6_traders_30 : decode cX6_traders 30 = .ok (.ireturn, 1) := by decide +kernel
theorem dX6_traders_31 : decode cX6_traders 31 = .ok (.aload_n 0, 1) := by decide +kernel
theorem dX6_traders_32 : decode cX6_traders 32 = .ok (.invokevirtual 108, 3) := by decide +kernel
theorem dX6_traders_35 : decode cX6_traders 35 = .ok (.iconst 0, 1) := by decide +kernel
theorem dX6_traders_36 : decode cX6_traders 36 = .ok (.istore_n 1, 1) := by decide +kernel
theorem dX6_traders_37 : decode cX6_traders 37 = .ok (.iload_n 1, 1) := by decide +kernel
theorem dX6_traders_38 : decode cX6_traders 38 = .ok (.aload_n 0, 1) := by decide +kernel
theorem dX6_traders_39 : decode cX6_traders 39 = .ok (.getfield 130, 3) := by decide +kernel
theorem dX6_traders_42 : decode cX6_traders 42 = .ok (.if_icmp .ge 66, 3) := by decide +kernel
theorem dX6_traders_45 : decode cX6_traders 45 = .ok (.aload_n 0, 1) := by decide +kernel
theorem dX6_traders_46 : decode cX6_traders 46 = .ok (.iload_n 1, 1) := by decide +kernel
theorem dX6_traders_47 : decode cX6_traders 47 = .ok (.invokevirtual 139, 3) := by decide +kernel
theorem dX6_traders_50 : decode cX6_traders 50 = .ok (.istore_n 2, 1) := by decide +kernel
theorem dX6_traders_51 : decode cX6_traders 51 = .ok (.iconst 0, 1) := by decide +kernel
theorem dX6_traders_52 : decode cX6_traders 52 = .ok (.istore_n 3, 1) := by decide +kernel
theorem dX6_traders_53 : decode cX6_traders 53 = .ok (.iload_n 1, 1) := by decide +kernel
theorem dX6_traders_54 : decode cX6_traders 54 = .ok (.iconst 2, 1) := by decide +kernel
theorem dX6_traders_55 : decode cX6_traders 55 = .ok (.iadd, 1) := by decide +kernel
theorem dX6_traders_56 : decode cX6_traders 56 = .ok (.istore 4, 2) := by decide +kernel
theorem dX6_traders_58 : decode cX6_traders 58 = .ok (.iload 4, 2) := by decide +kernel
theorem dX6_traders_60 : decode cX6_traders 60 = .ok (.iload_n 2, 1) := by decide +kernel
theorem dX6_traders_61 : decode cX6_traders 61 = .ok (.if_icmp .ge 24, 3) := by decide +kernel
theorem dX6_traders_64 : decode cX6_traders 64 = .ok (.iload_n 3, 1) := by decide +kernel
theorem dX6_traders_65 : decode cX6_traders 65 = .ok (.iconst 1, 1) := by decide +kernel
theorem dX6_traders_66 : decode cX6_traders 66 = .ok (.aload_n 0, 1) := by decide +kernel
theorem dX6_traders_67 : decode cX6_traders 67 = .ok (.getfield 22, 3) := by decide +kernel
theorem dX6_traders_70 : decode cX6_traders 70 = .ok (.iload 4, 2) := by decide +kernel
theorem dX6_traders_72 : decode cX6_traders 72 = .ok (.iaload, 1) := by decide +kernel
theorem dX6_traders_73 : decode cX6_traders 73 = .ok (.bipush 48, 2) := by decide +kernel
theorem dX6_traders_75 : decode cX6_traders 75 = .ok (.isub, 1) := by decide +kernel
theorem dX6_traders_76 : decode cX6_traders 76 = .ok (.ishl, 1) := by decide +kernel
theorem dX6_traders_77 : decode cX6_traders 77 = .ok (.ior, 1) := by decide +kernel
theorem dX6_traders_78 : decode cX6_traders 78 = .ok (.istore_n 3, 1) := by decide +kernel
theorem dX6_traders_79 : decode cX6_traders 79 = .ok (.iinc 4 1, 3) := by decide +kernel
theorem dX6_traders_82 : decode cX6_traders 82 = .ok (.goto (-24), 3) := by decide +kernel
theorem dX6_traders_85 : decode cX6_traders 85 = .ok (.aload_n 0, 1) := by decide +kernel
theorem dX6_traders_86 : decode cX6_traders 86 = .ok (.aload_n 0, 1) := by decide +kernel
theorem dX6_traders_87 : decode cX6_traders 87 = .ok (.getfield 22, 3) := by decide +kernel
theorem dX6_traders_90 : decode cX6_traders 90 = .ok (.iload_n 1, 1) := by decide +kernel
theorem dX6_traders_91 : decode cX6_traders 91 = .ok (.iaload, 1) := by decide +kernel
theorem dX6_traders_92 : decode cX6_traders 92 = .ok (.bipush 48, 2) := by decide +kernel
theorem dX6_traders_94 : decode cX6_traders 94 = .ok (.isub, 1) := by decide +kernel
theorem dX6_traders_95 : decode cX6_traders 95 = .ok (.iload_n 3, 1) := by decide +kernel
theorem dX6_traders_96 : decode cX6_traders 96 = .ok (.invokevirtual 111, 3) := by decide +kernel
theorem dX6_traders_99 : decode cX6_traders 99 = .ok (.istore 4, 2) := by decide +kernel
theorem dX6_traders_101 : decode cX6_traders 101 = .ok (.iload_n 2, 1) := by decide +kernel
theorem dX6_traders_102 : decode cX6_traders 102 = .ok (.iconst 1, 1) := by decide +kernel
theorem dX6_traders_103 : decode cX6_traders 103 = .ok (.iadd, 1) := by decide +kernel
theorem dX6_traders_104 : decode cX6_traders 104 = .ok (.istore_n 1, 1) := by decide +kernel
theorem dX6_traders_105 : decode cX6_traders 105 = .ok (.goto (-68), 3) := by decide +kernel
theorem dX6_traders_108 : decode cX6_traders 108 = .ok (.aload_n 0, 1) := by decide +kernel
theorem dX6_traders_109 : decode cX6_traders 109 = .ok (.iconst 0, 1) := by decide +kernel
theorem dX6_traders_110 : decode cX6_traders 110 = .ok (.putfield 130, 3) := by decide +kernel
theorem dX6_traders_113 : decode cX6_traders 113 = .ok (.aload_n 0, 1) := by decide +kernel
theorem dX6_traders_114 : decode cX6_traders 114 = .ok (.getfield 7, 3) := by decide +kernel
theorem dX6_traders_117 : decode cX6_traders 117 = .ok (.iconst 1, 1) := by decide +kernel
theorem dX6_traders_118 : decode cX6_traders 118 = .ok (.iaload, 1) := by decide +kernel
theorem dX6_traders_119 : decode cX6_traders 119 = .ok (.ireturn, 1) := by decide +kernel
theorem dX6_isDone_0 : decode cX6_isDone 0 = .ok (.aload_n 0, 1) := by decide +kernel
theorem dX6_isDone_1 : decode cX6_isDone 1 = .ok (.getfield 22, 3) := by decide +kernel
theorem dX6_isDone_4 : decode cX6_isDone 4 = .ok (.iload_n 1, 1) := by decide +kernel
theorem dX6_isDone_5 : decode cX6_isDone 5 = .ok (.iconst 1, 1) := by decide +kernel
theorem dX6_isDone_6 : decode cX6_isDone 6 = .ok (.iadd, 1) := by decide +kernel
theorem dX6_isDone_7 : decode cX6_isDone 7 = .ok (.iaload, 1) := by decide +kernel
theorem dX6_isDone_8 : decode cX6_isDone 8 = .ok (.bipush 48, 2) := by decide +kernel
theorem dX6_isDone_10 : decode cX6_isDone 10 = .ok (.isub, 1) := by decide +kernel
theorem dX6_isDone_11 : decode cX6_isDone 11 = .ok (.istore_n 2, 1) := by decide +kernel
theorem dX6_isDone_12 : decode cX6_isDone 12 = .ok (.aload_n 0, 1) := by decide +kernel
theorem dX6_isDone_13 : decode cX6_isDone 13 = .ok (.getfield 22, 3) := by decide +kernel
theorem dX6_isDone_16 : decode cX6_isDone 16 = .ok (.iload_n 1, 1) := by decide +kernel
theorem dX6_isDone_17 : decode cX6_isDone 17 = .ok (.iconst 2, 1) := by decide +kernel
theorem dX6_isDone_18 : decode cX6_isDone 18 = .ok (.iadd, 1) := by decide +kernel
theorem dX6_isDone_19 : decode cX6_isDone 19 = .ok (.iaload, 1) := by decide +kernel
theorem dX6_isDone_20 : decode cX6_isDone 20 = .ok (.bipush 48, 2) := by decide +kernel
theorem dX6_isDone_22 : decode cX6_isDone 22 = .ok (.isub, 1) := by decide +kernel
theorem dX6_isDone_23 : decode cX6_isDone 23 = .ok (.istore_n 3, 1) := by decide +kernel
theorem dX6_isDone_24 : decode cX6_isDone 24 = .ok (.aload_n 0, 1) := by decide +kernel
theorem dX6_isDone_25 : decode cX6_isDone 25 = .ok (.iload_n 2, 1) := by decide +kernel
theorem dX6_isDone_26 : decode cX6_isDone 26 = .ok (.iload_n 3, 1) := by decide +kernel
theorem dX6_isDone_27 : decode cX6_isDone 27 = .ok (.invokevirtual 117, 3) := by decide +kernel
theorem dX6_isDone_30 : decode cX6_isDone 30 = .ok (.ifCond .eq 12, 3) := by decide +kernel
theorem dX6_isDone_33 : decode cX6_isDone 33 = .ok (.aload_n 0, 1) := by decide +kernel
theorem dX6_isDone_34 : decode cX6_isDone 34 = .ok (.iload_n 2, 1) := by decide +kernel
theorem dX6_isDone_35 : decode cX6_isDone 35 = .ok (.iload_n 3, 1) := by decide +kernel
theorem dX6_isDone_36 : decode cX6_isDone 36 = .ok (.invokevirtual 120, 3) := by decide +kernel
theorem dX6_isDone_39 : decode cX6_isDone 39 = .ok (.goto 4, 3) := by decide +kernel
theorem dX6_isDone_42 : decode cX6_isDone 42 = .ok (.iconst (-1), 1) := by decide +kernel
theorem dX6_isDone_43 : decode cX6_isDone 43 = .ok (.istore 4, 2) := by decide +kernel
theorem dX6_isDone_45 : decode cX6_isDone 45 = .ok (.aload_n 0, 1) := by decide +kernel
theorem dX6_isDone_46 : decode cX6_isDone 46 = .ok (.iload 4, 2) := by decide +kernel
theorem dX6_isDone_48 : decode cX6_isDone 48 = .ok (.bipush 10, 2) := by decide +kernel
theorem dX6_isDone_50 : decode cX6_isDone 50 = .ok (.if_icmp .ne 8, 3) := by decide +kernel
theorem dX6_isDone_53 : decode cX6_isDone 53 = .ok (.bipush (-4), 2) := by decide +kernel
theorem dX6_isDone_55 : decode cX6_isDone 55 = .ok (.goto 5, 3) := by decide +kernel
theorem dX6_isDone_58 : decode cX6_isDone 58 = .ok (.iload 4, 2) := by decide +kernel
theorem dX6_isDone_60 : decode cX6_isDone 60 = .ok (.putfield 25, 3) := by decide +kernel
theorem dX6_isDone_63 : decode cX6_isDone 63 = .ok (.aload_n 0, 1) := by decide +kernel
theorem dX6_isDone_64 : decode cX6_isDone 64 = .ok (.iload 4, 2) := by decide +kernel
theorem dX6_isDone_66 : decode cX6_isDone 66 = .ok (.bipush 10, 2) := by decide +kernel
theorem dX6_isDone_68 : decode cX6_isDone 68 = .ok (.if_icmp .ne 8, 3) := by decide +kernel
theorem dX6_isDone_71 : decode cX6_isDone 71 = .ok (.bipush (-4), 2) := by decide +kernel
theorem dX6_isDone_73 : decode cX6_isDone 73 = .ok (.goto 4, 3) := by decide +kernel
theorem dX6_isDone_76 : decode cX6_isDone 76 = .ok (.iload_n 1, 1) := by decide +kernel
theorem dX6_isDone_77 : decode cX6_isDone 77 = .ok (.putfield 29, 3) := by decide +kernel
theorem dX6_isDone_80 : decode cX6_isDone 80 = .ok (.iload 4, 2) := by decide +kernel
theorem dX6_isDone_82 : decode cX6_isDone 82 = .ok (.bipush 10, 2) := by decide +kernel
theorem dX6_isDone_84 : decode cX6_isDone 84 = .ok (.if_icmp .ne 7, 3) := by decide +kernel
theorem dX6_isDone_87 : decode cX6_isDone 87 = .ok (.iconst 1, 1) := by decide +kernel
theorem dX6_isDone_88 : decode cX6_isDone 88 = .ok (.goto 4, 3) := by decide +kernel
theorem dX6_isDone_91 : decode cX6_isDone 91 = .ok (.iconst 0, 1) := by decide +kernel
theorem dX6_isDone_92 : decode cX6_isDone 92 = .ok (.ireturn, 1) := by decide +kernel
theorem dX6_days_0 : decode cX6_days 0 = .ok (.aload_n 0, 1) := by decide +kernel
theorem dX6_days_1 : decode cX6_days 1 = .ok (.invokevirtual 145, 3) := by decide +kernel
theorem dX6_days_4 : decode cX6_days 4 = .ok (.bipush (-4), 2) := by decide +kernel
theorem dX6_days_6 : decode cX6_days 6 = .ok (.if_icmp .eq 6, 3) := by decide +kernel
theorem dX6_days_9 : decode cX6_days 9 = .ok (.bipush (-2), 2) := by decide +kernel
theorem dX6_days_11 : decode cX6_days 11 = .ok (.ireturn, 1) := by decide +kernel
theorem dX6_days_12 : decode cX6_days 12 = .ok (.aload_n 0, 1) := by decide +kernel
theorem dX6_days_13 : decode cX6_days 13 = .ok (.invokevirtual 108, 3) := by decide +kernel
theorem dX6_days_16 : decode cX6_days 16 = .ok (.aload_n 0, 1) := by decide +kernel
theorem dX6_days_17 : decode cX6_days 17 = .ok (.getfield 7, 3) := by decide +kernel
theorem dX6_days_20 : decode cX6_days 20 = .ok (.iconst 2, 1) := by decide +kernel
theorem dX6_days_21 : decode cX6_days 21 = .ok (.iaload, 1) := by decide +kernel
theorem dX6_days_22 : decode cX6_days 22 = .ok (.istore_n 1, 1) := by decide +kernel
theorem dX6_days_23 : decode cX6_days 23 = .ok (.iconst 0, 1) := by decide +kernel
theorem dX6_days_24 : decode cX6_days 24 = .ok (.istore_n 2, 1) := by decide +kernel
theorem dX6_days_25 : decode cX6_days 25 = .ok (.iconst 1, 1) := by decide +kernel
theorem dX6_days_26 : decode cX6_days 26 = .ok (.istore_n 3, 1) := by decide +kernel
theorem dX6_days_27 : decode cX6_days 27 = .ok (.aload_n 0, 1) := by decide +kernel
theorem dX6_days_28 : decode cX6_days 28 = .ok (.bipush (-4), 2) := by decide +kernel
theorem dX6_days_30 : decode cX6_days 30 = .ok (.putfield 25, 3) := by decide +kernel
theorem dX6_days_33 : decode cX6_days 33 = .ok (.aload_n 0, 1) := by decide +kernel
theorem dX6_days_34 : decode cX6_days 34 = .ok (.bipush (-4), 2) := by decide +kernel
theorem dX6_days_36 : decode cX6_days 36 = .ok (.putfield 29, 3) := by decide +kernel
theorem dX6_days_39 : decode cX6_days 39 = .ok (.iload_n 3, 1) := by decide +kernel
theorem dX6_days_40 : decode cX6_days 40 = .ok (.ifCond .eq 89, 3) := by decide +kernel
theorem dX6_days_43 : decode cX6_days 43 = .ok (.iload_n 2, 1) := by decide +kernel
theorem dX6_days_44 : decode cX6_days 44 = .ok (.aload_n 0, 1) := by decide +kernel
theorem dX6_days_45 : decode cX6_days 45 = .ok (.getfield 130, 3) := by decide +kernel
theorem dX6_days_48 : decode cX6_days 48 = .ok (.if_icmp .ge 81, 3) := by decide +kernel
theorem dX6_days_51 : decode cX6_days 51 = .ok (.aload_n 0, 1) := by decide +kernel
theorem dX6_days_52 : decode cX6_days 52 = .ok (.getfield 22, 3) := by decide +kernel
theorem dX6_days_55 : decode cX6_days 55 = .ok (.iload_n 2, 1) := by decide +kernel
theorem dX6_days_56 : decode cX6_days 56 = .ok (.iaload, 1) := by decide +kernel
theorem dX6_days_57 : decode cX6_days 57 = .ok (.istore 4, 2) := by decide +kernel
theorem dX6_days_59 : decode cX6_days 59 = .ok (.iload 4, 2) := by decide +kernel
theorem dX6_days_61 : decode cX6_days 61 = .ok (.bipush 99, 2) := by decide +kernel
theorem dX6_days_63 : decode cX6_days 63 = .ok (.if_icmp .ne 10, 3) := by decide +kernel
theorem dX6_days_66 : decode cX6_days 66 = .ok (.aload_n 0, 1) := by decide +kernel
theorem dX6_days_67 : decode cX6_days 67 = .ok (.invokevirtual 123, 3) := by decide +kernel
theorem dX6_days_70 : decode cX6_days 70 = .ok (.goto 18, 3) := by decide +kernel
theorem dX6_days_73 : decode cX6_days 73 = .ok (.iload 4, 2) := by decide +kernel
theorem dX6_days_75 : decode cX6_days 75 = .ok (.bipush 100, 2) := by decide +kernel
theorem dX6_days_77 : decode cX6_days 77 = .ok (.if_icmp .ne 10, 3) := by decide +kernel
theorem dX6_days_80 : decode cX6_days 80 = .ok (.aload_n 0, 1) := by decide +kernel
theorem dX6_days_81 : decode cX6_days 81 = .ok (.invokevirtual 127, 3) := by decide +kernel
theorem dX6_days_84 : decode cX6_days 84 = .ok (.goto 4, 3) := by decide +kernel
theorem dX6_days_87 : decode cX6_days 87 = .ok (.iconst 0, 1) := by decide +kernel
theorem dX6_days_88 : decode cX6_days 88 = .ok (.istore 5, 2) := by decide +kernel
theorem dX6_days_90 : decode cX6_days 90 = .ok (.iload 4, 2) := by decide +kernel
theorem dX6_days_92 : decode cX6_days 92 = .ok (.bipush 120, 2) := by decide +kernel
theorem dX6_days_94 : decode cX6_days 94 = .ok (.if_icmp .ne 11, 3) := by decide +kernel
theorem dX6_days_97 : decode cX6_days 97 = .ok (.aload_n 0, 1) := by decide +kernel
theorem dX6_days_98 : decode cX6_days 98 = .ok (.iload_n 2, 1) := by decide +kernel
theorem dX6_days_99 : decode cX6_days 99 = .ok (.invokevirtual 148, 3) := by decide +kernel
theorem dX6_days_102 : decode cX6_days 102 = .ok (.ifCond .eq 7, 3) := by decide +kernel
theorem dX6_days_105 : decode cX6_days 105 = .ok (.iconst 1, 1) := by decide +kernel
theorem dX6_days_106 : decode cX6_days 106 = .ok (.goto 4, 3) := by decide +kernel
theorem dX6_days_109 : decode cX6_days 109 = .ok (.iconst 0, 1) := by decide +kernel
theorem dX6_days_110 : decode cX6_days 110 = .ok (.istore_n 3, 1) := by decide +kernel
theorem dX6_days_111 : decode cX6_days 111 = .ok (.iload_n 2, 1) := by decide +kernel
theorem dX6_days_112 : decode cX6_days 112 = .ok (.iload 4, 2) := by decide +kernel
theorem dX6_days_114 : decode cX6_days 114 = .ok (.bipush 120, 2) := by decide +kernel
theorem dX6_days_116 : decode cX6_days 116 = .ok (.if_icmp .ne 7, 3) := by decide +kernel
theorem dX6_days_119 : decode cX6_days 119 = .ok (.iconst 3, 1) := by decide +kernel
theorem dX6_days_120 : decode cX6_days 120 = .ok (.goto 4, 3) := by decide +kernel
theorem dX6_days_123 : decode cX6_days 123 = .ok (.iconst 1, 1) := by decide +kernel
theorem dX6_days_124 : decode cX6_days 124 = .ok (.iadd, 1) := by decide +kernel
theorem dX6_days_125 : decode cX6_days 125 = .ok (.istore_n 2, 1) := by decide +kernel
theorem dX6_days_126 : decode cX6_days 126 = .ok (.goto (-87), 3) := by decide +kernel
theorem dX6_days_129 : decode cX6_days 129 = .ok (.aload_n 0, 1) := by decide +kernel
theorem dX6_days_130 : decode cX6_days 130 = .ok (.iconst 0, 1) := by decide +kernel
theorem dX6_days_131 : decode cX6_days 131 = .ok (.putfield 130, 3) := by decide +kernel
theorem dX6_days_134 : decode cX6_days 134 = .ok (.aload_n 0, 1) := by decide +kernel
theorem dX6_days_135 : decode cX6_days 135 = .ok (.getfield 7, 3) := by decide +kernel
theorem dX6_days_138 : decode cX6_days 138 = .ok (.iconst 2, 1) := by decide +kernel
theorem dX6_days_139 : decode cX6_days 139 = .ok (.iaload, 1) := by decide +kernel
theorem dX6_days_140 : decode cX6_days 140 = .ok (.iload_n 1, 1) := by decide +kernel
theorem dX6_days_141 : decode cX6_days 141 = .ok (.isub, 1) := by decide +kernel
theorem dX6_days_142 : decode cX6_days 142 = .ok (.ireturn, 1) := by decide +kernel
theorem dX6_why_0 : decode cX6_why 0 = .ok (.iload_n 1, 1) := by decide +kernel
theorem dX6_why_1 : decode cX6_why 1 = .ok (.ifCond .ne 10, 3) := by decide +kernel
theorem dX6_why_4 : decode cX6_why 4 = .ok (.aload_n 0, 1) := by decide +kernel
theorem dX6_why_5 : decode cX6_why 5 = .ok (.getfield 25, 3) := by decide +kernel
theorem dX6_why_8 : decode cX6_why 8 = .ok (.goto 16, 3) := by decide +kernel
theorem dX6_why_11 : decode cX6_why 11 = .ok (.iload_n 1, 1) := by decide +kernel
theorem dX6_why_12 : decode cX6_why 12 = .ok (.iconst 1, 1) := by decide +kernel
theorem dX6_why_13 : decode cX6_why 13 = .ok (.if_icmp .ne 10, 3) := by decide +kernel
theorem dX6_why_16 : decode cX6_why 16 = .ok (.aload_n 0, 1) := by decide +kernel
theorem dX6_why_17 : decode cX6_why 17 = .ok (.getfield 29, 3) := by decide +kernel
theorem dX6_why_20 : decode cX6_why 20 = .ok (.goto 4, 3) := by decide +kernel
theorem dX6_why_23 : decode cX6_why 23 = .ok (.iconst (-1), 1) := by decide +kernel
theorem dX6_why_24 : decode cX6_why 24 = .ok (.ireturn, 1) := by decide +kernel
theorem dX6_takesFrom_0 : decode cX6_takesFrom 0 = .ok (.iconst 0, 1) := by decide +kernel
theorem dX6_takesFrom_1 : decode cX6_takesFrom 1 = .ok (.istore_n 2, 1) := by decide +kernel
theorem dX6_takesFrom_2 : decode cX6_takesFrom 2 = .ok (.iconst 0, 1) := by decide +kernel
theorem dX6_takesFrom_3 : decode cX6_takesFrom 3 = .ok (.istore_n 3, 1) := by decide +kernel
theorem dX6_takesFrom_4 : decode cX6_takesFrom 4 = .ok (.iload_n 3, 1) := by decide +kernel
theorem dX6_takesFrom_5 : decode cX6_takesFrom 5 = .ok (.aload_n 0, 1) := by decide +kernel
theorem dX6_takesFrom_6 : decode cX6_takesFrom 6 = .ok (.getfield 7, 3) := by decide +kernel
theorem dX6_takesFrom_9 : decode cX6_takesFrom 9 = .ok (.iconst 1, 1) := by decide +kernel
theorem dX6_takesFrom_10 : decode cX6_takesFrom 10 = .ok (.iaload, 1) := by decide +kernel
theorem dX6_takesFrom_11 : decode cX6_takesFrom 11 = .ok (.if_icmp .ge 26, 3) := by decide +kernel
theorem dX6_takesFrom_14 : decode cX6_takesFrom 14 = .ok (.iload_n 2, 1) := by decide +kernel
theorem dX6_takesFrom_15 : decode cX6_takesFrom 15 = .ok (.aload_n 0, 1) := by decide +kernel
theorem dX6_takesFrom_16 : decode cX6_takesFrom 16 = .ok (.iload_n 1, 1) := by decide +kernel
theorem dX6_takesFrom_17 : decode cX6_takesFrom 17 = .ok (.iload_n 3, 1) := by decide +kernel
theorem dX6_takesFrom_18 : decode cX6_takesFrom 18 = .ok (.invokevirtual 79, 3) := by decide +kernel
theorem dX6_takesFrom_21 : decode cX6_takesFrom 21 = .ok (.ifCond .eq 7, 3) := by decide +kernel
theorem dX6_takesFrom_24 : decode cX6_takesFrom 24 = .ok (.iconst 1, 1) := by decide +kernel
theorem dX6_takesFrom_25 : decode cX6_takesFrom 25 = .ok (.goto 4, 3) := by decide +kernel
theorem dX6_takesFrom_28 : decode cX6_takesFrom 28 = .ok (.iconst 0, 1) := by decide +kernel
theorem dX6_takesFrom_29 : decode cX6_takesFrom 29 = .ok (.iadd, 1) := by decide +kernel
theorem dX6_takesFrom_30 : decode cX6_takesFrom 30 = .ok (.istore_n 2, 1) := by decide +kernel
theorem dX6_takesFrom_31 : decode cX6_takesFrom 31 = .ok (.iinc 3 1, 3) := by decide +kernel
theorem dX6_takesFrom_34 : decode cX6_takesFrom 34 = .ok (.goto (-30), 3) := by decide +kernel
theorem dX6_takesFrom_37 : decode cX6_takesFrom 37 = .ok (.iload_n 2, 1) := by decide +kernel
theorem dX6_takesFrom_38 : decode cX6_takesFrom 38 = .ok (.ireturn, 1) := by decide +kernel
theorem dX6_givesTo_0 : decode cX6_givesTo 0 = .ok (.iconst 0, 1) := by decide +kernel
theorem dX6_givesTo_1 : decode cX6_givesTo 1 = .ok (.istore_n 2, 1) := by decide +kernel
theorem dX6_givesTo_2 : decode cX6_givesTo 2 = .ok (.iconst 0, 1) := by decide +kernel
theorem dX6_givesTo_3 : decode cX6_givesTo 3 = .ok (.istore_n 3, 1) := by decide +kernel
theorem dX6_givesTo_4 : decode cX6_givesTo 4 = .ok (.iload_n 3, 1) := by decide +kernel
theorem dX6_givesTo_5 : decode cX6_givesTo 5 = .ok (.aload_n 0, 1) := by decide +kernel
theorem dX6_givesTo_6 : decode cX6_givesTo 6 = .ok (.getfield 7, 3) := by decide +kernel
theorem dX6_givesTo_9 : decode cX6_givesTo 9 = .ok (.iconst 1, 1) := by decide +kernel
theorem dX6_givesTo_10 : decode cX6_givesTo 10 = .ok (.iaload, 1) := by decide +kernel
theorem dX6_givesTo_11 : decode cX6_givesTo 11 = .ok (.if_icmp .ge 26, 3) := by decide +kernel
theorem dX6_givesTo_14 : decode cX6_givesTo 14 = .ok (.iload_n 2, 1) := by decide +kernel
theorem dX6_givesTo_15 : decode cX6_givesTo 15 = .ok (.aload_n 0, 1) := by decide +kernel
theorem dX6_givesTo_16 : decode cX6_givesTo 16 = .ok (.iload_n 3, 1) := by decide +kernel
theorem dX6_givesTo_17 : decode cX6_givesTo 17 = .ok (.iload_n 1, 1) := by decide +kernel
theorem dX6_givesTo_18 : decode cX6_givesTo 18 = .ok (.invokevirtual 79, 3) := by decide +kernel
theorem dX6_givesTo_21 : decode cX6_givesTo 21 = .ok (.ifCond .eq 7, 3) := by decide +kernel
theorem dX6_givesTo_24 : decode cX6_givesTo 24 = .ok (.iconst 1, 1) := by decide +kernel
theorem dX6_givesTo_25 : decode cX6_givesTo 25 = .ok (.goto 4, 3) := by decide +kernel
theorem dX6_givesTo_28 : decode cX6_givesTo 28 = .ok (.iconst 0, 1) := by decide +kernel
theorem dX6_givesTo_29 : decode cX6_givesTo 29 = .ok (.iadd, 1) := by decide +kernel
theorem dX6_givesTo_30 : decode cX6_givesTo 30 = .ok (.istore_n 2, 1) := by decide +kernel
theorem dX6_givesTo_31 : decode cX6_givesTo 31 = .ok (.iinc 3 1, 3) := by decide +kernel
theorem dX6_givesTo_34 : decode cX6_givesTo 34 = .ok (.goto (-30), 3) := by decide +kernel
theorem dX6_givesTo_37 : decode cX6_givesTo 37 = .ok (.iload_n 2, 1) := by decide +kernel
theorem dX6_givesTo_38 : decode cX6_givesTo 38 = .ok (.ireturn, 1) := by decide +kernel
theorem dX6_bestFor_0 : decode cX6_bestFor 0 = .ok (.aload_n 0, 1) := by decide +kernel
theorem dX6_bestFor_1 : decode cX6_bestFor 1 = .ok (.aload_n 0, 1) := by decide +kernel
theorem dX6_bestFor_2 : decode cX6_bestFor 2 = .ok (.getfield 7, 3) := by decide +kernel
theorem dX6_bestFor_5 : decode cX6_bestFor 5 = .ok (.bipush 7, 2) := by decide +kernel
theorem dX6_bestFor_7 : decode cX6_bestFor 7 = .ok (.iaload, 1) := by decide +kernel
theorem dX6_bestFor_8 : decode cX6_bestFor 8 = .ok (.invokevirtual 92, 3) := by decide +kernel
theorem dX6_bestFor_11 : decode cX6_bestFor 11 = .ok (.aload_n 0, 1) := by decide +kernel
theorem dX6_bestFor_12 : decode cX6_bestFor 12 = .ok (.getfield 32, 3) := by decide +kernel
theorem dX6_bestFor_15 : decode cX6_bestFor 15 = .ok (.iload_n 1, 1) := by decide +kernel
theorem dX6_bestFor_16 : decode cX6_bestFor 16 = .ok (.iaload, 1) := by decide +kernel
theorem dX6_bestFor_17 : decode cX6_bestFor 17 = .ok (.ireturn, 1) := by decide +kernel
theorem dX6_trader_0 : decode cX6_trader 0 = .ok (.aload_n 0, 1) := by decide +kernel
theorem dX6_trader_1 : decode cX6_trader 1 = .ok (.iload_n 1, 1) := by decide +kernel
theorem dX6_trader_2 : decode cX6_trader 2 = .ok (.invokevirtual 55, 3) := by decide +kernel
theorem dX6_trader_5 : decode cX6_trader 5 = .ok (.ifCond .ne 5, 3) := by decide +kernel
theorem dX6_trader_8 : decode cX6_trader 8 = .ok (.iconst (-1), 1) := by decide +kernel
theorem dX6_trader_9 : decode cX6_trader 9 = .ok (.ireturn, 1) := by decide +kernel
theorem dX6_trader_10 : decode cX6_trader 10 = .ok (.iload_n 2, 1) := by decide +kernel
theorem dX6_trader_11 : decode cX6_trader 11 = .ok (.tableswitch 108 0 9 #[53, 53, 53, 53, 60, 66, 83, 90, 96, 102], 53) := by decide +kernel
theorem dX6_trader_64 : decode cX6_trader 64 = .ok (.aload_n 0, 1) := by decide +kernel
theorem dX6_trader_65 : decode cX6_trader 65 = .ok (.iload_n 1, 1) := by decide +kernel
theorem dX6_trader_66 : decode cX6_trader 66 = .ok (.iload_n 2, 1) := by decide +kernel
theorem dX6_trader_67 : decode cX6_trader 67 = .ok (.invokevirtual 65, 3) := by decide +kernel
theorem dX6_trader_70 : decode cX6_trader 70 = .ok (.ireturn, 1) := by decide +kernel
theorem dX6_trader_71 : decode cX6_trader 71 = .ok (.aload_n 0, 1) := by decide +kernel
theorem dX6_trader_72 : decode cX6_trader 72 = .ok (.iload_n 1, 1) := by decide +kernel
theorem dX6_trader_73 : decode cX6_trader 73 = .ok (.invokevirtual 68, 3) := by decide +kernel
theorem dX6_trader_76 : decode cX6_trader 76 = .ok (.ireturn, 1) := by decide +kernel
theorem dX6_trader_77 : decode cX6_trader 77 = .ok (.aload_n 0, 1) := by decide +kernel
theorem dX6_trader_78 : decode cX6_trader 78 = .ok (.getfield 7, 3) := by decide +kernel
theorem dX6_trader_81 : decode cX6_trader 81 = .ok (.bipush 9, 2) := by decide +kernel
theorem dX6_trader_83 : decode cX6_trader 83 = .ok (.iaload, 1) := by decide +kernel
theorem dX6_trader_84 : decode cX6_trader 84 = .ok (.iload_n 1, 1) := by decide +kernel
theorem dX6_trader_85 : decode cX6_trader 85 = .ok (.if_icmp .ne 7, 3) := by decide +kernel
theorem dX6_trader_88 : decode cX6_trader 88 = .ok (.iconst 1, 1) := by decide +kernel
theorem dX6_trader_89 : decode cX6_trader 89 = .ok (.goto 4, 3) := by decide +kernel
theorem dX6_trader_92 : decode cX6_trader 92 = .ok (.iconst 0, 1) := by decide +kernel
theorem dX6_trader_93 : decode cX6_trader 93 = .ok (.ireturn, 1) := by decide +kernel
theorem dX6_trader_94 : decode cX6_trader 94 = .ok (.aload_n 0, 1) := by decide +kernel
theorem dX6_trader_95 : decode cX6_trader 95 = .ok (.iload_n 1, 1) := by decide +kernel
theorem dX6_trader_96 : decode cX6_trader 96 = .ok (.iconst 4, 1) := by decide +kernel
theorem dX6_trader_97 : decode cX6_trader 97 = .ok (.invokevirtual 65, 3) := by decide +kernel
theorem dX6_trader_100 : decode cX6_trader 100 = .ok (.ireturn, 1) := by decide +kernel
theorem dX6_trader_101 : decode cX6_trader 101 = .ok (.aload_n 0, 1) := by decide +kernel
theorem dX6_trader_102 : decode cX6_trader 102 = .ok (.iload_n 1, 1) := by decide +kernel
theorem dX6_trader_103 : decode cX6_trader 103 = .ok (.invokevirtual 151, 3) := by decide +kernel
theorem dX6_trader_106 : decode cX6_trader 106 = .ok (.ireturn, 1) := by decide +kernel
theorem dX6_trader_107 : decode cX6_trader 107 = .ok (.aload_n 0, 1) := by decide +kernel
theorem dX6_trader_108 : decode cX6_trader 108 = .ok (.iload_n 1, 1) := by decide +kernel
theorem dX6_trader_109 : decode cX6_trader 109 = .ok (.invokevirtual 154, 3) := by decide +kernel
theorem dX6_trader_112 : decode cX6_trader 112 = .ok (.ireturn, 1) := by decide +kernel
theorem dX6_trader_113 : decode cX6_trader 113 = .ok (.aload_n 0, 1) := by decide +kernel
theorem dX6_trader_114 : decode cX6_trader 114 = .ok (.iload_n 1, 1) := by decide +kernel
theorem dX6_trader_115 : decode cX6_trader 115 = .ok (.invokevirtual 157, 3) := by decide +kernel
theorem dX6_trader_118 : decode cX6_trader 118 = .ok (.ireturn, 1) := by decide +kernel
theorem dX6_trader_119 : decode cX6_trader 119 = .ok (.iconst (-1), 1) := by decide +kernel
theorem dX6_trader_120 : decode cX6_trader 120 = .ok (.ireturn, 1) := by decide +kernel
theorem dX6_can_0 : decode cX6_can 0 = .ok (.aload_n 0, 1) := by decide +kernel
theorem dX6_can_1 : decode cX6_can 1 = .ok (.iload_n 1, 1) := by decide +kernel
theorem dX6_can_2 : decode cX6_can 2 = .ok (.iload_n 2, 1) := by decide +kernel
theorem dX6_can_3 : decode cX6_can 3 = .ok (.invokevirtual 117, 3) := by decide +kernel
theorem dX6_can_6 : decode cX6_can 6 = .ok (.ifCond .ne 7, 3) := by decide +kernel
theorem dX6_can_9 : decode cX6_can 9 = .ok (.iconst (-1), 1) := by decide +kernel
theorem dX6_can_10 : decode cX6_can 10 = .ok (.goto 17, 3) := by decide +kernel
theorem dX6_can_13 : decode cX6_can 13 = .ok (.aload_n 0, 1) := by decide +kernel
theorem dX6_can_14 : decode cX6_can 14 = .ok (.iload_n 1, 1) := by decide +kernel
theorem dX6_can_15 : decode cX6_can 15 = .ok (.iload_n 2, 1) := by decide +kernel
theorem dX6_can_16 : decode cX6_can 16 = .ok (.invokevirtual 79, 3) := by decide +kernel
theorem dX6_can_19 : decode cX6_can 19 = .ok (.ifCond .eq 7, 3) := by decide +kernel
theorem dX6_can_22 : decode cX6_can 22 = .ok (.iconst 1, 1) := by decide +kernel
theorem dX6_can_23 : decode cX6_can 23 = .ok (.goto 4, 3) := by decide +kernel
theorem dX6_can_26 : decode cX6_can 26 = .ok (.iconst 0, 1) := by decide +kernel
theorem dX6_can_27 : decode cX6_can 27 = .ok (.ireturn, 1) := by decide +kernel
theorem dX6_whyNot_0 : decode cX6_whyNot 0 = .ok (.aload_n 0, 1) := by decide +kernel
theorem dX6_whyNot_1 : decode cX6_whyNot 1 = .ok (.iload_n 1, 1) := by decide +kernel
theorem dX6_whyNot_2 : decode cX6_whyNot 2 = .ok (.iload_n 2, 1) := by decide +kernel
theorem dX6_whyNot_3 : decode cX6_whyNot 3 = .ok (.invokevirtual 117, 3) := by decide +kernel
theorem dX6_whyNot_6 : decode cX6_whyNot 6 = .ok (.ifCond .eq 12, 3) := by decide +kernel
theorem dX6_whyNot_9 : decode cX6_whyNot 9 = .ok (.aload_n 0, 1) := by decide +kernel
theorem dX6_whyNot_10 : decode cX6_whyNot 10 = .ok (.iload_n 1, 1) := by decide +kernel
theorem dX6_whyNot_11 : decode cX6_whyNot 11 = .ok (.iload_n 2, 1) := by decide +kernel
theorem dX6_whyNot_12 : decode cX6_whyNot 12 = .ok (.invokevirtual 102, 3) := by decide +kernel
theorem dX6_whyNot_15 : decode cX6_whyNot 15 = .ok (.goto 4, 3) := by decide +kernel
theorem dX6_whyNot_18 : decode cX6_whyNot 18 = .ok (.iconst (-1), 1) := by decide +kernel
theorem dX6_whyNot_19 : decode cX6_whyNot 19 = .ok (.ireturn, 1) := by decide +kernel
theorem dX6_mostWith_0 : decode cX6_mostWith 0 = .ok (.aload_n 0, 1) := by decide +kernel
theorem dX6_mostWith_1 : decode cX6_mostWith 1 = .ok (.iload_n 1, 1) := by decide +kernel
theorem dX6_mostWith_2 : decode cX6_mostWith 2 = .ok (.invokevirtual 92, 3) := by decide +kernel
theorem dX6_mostWith_5 : decode cX6_mostWith 5 = .ok (.aload_n 0, 1) := by decide +kernel
theorem dX6_mostWith_6 : decode cX6_mostWith 6 = .ok (.getfield 76, 3) := by decide +kernel
theorem dX6_mostWith_9 : decode cX6_mostWith 9 = .ok (.ireturn, 1) := by decide +kernel
theorem dX6_most_0 : decode cX6_most 0 = .ok (.iload_n 1, 1) := by decide +kernel
theorem dX6_most_1 : decode cX6_most 1 = .ok (.iconst 0, 1) := by decide +kernel
theorem dX6_most_2 : decode cX6_most 2 = .ok (.iconst 1, 1) := by decide +kernel
theorem dX6_most_3 : decode cX6_most 3 = .ok (.invokestatic 51, 3) := by decide +kernel
theorem dX6_most_6 : decode cX6_most 6 = .ok (.ifCond .eq 17, 3) := by decide +kernel
theorem dX6_most_9 : decode cX6_most 9 = .ok (.aload_n 0, 1) := by decide +kernel
theorem dX6_most_10 : decode cX6_most 10 = .ok (.aload_n 0, 1) := by decide +kernel
theorem dX6_most_11 : decode cX6_most 11 = .ok (.getfield 7, 3) := by decide +kernel
theorem dX6_most_14 : decode cX6_most 14 = .ok (.bipush 7, 2) := by decide +kernel
theorem dX6_most_16 : decode cX6_most 16 = .ok (.iaload, 1) := by decide +kernel
theorem dX6_most_17 : decode cX6_most 17 = .ok (.invokevirtual 160, 3) := by decide +kernel
theorem dX6_most_20 : decode cX6_most 20 = .ok (.goto 4, 3) := by decide +kernel
theorem dX6_most_23 : decode cX6_most 23 = .ok (.iconst (-1), 1) := by decide +kernel
theorem dX6_most_24 : decode cX6_most 24 = .ok (.ireturn, 1) := by decide +kernel
theorem dX6_sumOf_0 : decode cX6_sumOf 0 = .ok (.iconst 0, 1) := by decide +kernel
theorem dX6_sumOf_1 : decode cX6_sumOf 1 = .ok (.istore_n 3, 1) := by decide +kernel
theorem dX6_sumOf_2 : decode cX6_sumOf 2 = .ok (.iconst 0, 1) := by decide +kernel
theorem dX6_sumOf_3 : decode cX6_sumOf 3 = .ok (.istore 4, 2) := by decide +kernel
theorem dX6_sumOf_5 : decode cX6_sumOf 5 = .ok (.iload 4, 2) := by decide +kernel
theorem dX6_sumOf_7 : decode cX6_sumOf 7 = .ok (.aload_n 0, 1) := by decide +kernel
theorem dX6_sumOf_8 : decode cX6_sumOf 8 = .ok (.getfield 7, 3) := by decide +kernel
theorem dX6_sumOf_11 : decode cX6_sumOf 11 = .ok (.iconst 1, 1) := by decide +kernel
theorem dX6_sumOf_12 : decode cX6_sumOf 12 = .ok (.iaload, 1) := by decide +kernel
theorem dX6_sumOf_13 : decode cX6_sumOf 13 = .ok (.if_icmp .ge 123, 3) := by decide +kernel
theorem dX6_sumOf_16 : decode cX6_sumOf 16 = .ok (.aload_n 0, 1) := by decide +kernel
theorem dX6_sumOf_17 : decode cX6_sumOf 17 = .ok (.iload 4, 2) := by decide +kernel
theorem dX6_sumOf_19 : decode cX6_sumOf 19 = .ok (.iconst 2, 1) := by decide +kernel
theorem dX6_sumOf_20 : decode cX6_sumOf 20 = .ok (.invokevirtual 65, 3) := by decide +kernel
theorem dX6_sumOf_23 : decode cX6_sumOf 23 = .ok (.iload_n 1, 1) := by decide +kernel
theorem dX6_sumOf_24 : decode cX6_sumOf 24 = .ok (.if_icmp .ne 7, 3) := by decide +kernel
theorem dX6_sumOf_27 : decode cX6_sumOf 27 = .ok (.iconst 1, 1) := by decide +kernel
theorem dX6_sumOf_28 : decode cX6_sumOf 28 = .ok (.goto 4, 3) := by decide +kernel
theorem dX6_sumOf_31 : decode cX6_sumOf 31 = .ok (.iconst 0, 1) := by decide +kernel
theorem dX6_sumOf_32 : decode cX6_sumOf 32 = .ok (.istore 5, 2) := by decide +kernel
theorem dX6_sumOf_34 : decode cX6_sumOf 34 = .ok (.iload_n 2, 1) := by decide +kernel
theorem dX6_sumOf_35 : decode cX6_sumOf 35 = .ok (.iconst 1, 1) := by decide +kernel
theorem dX6_sumOf_36 : decode cX6_sumOf 36 = .ok (.if_icmp .ne 8, 3) := by decide +kernel
theorem dX6_sumOf_39 : decode cX6_sumOf 39 = .ok (.iload 5, 2) := by decide +kernel
theorem dX6_sumOf_41 : decode cX6_sumOf 41 = .ok (.goto 74, 3) := by decide +kernel
theorem dX6_sumOf_44 : decode cX6_sumOf 44 = .ok (.iload_n 2, 1) := by decide +kernel
theorem dX6_sumOf_45 : decode cX6_sumOf 45 = .ok (.iconst 2, 1) := by decide +kernel
theorem dX6_sumOf_46 : decode cX6_sumOf 46 = .ok (.if_icmp .ne 25, 3) := by decide +kernel
theorem dX6_sumOf_49 : decode cX6_sumOf 49 = .ok (.iload 5, 2) := by decide +kernel
theorem dX6_sumOf_51 : decode cX6_sumOf 51 = .ok (.ifCond .eq 16, 3) := by decide +kernel
theorem dX6_sumOf_54 : decode cX6_sumOf 54 = .ok (.aload_n 0, 1) := by decide +kernel
theorem dX6_sumOf_55 : decode cX6_sumOf 55 = .ok (.iload 4, 2) := by decide +kernel
theorem dX6_sumOf_57 : decode cX6_sumOf 57 = .ok (.invokevirtual 68, 3) := by decide +kernel
theorem dX6_sumOf_60 : decode cX6_sumOf 60 = .ok (.ifCond .ne 7, 3) := by decide +kernel
theorem dX6_sumOf_63 : decode cX6_sumOf 63 = .ok (.iconst 1, 1) := by decide +kernel
theorem dX6_sumOf_64 : decode cX6_sumOf 64 = .ok (.goto 51, 3) := by decide +kernel
theorem dX6_sumOf_67 : decode cX6_sumOf 67 = .ok (.iconst 0, 1) := by decide +kernel
theorem dX6_sumOf_68 : decode cX6_sumOf 68 = .ok (.goto 47, 3) := by decide +kernel
theorem dX6_sumOf_71 : decode cX6_sumOf 71 = .ok (.iload_n 2, 1) := by decide +kernel
theorem dX6_sumOf_72 : decode cX6_sumOf 72 = .ok (.iconst 3, 1) := by decide +kernel
theorem dX6_sumOf_73 : decode cX6_sumOf 73 = .ok (.if_icmp .ne 26, 3) := by decide +kernel
theorem dX6_sumOf_76 : decode cX6_sumOf 76 = .ok (.aload_n 0, 1) := by decide +kernel
theorem dX6_sumOf_77 : decode cX6_sumOf 77 = .ok (.iload 4, 2) := by decide +kernel
theorem dX6_sumOf_79 : decode cX6_sumOf 79 = .ok (.iconst 1, 1) := by decide +kernel
theorem dX6_sumOf_80 : decode cX6_sumOf 80 = .ok (.invokevirtual 65, 3) := by decide +kernel
theorem dX6_sumOf_83 : decode cX6_sumOf 83 = .ok (.iload_n 1, 1) := by decide +kernel
theorem dX6_sumOf_84 : decode cX6_sumOf 84 = .ok (.ishr, 1) := by decide +kernel
theorem dX6_sumOf_85 : decode cX6_sumOf 85 = .ok (.iconst 1, 1) := by decide +kernel
theorem dX6_sumOf_86 : decode cX6_sumOf 86 = .ok (.iand, 1) := by decide +kernel
theorem dX6_sumOf_87 : decode cX6_sumOf 87 = .ok (.iconst 1, 1) := by decide +kernel
theorem dX6_sumOf_88 : decode cX6_sumOf 88 = .ok (.if_icmp .ne 7, 3) := by decide +kernel
theorem dX6_sumOf_91 : decode cX6_sumOf 91 = .ok (.iconst 1, 1) := by decide +kernel
theorem dX6_sumOf_92 : decode cX6_sumOf 92 = .ok (.goto 23, 3) := by decide +kernel
theorem dX6_sumOf_95 : decode cX6_sumOf 95 = .ok (.iconst 0, 1) := by decide +kernel
theorem dX6_sumOf_96 : decode cX6_sumOf 96 = .ok (.goto 19, 3) := by decide +kernel
theorem dX6_sumOf_99 : decode cX6_sumOf 99 = .ok (.aload_n 0, 1) := by decide +kernel
theorem dX6_sumOf_100 : decode cX6_sumOf 100 = .ok (.iload 4, 2) := by decide +kernel
theorem dX6_sumOf_102 : decode cX6_sumOf 102 = .ok (.iconst 0, 1) := by decide +kernel
theorem dX6_sumOf_103 : decode cX6_sumOf 103 = .ok (.invokevirtual 65, 3) := by decide +kernel
theorem dX6_sumOf_106 : decode cX6_sumOf 106 = .ok (.iload_n 1, 1) := by decide +kernel
theorem dX6_sumOf_107 : decode cX6_sumOf 107 = .ok (.if_icmp .ne 7, 3) := by decide +kernel
theorem dX6_sumOf_110 : decode cX6_sumOf 110 = .ok (.iconst 1, 1) := by decide +kernel
theorem dX6_sumOf_111 : decode cX6_sumOf 111 = .ok (.goto 4, 3) := by decide +kernel
theorem dX6_sumOf_114 : decode cX6_sumOf 114 = .ok (.iconst 0, 1) := by decide +kernel
theorem dX6_sumOf_115 : decode cX6_sumOf 115 = .ok (.istore 6, 2) := by decide +kernel
theorem dX6_sumOf_117 : decode cX6_sumOf 117 = .ok (.iload_n 3, 1) := by decide +kernel
theorem dX6_sumOf_118 : decode cX6_sumOf 118 = .ok (.iload 6, 2) := by decide +kernel
theorem dX6_sumOf_120 : decode cX6_sumOf 120 = .ok (.ifCond .eq 7, 3) := by decide +kernel
theorem dX6_sumOf_123 : decode cX6_sumOf 123 = .ok (.iconst 1, 1) := by decide +kernel
theorem dX6_sumOf_124 : decode cX6_sumOf 124 = .ok (.goto 4, 3) := by decide +kernel
theorem dX6_sumOf_127 : decode cX6_sumOf 127 = .ok (.iconst 0, 1) := by decide +kernel
theorem dX6_sumOf_128 : decode cX6_sumOf 128 = .ok (.iadd, 1) := by decide +kernel
theorem dX6_sumOf_129 : decode cX6_sumOf 129 = .ok (.istore_n 3, 1) := by decide +kernel
theorem dX6_sumOf_130 : decode cX6_sumOf 130 = .ok (.iinc 4 1, 3) := by decide +kernel
theorem dX6_sumOf_133 : decode cX6_sumOf 133 = .ok (.goto (-128), 3) := by decide +kernel
theorem dX6_sumOf_136 : decode cX6_sumOf 136 = .ok (.iload_n 3, 1) := by decide +kernel
theorem dX6_sumOf_137 : decode cX6_sumOf 137 = .ok (.ireturn, 1) := by decide +kernel
theorem dX6_kind_0 : decode cX6_kind 0 = .ok (.iload_n 1, 1) := by decide +kernel
theorem dX6_kind_1 : decode cX6_kind 1 = .ok (.invokestatic 105, 3) := by decide +kernel
theorem dX6_kind_4 : decode cX6_kind 4 = .ok (.ifCond .ne 5, 3) := by decide +kernel
theorem dX6_kind_7 : decode cX6_kind 7 = .ok (.iconst (-1), 1) := by decide +kernel
theorem dX6_kind_8 : decode cX6_kind 8 = .ok (.ireturn, 1) := by decide +kernel
theorem dX6_kind_9 : decode cX6_kind 9 = .ok (.iload_n 2, 1) := by decide +kernel
theorem dX6_kind_10 : decode cX6_kind 10 = .ok (.ifCond .ne 16, 3) := by decide +kernel
theorem dX6_kind_13 : decode cX6_kind 13 = .ok (.aload_n 0, 1) := by decide +kernel
theorem dX6_kind_14 : decode cX6_kind 14 = .ok (.getfield 7, 3) := by decide +kernel
theorem dX6_kind_17 : decode cX6_kind 17 = .ok (.iload_n 1, 1) := by decide +kernel
theorem dX6_kind_18 : decode cX6_kind 18 = .ok (.iconst 0, 1) := by decide +kernel
theorem dX6_kind_19 : decode cX6_kind 19 = .ok (.invokestatic 47, 3) := by decide +kernel
theorem dX6_kind_22 : decode cX6_kind 22 = .ok (.iaload, 1) := by decide +kernel
theorem dX6_kind_23 : decode cX6_kind 23 = .ok (.goto 40, 3) := by decide +kernel
theorem dX6_kind_26 : decode cX6_kind 26 = .ok (.iload_n 2, 1) := by decide +kernel
theorem dX6_kind_27 : decode cX6_kind 27 = .ok (.iconst 1, 1) := by decide +kernel
theorem dX6_kind_28 : decode cX6_kind 28 = .ok (.iconst 4, 1) := by decide +kernel
theorem dX6_kind_29 : decode cX6_kind 29 = .ok (.invokestatic 51, 3) := by decide +kernel
theorem dX6_kind_32 : decode cX6_kind 32 = .ok (.ifCond .eq 12, 3) := by decide +kernel
theorem dX6_kind_35 : decode cX6_kind 35 = .ok (.aload_n 0, 1) := by decide +kernel
theorem dX6_kind_36 : decode cX6_kind 36 = .ok (.iload_n 1, 1) := by decide +kernel
theorem dX6_kind_37 : decode cX6_kind 37 = .ok (.iload_n 2, 1) := by decide +kernel
theorem dX6_kind_38 : decode cX6_kind 38 = .ok (.invokevirtual 163, 3) := by decide +kernel
theorem dX6_kind_41 : decode cX6_kind 41 = .ok (.goto 22, 3) := by decide +kernel
theorem dX6_kind_44 : decode cX6_kind 44 = .ok (.iload_n 2, 1) := by decide +kernel
theorem dX6_kind_45 : decode cX6_kind 45 = .ok (.iconst 5, 1) := by decide +kernel
theorem dX6_kind_46 : decode cX6_kind 46 = .ok (.if_icmp .ne 16, 3) := by decide +kernel
theorem dX6_kind_49 : decode cX6_kind 49 = .ok (.aload_n 0, 1) := by decide +kernel
theorem dX6_kind_50 : decode cX6_kind 50 = .ok (.getfield 7, 3) := by decide +kernel
theorem dX6_kind_53 : decode cX6_kind 53 = .ok (.iload_n 1, 1) := by decide +kernel
theorem dX6_kind_54 : decode cX6_kind 54 = .ok (.iconst 1, 1) := by decide +kernel
theorem dX6_kind_55 : decode cX6_kind 55 = .ok (.invokestatic 47, 3) := by decide +kernel
theorem dX6_kind_58 : decode cX6_kind 58 = .ok (.iaload, 1) := by decide +kernel
theorem dX6_kind_59 : decode cX6_kind 59 = .ok (.goto 4, 3) := by decide +kernel
theorem dX6_kind_62 : decode cX6_kind 62 = .ok (.iconst (-1), 1) := by decide +kernel
theorem dX6_kind_63 : decode cX6_kind 63 = .ok (.ireturn, 1) := by decide +kernel
theorem dX6_needs_0 : decode cX6_needs 0 = .ok (.iconst 0, 1) := by decide +kernel
theorem dX6_needs_1 : decode cX6_needs 1 = .ok (.istore_n 1, 1) := by decide +kernel
theorem dX6_needs_2 : decode cX6_needs 2 = .ok (.iconst 0, 1) := by decide +kernel
theorem dX6_needs_3 : decode cX6_needs 3 = .ok (.istore_n 2, 1) := by decide +kernel
theorem dX6_needs_4 : decode cX6_needs 4 = .ok (.iload_n 2, 1) := by decide +kernel
theorem dX6_needs_5 : decode cX6_needs 5 = .ok (.aload_n 0, 1) := by decide +kernel
theorem dX6_needs_6 : decode cX6_needs 6 = .ok (.getfield 7, 3) := by decide +kernel
theorem dX6_needs_9 : decode cX6_needs 9 = .ok (.iconst 1, 1) := by decide +kernel
theorem dX6_needs_10 : decode cX6_needs 10 = .ok (.iaload, 1) := by decide +kernel
theorem dX6_needs_11 : decode cX6_needs 11 = .ok (.if_icmp .ge 21, 3) := by decide +kernel
theorem dX6_needs_14 : decode cX6_needs 14 = .ok (.iload_n 1, 1) := by decide +kernel
theorem dX6_needs_15 : decode cX6_needs 15 = .ok (.aload_n 0, 1) := by decide +kernel
theorem dX6_needs_16 : decode cX6_needs 16 = .ok (.iload_n 2, 1) := by decide +kernel
theorem dX6_needs_17 : decode cX6_needs 17 = .ok (.iconst 1, 1) := by decide +kernel
theorem dX6_needs_18 : decode cX6_needs 18 = .ok (.invokevirtual 65, 3) := by decide +kernel
theorem dX6_needs_21 : decode cX6_needs 21 = .ok (.invokestatic 166, 3) := by decide +kernel
theorem dX6_needs_24 : decode cX6_needs 24 = .ok (.iadd, 1) := by decide +kernel
theorem dX6_needs_25 : decode cX6_needs 25 = .ok (.istore_n 1, 1) := by decide +kernel
theorem dX6_needs_26 : decode cX6_needs 26 = .ok (.iinc 2 1, 3) := by decide +kernel
theorem dX6_needs_29 : decode cX6_needs 29 = .ok (.goto (-25), 3) := by decide +kernel
theorem dX6_needs_32 : decode cX6_needs 32 = .ok (.iload_n 1, 1) := by decide +kernel
theorem dX6_needs_33 : decode cX6_needs 33 = .ok (.ireturn, 1) := by decide +kernel
theorem dX6_spoilt_0 : decode cX6_spoilt 0 = .ok (.iconst 0, 1) := by decide +kernel
theorem dX6_spoilt_1 : decode cX6_spoilt 1 = .ok (.istore_n 1, 1) := by decide +kernel
theorem dX6_spoilt_2 : decode cX6_spoilt 2 = .ok (.iconst 0, 1) := by decide +kernel
theorem dX6_spoilt_3 : decode cX6_spoilt 3 = .ok (.istore_n 2, 1) := by decide +kernel
theorem dX6_spoilt_4 : decode cX6_spoilt 4 = .ok (.iload_n 2, 1) := by decide +kernel
theorem dX6_spoilt_5 : decode cX6_spoilt 5 = .ok (.aload_n 0, 1) := by decide +kernel
theorem dX6_spoilt_6 : decode cX6_spoilt 6 = .ok (.getfield 7, 3) := by decide +kernel
theorem dX6_spoilt_9 : decode cX6_spoilt 9 = .ok (.iconst 1, 1) := by decide +kernel
theorem dX6_spoilt_10 : decode cX6_spoilt 10 = .ok (.iaload, 1) := by decide +kernel
theorem dX6_spoilt_11 : decode cX6_spoilt 11 = .ok (.if_icmp .ge 25, 3) := by decide +kernel
theorem dX6_spoilt_14 : decode cX6_spoilt 14 = .ok (.iload_n 1, 1) := by decide +kernel
theorem dX6_spoilt_15 : decode cX6_spoilt 15 = .ok (.aload_n 0, 1) := by decide +kernel
theorem dX6_spoilt_16 : decode cX6_spoilt 16 = .ok (.iload_n 2, 1) := by decide +kernel
theorem dX6_spoilt_17 : decode cX6_spoilt 17 = .ok (.invokevirtual 68, 3) := by decide +kernel
theorem dX6_spoilt_20 : decode cX6_spoilt 20 = .ok (.ifCond .ne 7, 3) := by decide +kernel
theorem dX6_spoilt_23 : decode cX6_spoilt 23 = .ok (.iconst 1, 1) := by decide +kernel
theorem dX6_spoilt_24 : decode cX6_spoilt 24 = .ok (.goto 4, 3) := by decide +kernel
theorem dX6_spoilt_27 : decode cX6_spoilt 27 = .ok (.iconst 0, 1) := by decide +kernel
theorem dX6_spoilt_28 : decode cX6_spoilt 28 = .ok (.iadd, 1) := by decide +kernel
theorem dX6_spoilt_29 : decode cX6_spoilt 29 = .ok (.istore_n 1, 1) := by decide +kernel
theorem dX6_spoilt_30 : decode cX6_spoilt 30 = .ok (.iinc 2 1, 3) := by decide +kernel
theorem dX6_spoilt_33 : decode cX6_spoilt 33 = .ok (.goto (-29), 3) := by decide +kernel
theorem dX6_spoilt_36 : decode cX6_spoilt 36 = .ok (.iload_n 1, 1) := by decide +kernel
theorem dX6_spoilt_37 : decode cX6_spoilt 37 = .ok (.ireturn, 1) := by decide +kernel
theorem dX6_stuck_0 : decode cX6_stuck 0 = .ok (.iconst 0, 1) := by decide +kernel
theorem dX6_stuck_1 : decode cX6_stuck 1 = .ok (.istore_n 1, 1) := by decide +kernel
theorem dX6_stuck_2 : decode cX6_stuck 2 = .ok (.iconst 0, 1) := by decide +kernel
theorem dX6_stuck_3 : decode cX6_stuck 3 = .ok (.istore_n 2, 1) := by decide +kernel
theorem dX6_stuck_4 : decode cX6_stuck 4 = .ok (.iload_n 2, 1) := by decide +kernel
theorem dX6_stuck_5 : decode cX6_stuck 5 = .ok (.aload_n 0, 1) := by decide +kernel
theorem dX6_stuck_6 : decode cX6_stuck 6 = .ok (.getfield 7, 3) := by decide +kernel
theorem dX6_stuck_9 : decode cX6_stuck 9 = .ok (.iconst 1, 1) := by decide +kernel
theorem dX6_stuck_10 : decode cX6_stuck 10 = .ok (.iaload, 1) := by decide +kernel
theorem dX6_stuck_11 : decode cX6_stuck 11 = .ok (.if_icmp .ge 34, 3) := by decide +kernel
theorem dX6_stuck_14 : decode cX6_stuck 14 = .ok (.iload_n 1, 1) := by decide +kernel
theorem dX6_stuck_15 : decode cX6_stuck 15 = .ok (.aload_n 0, 1) := by decide +kernel
theorem dX6_stuck_16 : decode cX6_stuck 16 = .ok (.iload_n 2, 1) := by decide +kernel
theorem dX6_stuck_17 : decode cX6_stuck 17 = .ok (.iconst 1, 1) := by decide +kernel
theorem dX6_stuck_18 : decode cX6_stuck 18 = .ok (.invokevirtual 65, 3) := by decide +kernel
theorem dX6_stuck_21 : decode cX6_stuck 21 = .ok (.ifCond .le 15, 3) := by decide +kernel
theorem dX6_stuck_24 : decode cX6_stuck 24 = .ok (.aload_n 0, 1) := by decide +kernel
theorem dX6_stuck_25 : decode cX6_stuck 25 = .ok (.iload_n 2, 1) := by decide +kernel
theorem dX6_stuck_26 : decode cX6_stuck 26 = .ok (.invokevirtual 151, 3) := by decide +kernel
theorem dX6_stuck_29 : decode cX6_stuck 29 = .ok (.ifCond .ne 7, 3) := by decide +kernel
theorem dX6_stuck_32 : decode cX6_stuck 32 = .ok (.iconst 1, 1) := by decide +kernel
theorem dX6_stuck_33 : decode cX6_stuck 33 = .ok (.goto 4, 3) := by decide +kernel
theorem dX6_stuck_36 : decode cX6_stuck 36 = .ok (.iconst 0, 1) := by decide +kernel
theorem dX6_stuck_37 : decode cX6_stuck 37 = .ok (.iadd, 1) := by decide +kernel
theorem dX6_stuck_38 : decode cX6_stuck 38 = .ok (.istore_n 1, 1) := by decide +kernel
theorem dX6_stuck_39 : decode cX6_stuck 39 = .ok (.iinc 2 1, 3) := by decide +kernel
theorem dX6_stuck_42 : decode cX6_stuck 42 = .ok (.goto (-38), 3) := by decide +kernel
theorem dX6_stuck_45 : decode cX6_stuck 45 = .ok (.iload_n 1, 1) := by decide +kernel
theorem dX6_stuck_46 : decode cX6_stuck 46 = .ok (.ireturn, 1) := by decide +kernel
theorem dX6_count_0 : decode cX6_count 0 = .ok (.iload_n 1, 1) := by decide +kernel
theorem dX6_count_1 : decode cX6_count 1 = .ok (.tableswitch 155 0 15 #[79, 79, 86, 91, 98, 110, 115, 115, 115, 115, 127, 132, 132, 132, 145, 150], 79) := by decide +kernel
theorem dX6_count_80 : decode cX6_count 80 = .ok (.aload_n 0, 1) := by decide +kernel
theorem dX6_count_81 : decode cX6_count 81 = .ok (.getfield 7, 3) := by decide +kernel
theorem dX6_count_84 : decode cX6_count 84 = .ok (.iload_n 1, 1) := by decide +kernel
theorem dX6_count_85 : decode cX6_count 85 = .ok (.iaload, 1) := by decide +kernel
theorem dX6_count_86 : decode cX6_count 86 = .ok (.ireturn, 1) := by decide +kernel
theorem dX6_count_87 : decode cX6_count 87 = .ok (.aload_n 0, 1) := by decide +kernel
theorem dX6_count_88 : decode cX6_count 88 = .ok (.invokevirtual 169, 3) := by decide +kernel
theorem dX6_count_91 : decode cX6_count 91 = .ok (.ireturn, 1) := by decide +kernel
theorem dX6_count_92 : decode cX6_count 92 = .ok (.aload_n 0, 1) := by decide +kernel
theorem dX6_count_93 : decode cX6_count 93 = .ok (.getfield 7, 3) := by decide +kernel
theorem dX6_count_96 : decode cX6_count 96 = .ok (.iconst 2, 1) := by decide +kernel
theorem dX6_count_97 : decode cX6_count 97 = .ok (.iaload, 1) := by decide +kernel
theorem dX6_count_98 : decode cX6_count 98 = .ok (.ireturn, 1) := by decide +kernel
theorem dX6_count_99 : decode cX6_count 99 = .ok (.aload_n 0, 1) := by decide +kernel
theorem dX6_count_100 : decode cX6_count 100 = .ok (.getfield 7, 3) := by decide +kernel
theorem dX6_count_103 : decode cX6_count 103 = .ok (.iconst 1, 1) := by decide +kernel
theorem dX6_count_104 : decode cX6_count 104 = .ok (.iaload, 1) := by decide +kernel
theorem dX6_count_105 : decode cX6_count 105 = .ok (.aload_n 0, 1) := by decide +kernel
theorem dX6_count_106 : decode cX6_count 106 = .ok (.invokevirtual 172, 3) := by decide +kernel
theorem dX6_count_109 : decode cX6_count 109 = .ok (.isub, 1) := by decide +kernel
theorem dX6_count_110 : decode cX6_count 110 = .ok (.ireturn, 1) := by decide +kernel
theorem dX6_count_111 : decode cX6_count 111 = .ok (.aload_n 0, 1) := by decide +kernel
theorem dX6_count_112 : decode cX6_count 112 = .ok (.invokevirtual 172, 3) := by decide +kernel
theorem dX6_count_115 : decode cX6_count 115 = .ok (.ireturn, 1) := by decide +kernel
theorem dX6_count_116 : decode cX6_count 116 = .ok (.aload_n 0, 1) := by decide +kernel
theorem dX6_count_117 : decode cX6_count 117 = .ok (.getfield 7, 3) := by decide +kernel
theorem dX6_count_120 : decode cX6_count 120 = .ok (.iconst 3, 1) := by decide +kernel
theorem dX6_count_121 : decode cX6_count 121 = .ok (.iload_n 1, 1) := by decide +kernel
theorem dX6_count_122 : decode cX6_count 122 = .ok (.iadd, 1) := by decide +kernel
theorem dX6_count_123 : decode cX6_count 123 = .ok (.bipush 6, 2) := by decide +kernel
theorem dX6_count_125 : decode cX6_count 125 = .ok (.isub, 1) := by decide +kernel
theorem dX6_count_126 : decode cX6_count 126 = .ok (.iaload, 1) := by decide +kernel
theorem dX6_count_127 : decode cX6_count 127 = .ok (.ireturn, 1) := by decide +kernel
theorem dX6_count_128 : decode cX6_count 128 = .ok (.aload_n 0, 1) := by decide +kernel
theorem dX6_count_129 : decode cX6_count 129 = .ok (.invokevirtual 175, 3) := by decide +kernel
theorem dX6_count_132 : decode cX6_count 132 = .ok (.ireturn, 1) := by decide +kernel
theorem dX6_count_133 : decode cX6_count 133 = .ok (.aload_n 0, 1) := by decide +kernel
theorem dX6_count_134 : decode cX6_count 134 = .ok (.getfield 7, 3) := by decide +kernel
theorem dX6_count_137 : decode cX6_count 137 = .ok (.bipush 7, 2) := by decide +kernel
theorem dX6_count_139 : decode cX6_count 139 = .ok (.iload_n 1, 1) := by decide +kernel
theorem dX6_count_140 : decode cX6_count 140 = .ok (.iadd, 1) := by decide +kernel
theorem dX6_count_141 : decode cX6_count 141 = .ok (.bipush 11, 2) := by decide +kernel
theorem dX6_count_143 : decode cX6_count 143 = .ok (.isub, 1) := by decide +kernel
theorem dX6_count_144 : decode cX6_count 144 = .ok (.iaload, 1) := by decide +kernel
theorem dX6_count_145 : decode cX6_count 145 = .ok (.ireturn, 1) := by decide +kernel
theorem dX6_count_146 : decode cX6_count 146 = .ok (.aload_n 0, 1) := by decide +kernel
theorem dX6_count_147 : decode cX6_count 147 = .ok (.getfield 130, 3) := by decide +kernel
theorem dX6_count_150 : decode cX6_count 150 = .ok (.ireturn, 1) := by decide +kernel
theorem dX6_count_151 : decode cX6_count 151 = .ok (.aload_n 0, 1) := by decide +kernel
theorem dX6_count_152 : decode cX6_count 152 = .ok (.getfield 62, 3) := by decide +kernel
theorem dX6_count_155 : decode cX6_count 155 = .ok (.ireturn, 1) := by decide +kernel
theorem dX6_count_156 : decode cX6_count 156 = .ok (.iconst (-1), 1) := by decide +kernel
theorem dX6_count_157 : decode cX6_count 157 = .ok (.ireturn, 1) := by decide +kernel
theorem dX6_freshness_0 : decode cX6_freshness 0 = .ok (.iconst 0, 1) := by decide +kernel
theorem dX6_freshness_1 : decode cX6_freshness 1 = .ok (.istore_n 1, 1) := by decide +kernel
theorem dX6_freshness_2 : decode cX6_freshness 2 = .ok (.iconst 0, 1) := by decide +kernel
theorem dX6_freshness_3 : decode cX6_freshness 3 = .ok (.istore_n 2, 1) := by decide +kernel
theorem dX6_freshness_4 : decode cX6_freshness 4 = .ok (.iload_n 2, 1) := by decide +kernel
theorem dX6_freshness_5 : decode cX6_freshness 5 = .ok (.aload_n 0, 1) := by decide +kernel
theorem dX6_freshness_6 : decode cX6_freshness 6 = .ok (.getfield 7, 3) := by decide +kernel
theorem dX6_freshness_9 : decode cX6_freshness 9 = .ok (.iconst 1, 1) := by decide +kernel
theorem dX6_freshness_10 : decode cX6_freshness 10 = .ok (.iaload, 1) := by decide +kernel
theorem dX6_freshness_11 : decode cX6_freshness 11 = .ok (.if_icmp .ge 17, 3) := by decide +kernel
theorem dX6_freshness_14 : decode cX6_freshness 14 = .ok (.iload_n 1, 1) := by decide +kernel
theorem dX6_freshness_15 : decode cX6_freshness 15 = .ok (.aload_n 0, 1) := by decide +kernel
theorem dX6_freshness_16 : decode cX6_freshness 16 = .ok (.iload_n 2, 1) := by decide +kernel
theorem dX6_freshness_17 : decode cX6_freshness 17 = .ok (.invokevirtual 68, 3) := by decide +kernel
theorem dX6_freshness_20 : decode cX6_freshness 20 = .ok (.iadd, 1) := by decide +kernel
theorem dX6_freshness_21 : decode cX6_freshness 21 = .ok (.istore_n 1, 1) := by decide +kernel
theorem dX6_freshness_22 : decode cX6_freshness 22 = .ok (.iinc 2 1, 3) := by decide +kernel
theorem dX6_freshness_25 : decode cX6_freshness 25 = .ok (.goto (-21), 3) := by decide +kernel
theorem dX6_freshness_28 : decode cX6_freshness 28 = .ok (.aload_n 0, 1) := by decide +kernel
theorem dX6_freshness_29 : decode cX6_freshness 29 = .ok (.getfield 7, 3) := by decide +kernel
theorem dX6_freshness_32 : decode cX6_freshness 32 = .ok (.iconst 1, 1) := by decide +kernel
theorem dX6_freshness_33 : decode cX6_freshness 33 = .ok (.iaload, 1) := by decide +kernel
theorem dX6_freshness_34 : decode cX6_freshness 34 = .ok (.aload_n 0, 1) := by decide +kernel
theorem dX6_freshness_35 : decode cX6_freshness 35 = .ok (.invokevirtual 172, 3) := by decide +kernel
theorem dX6_freshness_38 : decode cX6_freshness 38 = .ok (.isub, 1) := by decide +kernel
theorem dX6_freshness_39 : decode cX6_freshness 39 = .ok (.istore_n 2, 1) := by decide +kernel
theorem dX6_freshness_40 : decode cX6_freshness 40 = .ok (.iload_n 2, 1) := by decide +kernel
theorem dX6_freshness_41 : decode cX6_freshness 41 = .ok (.ifCond .ne 7, 3) := by decide +kernel
theorem dX6_freshness_44 : decode cX6_freshness 44 = .ok (.dconst 0, 1) := by decide +kernel
theorem dX6_freshness_45 : decode cX6_freshness 45 = .ok (.goto 8, 3) := by decide +kernel
theorem dX6_freshness_48 : decode cX6_freshness 48 = .ok (.iload_n 1, 1) := by decide +kernel
theorem dX6_freshness_49 : decode cX6_freshness 49 = .ok (.i2d, 1) := by decide +kernel
theorem dX6_freshness_50 : decode cX6_freshness 50 = .ok (.iload_n 2, 1) := by decide +kernel
theorem dX6_freshness_51 : decode cX6_freshness 51 = .ok (.i2d, 1) := by decide +kernel
theorem dX6_freshness_52 : decode cX6_freshness 52 = .ok (.ddiv, 1) := by decide +kernel
theorem dX6_freshness_53 : decode cX6_freshness 53 = .ok (.dreturn, 1) := by decide +kernel
theorem dX6_ifCircle_0 : decode cX6_ifCircle 0 = .ok (.iload_n 1, 1) := by decide +kernel
theorem dX6_ifCircle_1 : decode cX6_ifCircle 1 = .ok (.iconst 2, 1) := by decide +kernel
theorem dX6_ifCircle_2 : decode cX6_ifCircle 2 = .ok (.bipush 7, 2) := by decide +kernel
theorem dX6_ifCircle_4 : decode cX6_ifCircle 4 = .ok (.invokestatic 51, 3) := by decide +kernel
theorem dX6_ifCircle_7 : decode cX6_ifCircle 7 = .ok (.ifCond .eq 11, 3) := by decide +kernel
theorem dX6_ifCircle_10 : decode cX6_ifCircle 10 = .ok (.aload_n 0, 1) := by decide +kernel
theorem dX6_ifCircle_11 : decode cX6_ifCircle 11 = .ok (.iload_n 1, 1) := by decide +kernel
theorem dX6_ifCircle_12 : decode cX6_ifCircle 12 = .ok (.invokevirtual 160, 3) := by decide +kernel
theorem dX6_ifCircle_15 : decode cX6_ifCircle 15 = .ok (.goto 4, 3) := by decide +kernel
theorem dX6_ifCircle_18 : decode cX6_ifCircle 18 = .ok (.iconst (-1), 1) := by decide +kernel
theorem dX6_ifCircle_19 : decode cX6_ifCircle 19 = .ok (.ireturn, 1) := by decide +kernel
theorem dX6_ifDays_0 : decode cX6_ifDays 0 = .ok (.iload_n 1, 1) := by decide +kernel
theorem dX6_ifDays_1 : decode cX6_ifDays 1 = .ok (.iconst 1, 1) := by decide +kernel
theorem dX6_ifDays_2 : decode cX6_ifDays 2 = .ok (.bipush 20, 2) := by decide +kernel
theorem dX6_ifDays_4 : decode cX6_ifDays 4 = .ok (.invokestatic 51, 3) := by decide +kernel
theorem dX6_ifDays_7 : decode cX6_ifDays 7 = .ok (.ifCond .eq 12, 3) := by decide +kernel
theorem dX6_ifDays_10 : decode cX6_ifDays 10 = .ok (.iload_n 2, 1) := by decide +kernel
theorem dX6_ifDays_11 : decode cX6_ifDays 11 = .ok (.iconst 0, 1) := by decide +kernel
theorem dX6_ifDays_12 : decode cX6_ifDays 12 = .ok (.iconst 2, 1) := by decide +kernel
theorem dX6_ifDays_13 : decode cX6_ifDays 13 = .ok (.invokestatic 51, 3) := by decide +kernel
theorem dX6_ifDays_16 : decode cX6_ifDays 16 = .ok (.ifCond .ne 5, 3) := by decide +kernel
theorem dX6_ifDays_19 : decode cX6_ifDays 19 = .ok (.iconst (-1), 1) := by decide +kernel
theorem dX6_ifDays_20 : decode cX6_ifDays 20 = .ok (.ireturn, 1) := by decide +kernel
theorem dX6_ifDays_21 : decode cX6_ifDays 21 = .ok (.aload_n 0, 1) := by decide +kernel
theorem dX6_ifDays_22 : decode cX6_ifDays 22 = .ok (.invokevirtual 178, 3) := by decide +kernel
theorem dX6_ifDays_25 : decode cX6_ifDays 25 = .ok (.aload_n 0, 1) := by decide +kernel
theorem dX6_ifDays_26 : decode cX6_ifDays 26 = .ok (.getfield 7, 3) := by decide +kernel
theorem dX6_ifDays_29 : decode cX6_ifDays 29 = .ok (.iconst 2, 1) := by decide +kernel
theorem dX6_ifDays_30 : decode cX6_ifDays 30 = .ok (.iaload, 1) := by decide +kernel
theorem dX6_ifDays_31 : decode cX6_ifDays 31 = .ok (.istore_n 3, 1) := by decide +kernel
theorem dX6_ifDays_32 : decode cX6_ifDays 32 = .ok (.aload_n 0, 1) := by decide +kernel
theorem dX6_ifDays_33 : decode cX6_ifDays 33 = .ok (.getfield 7, 3) := by decide +kernel
theorem dX6_ifDays_36 : decode cX6_ifDays 36 = .ok (.iconst 3, 1) := by decide +kernel
theorem dX6_ifDays_37 : decode cX6_ifDays 37 = .ok (.iaload, 1) := by decide +kernel
theorem dX6_ifDays_38 : decode cX6_ifDays 38 = .ok (.istore 4, 2) := by decide +kernel
theorem dX6_ifDays_40 : decode cX6_ifDays 40 = .ok (.iconst 0, 1) := by decide +kernel
theorem dX6_ifDays_41 : decode cX6_ifDays 41 = .ok (.istore 5, 2) := by decide +kernel
theorem dX6_ifDays_43 : decode cX6_ifDays 43 = .ok (.iload 5, 2) := by decide +kernel
theorem dX6_ifDays_45 : decode cX6_ifDays 45 = .ok (.iload_n 1, 1) := by decide +kernel
theorem dX6_ifDays_46 : decode cX6_ifDays 46 = .ok (.if_icmp .ge 21, 3) := by decide +kernel
theorem dX6_ifDays_49 : decode cX6_ifDays 49 = .ok (.aload_n 0, 1) := by decide +kernel
theorem dX6_ifDays_50 : decode cX6_ifDays 50 = .ok (.invokevirtual 123, 3) := by decide +kernel
theorem dX6_ifDays_53 : decode cX6_ifDays 53 = .ok (.istore 6, 2) := by decide +kernel
theorem dX6_ifDays_55 : decode cX6_ifDays 55 = .ok (.aload_n 0, 1) := by decide +kernel
theorem dX6_ifDays_56 : decode cX6_ifDays 56 = .ok (.invokevirtual 127, 3) := by decide +kernel
theorem dX6_ifDays_59 : decode cX6_ifDays 59 = .ok (.istore 7, 2) := by decide +kernel
theorem dX6_ifDays_61 : decode cX6_ifDays 61 = .ok (.iinc 5 1, 3) := by decide +kernel
theorem dX6_ifDays_64 : decode cX6_ifDays 64 = .ok (.goto (-21), 3) := by decide +kernel
theorem dX6_ifDays_67 : decode cX6_ifDays 67 = .ok (.iload_n 2, 1) := by decide +kernel
theorem dX6_ifDays_68 : decode cX6_ifDays 68 = .ok (.ifCond .ne 14, 3) := by decide +kernel
theorem dX6_ifDays_71 : decode cX6_ifDays 71 = .ok (.aload_n 0, 1) := by decide +kernel
theorem dX6_ifDays_72 : decode cX6_ifDays 72 = .ok (.getfield 7, 3) := by decide +kernel
theorem dX6_ifDays_75 : decode cX6_ifDays 75 = .ok (.iconst 2, 1) := by decide +kernel
theorem dX6_ifDays_76 : decode cX6_ifDays 76 = .ok (.iaload, 1) := by decide +kernel
theorem dX6_ifDays_77 : decode cX6_ifDays 77 = .ok (.iload_n 3, 1) := by decide +kernel
theorem dX6_ifDays_78 : decode cX6_ifDays 78 = .ok (.isub, 1) := by decide +kernel
theorem dX6_ifDays_79 : decode cX6_ifDays 79 = .ok (.goto 24, 3) := by decide +kernel
theorem dX6_ifDays_82 : decode cX6_ifDays 82 = .ok (.iload_n 2, 1) := by decide +kernel
theorem dX6_ifDays_83 : decode cX6_ifDays 83 = .ok (.iconst 1, 1) := by decide +kernel
theorem dX6_ifDays_84 : decode cX6_ifDays 84 = .ok (.if_icmp .ne 15, 3) := by decide +kernel
theorem dX6_ifDays_87 : decode cX6_ifDays 87 = .ok (.aload_n 0, 1) := by decide +kernel
theorem dX6_ifDays_88 : decode cX6_ifDays 88 = .ok (.getfield 7, 3) := by decide +kernel
theorem dX6_ifDays_91 : decode cX6_ifDays 91 = .ok (.iconst 3, 1) := by decide +kernel
theorem dX6_ifDays_92 : decode cX6_ifDays 92 = .ok (.iaload, 1) := by decide +kernel
theorem dX6_ifDays_93 : decode cX6_ifDays 93 = .ok (.iload 4, 2) := by decide +kernel
theorem dX6_ifDays_95 : decode cX6_ifDays 95 = .ok (.isub, 1) := by decide +kernel
theorem dX6_ifDays_96 : decode cX6_ifDays 96 = .ok (.goto 7, 3) := by decide +kernel
theorem dX6_ifDays_99 : decode cX6_ifDays 99 = .ok (.aload_n 0, 1) := by decide +kernel
theorem dX6_ifDays_100 : decode cX6_ifDays 100 = .ok (.invokevirtual 169, 3) := by decide +kernel
theorem dX6_ifDays_103 : decode cX6_ifDays 103 = .ok (.istore 5, 2) := by decide +kernel
theorem dX6_ifDays_105 : decode cX6_ifDays 105 = .ok (.aload_n 0, 1) := by decide +kernel
theorem dX6_ifDays_106 : decode cX6_ifDays 106 = .ok (.invokevirtual 181, 3) := by decide +kernel
theorem dX6_ifDays_109 : decode cX6_ifDays 109 = .ok (.iload 5, 2) := by decide +kernel
theorem dX6_ifDays_111 : decode cX6_ifDays 111 = .ok (.ireturn, 1) := by decide +kernel
theorem dX6_bestWant_0 : decode cX6_bestWant 0 = .ok (.aload_n 0, 1) := by decide +kernel
theorem dX6_bestWant_1 : decode cX6_bestWant 1 = .ok (.iload_n 1, 1) := by decide +kernel
theorem dX6_bestWant_2 : decode cX6_bestWant 2 = .ok (.invokevirtual 55, 3) := by decide +kernel
theorem dX6_bestWant_5 : decode cX6_bestWant 5 = .ok (.ifCond .ne 5, 3) := by decide +kernel
theorem dX6_bestWant_8 : decode cX6_bestWant 8 = .ok (.iconst (-1), 1) := by decide +kernel
theorem dX6_bestWant_9 : decode cX6_bestWant 9 = .ok (.ireturn, 1) := by decide +kernel
theorem dX6_bestWant_10 : decode cX6_bestWant 10 = .ok (.aload_n 0, 1) := by decide +kernel
theorem dX6_bestWant_11 : decode cX6_bestWant 11 = .ok (.iload_n 1, 1) := by decide +kernel
theorem dX6_bestWant_12 : decode cX6_bestWant 12 = .ok (.iconst 1, 1) := by decide +kernel
theorem dX6_bestWant_13 : decode cX6_bestWant 13 = .ok (.invokevirtual 65, 3) := by decide +kernel
theorem dX6_bestWant_16 : decode cX6_bestWant 16 = .ok (.istore_n 2, 1) := by decide +kernel
theorem dX6_bestWant_17 : decode cX6_bestWant 17 = .ok (.bipush (-4), 2) := by decide +kernel
theorem dX6_bestWant_19 : decode cX6_bestWant 19 = .ok (.istore_n 3, 1) := by decide +kernel
theorem dX6_bestWant_20 : decode cX6_bestWant 20 = .ok (.iconst (-1), 1) := by decide +kernel
theorem dX6_bestWant_21 : decode cX6_bestWant 21 = .ok (.istore 4, 2) := by decide +kernel
theorem dX6_bestWant_23 : decode cX6_bestWant 23 = .ok (.iconst 0, 1) := by decide +kernel
theorem dX6_bestWant_24 : decode cX6_bestWant 24 = .ok (.istore 5, 2) := by decide +kernel
theorem dX6_bestWant_26 : decode cX6_bestWant 26 = .ok (.iload 5, 2) := by decide +kernel
theorem dX6_bestWant_28 : decode cX6_bestWant 28 = .ok (.bipush 6, 2) := by decide +kernel
theorem dX6_bestWant_30 : decode cX6_bestWant 30 = .ok (.if_icmp .ge 77, 3) := by decide +kernel
theorem dX6_bestWant_33 : decode cX6_bestWant 33 = .ok (.iload_n 2, 1) := by decide +kernel
theorem dX6_bestWant_34 : decode cX6_bestWant 34 = .ok (.iload 5, 2) := by decide +kernel
theorem dX6_bestWant_36 : decode cX6_bestWant 36 = .ok (.ishr, 1) := by decide +kernel
theorem dX6_bestWant_37 : decode cX6_bestWant 37 = .ok (.iconst 1, 1) := by decide +kernel
theorem dX6_bestWant_38 : decode cX6_bestWant 38 = .ok (.iand, 1) := by decide +kernel
theorem dX6_bestWant_39 : decode cX6_bestWant 39 = .ok (.ifCond .ne 62, 3) := by decide +kernel
theorem dX6_bestWant_42 : decode cX6_bestWant 42 = .ok (.aload_n 0, 1) := by decide +kernel
theorem dX6_bestWant_43 : decode cX6_bestWant 43 = .ok (.getfield 7, 3) := by decide +kernel
theorem dX6_bestWant_46 : decode cX6_bestWant 46 = .ok (.iload_n 1, 1) := by decide +kernel
theorem dX6_bestWant_47 : decode cX6_bestWant 47 = .ok (.iconst 1, 1) := by decide +kernel
theorem dX6_bestWant_48 : decode cX6_bestWant 48 = .ok (.invokestatic 59, 3) := by decide +kernel
theorem dX6_bestWant_51 : decode cX6_bestWant 51 = .ok (.iload_n 2, 1) := by decide +kernel
theorem dX6_bestWant_52 : decode cX6_bestWant 52 = .ok (.iconst 1, 1) := by decide +kernel
theorem dX6_bestWant_53 : decode cX6_bestWant 53 = .ok (.iload 5, 2) := by decide +kernel
theorem dX6_bestWant_55 : decode cX6_bestWant 55 = .ok (.ishl, 1) := by decide +kernel
theorem dX6_bestWant_56 : decode cX6_bestWant 56 = .ok (.ior, 1) := by decide +kernel
theorem dX6_bestWant_57 : decode cX6_bestWant 57 = .ok (.iastore, 1) := by decide +kernel
theorem dX6_bestWant_58 : decode cX6_bestWant 58 = .ok (.aload_n 0, 1) := by decide +kernel
theorem dX6_bestWant_59 : decode cX6_bestWant 59 = .ok (.aload_n 0, 1) := by decide +kernel
theorem dX6_bestWant_60 : decode cX6_bestWant 60 = .ok (.getfield 7, 3) := by decide +kernel
theorem dX6_bestWant_63 : decode cX6_bestWant 63 = .ok (.bipush 7, 2) := by decide +kernel
theorem dX6_bestWant_65 : decode cX6_bestWant 65 = .ok (.iaload, 1) := by decide +kernel
theorem dX6_bestWant_66 : decode cX6_bestWant 66 = .ok (.invokevirtual 160, 3) := by decide +kernel
theorem dX6_bestWant_69 : decode cX6_bestWant 69 = .ok (.istore 6, 2) := by decide +kernel
theorem dX6_bestWant_71 : decode cX6_bestWant 71 = .ok (.iload 6, 2) := by decide +kernel
theorem dX6_bestWant_73 : decode cX6_bestWant 73 = .ok (.iload 4, 2) := by decide +kernel
theorem dX6_bestWant_75 : decode cX6_bestWant 75 = .ok (.if_icmp .le 8, 3) := by decide +kernel
theorem dX6_bestWant_78 : decode cX6_bestWant 78 = .ok (.iload 5, 2) := by decide +kernel
theorem dX6_bestWant_80 : decode cX6_bestWant 80 = .ok (.goto 4, 3) := by decide +kernel
theorem dX6_bestWant_83 : decode cX6_bestWant 83 = .ok (.iload_n 3, 1) := by decide +kernel
theorem dX6_bestWant_84 : decode cX6_bestWant 84 = .ok (.istore_n 3, 1) := by decide +kernel
theorem dX6_bestWant_85 : decode cX6_bestWant 85 = .ok (.iload 6, 2) := by decide +kernel
theorem dX6_bestWant_87 : decode cX6_bestWant 87 = .ok (.iload 4, 2) := by decide +kernel
theorem dX6_bestWant_89 : decode cX6_bestWant 89 = .ok (.if_icmp .le 8, 3) := by decide +kernel
theorem dX6_bestWant_92 : decode cX6_bestWant 92 = .ok (.iload 6, 2) := by decide +kernel
theorem dX6_bestWant_94 : decode cX6_bestWant 94 = .ok (.goto 5, 3) := by decide +kernel
theorem dX6_bestWant_97 : decode cX6_bestWant 97 = .ok (.iload 4, 2) := by decide +kernel
theorem dX6_bestWant_99 : decode cX6_bestWant 99 = .ok (.istore 4, 2) := by decide +kernel
theorem dX6_bestWant_101 : decode cX6_bestWant 101 = .ok (.iinc 5 1, 3) := by decide +kernel
theorem dX6_bestWant_104 : decode cX6_bestWant 104 = .ok (.goto (-78), 3) := by decide +kernel
theorem dX6_bestWant_107 : decode cX6_bestWant 107 = .ok (.aload_n 0, 1) := by decide +kernel
theorem dX6_bestWant_108 : decode cX6_bestWant 108 = .ok (.getfield 7, 3) := by decide +kernel
theorem dX6_bestWant_111 : decode cX6_bestWant 111 = .ok (.iload_n 1, 1) := by decide +kernel
theorem dX6_bestWant_112 : decode cX6_bestWant 112 = .ok (.iconst 1, 1) := by decide +kernel
theorem dX6_bestWant_113 : decode cX6_bestWant 113 = .ok (.invokestatic 59, 3) := by decide +kernel
theorem dX6_bestWant_116 : decode cX6_bestWant 116 = .ok (.iload_n 2, 1) := by decide +kernel
theorem dX6_bestWant_117 : decode cX6_bestWant 117 = .ok (.iastore, 1) := by decide +kernel
theorem dX6_bestWant_118 : decode cX6_bestWant 118 = .ok (.iload_n 3, 1) := by decide +kernel
theorem dX6_bestWant_119 : decode cX6_bestWant 119 = .ok (.ireturn, 1) := by decide +kernel
theorem dX6_undo_0 : decode cX6_undo 0 = .ok (.aload_n 0, 1) := by decide +kernel
theorem dX6_undo_1 : decode cX6_undo 1 = .ok (.getfield 62, 3) := by decide +kernel
theorem dX6_undo_4 : decode cX6_undo 4 = .ok (.ifCond .ne 6, 3) := by decide +kernel
theorem dX6_undo_7 : decode cX6_undo 7 = .ok (.bipush (-2), 2) := by decide +kernel
theorem dX6_undo_9 : decode cX6_undo 9 = .ok (.ireturn, 1) := by decide +kernel
theorem dX6_undo_10 : decode cX6_undo 10 = .ok (.aload_n 0, 1) := by decide +kernel
theorem dX6_undo_11 : decode cX6_undo 11 = .ok (.dup, 1) := by decide +kernel
theorem dX6_undo_12 : decode cX6_undo 12 = .ok (.getfield 62, 3) := by decide +kernel
theorem dX6_undo_15 : decode cX6_undo 15 = .ok (.iconst 1, 1) := by decide +kernel
theorem dX6_undo_16 : decode cX6_undo 16 = .ok (.isub, 1) := by decide +kernel
theorem dX6_undo_17 : decode cX6_undo 17 = .ok (.putfield 62, 3) := by decide +kernel
theorem dX6_undo_20 : decode cX6_undo 20 = .ok (.iconst 0, 1) := by decide +kernel
theorem dX6_undo_21 : decode cX6_undo 21 = .ok (.istore_n 1, 1) := by decide +kernel
theorem dX6_undo_22 : decode cX6_undo 22 = .ok (.iload_n 1, 1) := by decide +kernel
theorem dX6_undo_23 : decode cX6_undo 23 = .ok (.bipush 57, 2) := by decide +kernel
theorem dX6_undo_25 : decode cX6_undo 25 = .ok (.if_icmp .ge 29, 3) := by decide +kernel
theorem dX6_undo_28 : decode cX6_undo 28 = .ok (.aload_n 0, 1) := by decide +kernel
theorem dX6_undo_29 : decode cX6_undo 29 = .ok (.getfield 7, 3) := by decide +kernel
theorem dX6_undo_32 : decode cX6_undo 32 = .ok (.iload_n 1, 1) := by decide +kernel
theorem dX6_undo_33 : decode cX6_undo 33 = .ok (.aload_n 0, 1) := by decide +kernel
theorem dX6_undo_34 : decode cX6_undo 34 = .ok (.getfield 16, 3) := by decide +kernel
theorem dX6_undo_37 : decode cX6_undo 37 = .ok (.bipush 57, 2) := by decide +kernel
theorem dX6_undo_39 : decode cX6_undo 39 = .ok (.aload_n 0, 1) := by decide +kernel
theorem dX6_undo_40 : decode cX6_undo 40 = .ok (.getfield 62, 3) := by decide +kernel
theorem dX6_undo_43 : decode cX6_undo 43 = .ok (.imul, 1) := by decide +kernel
theorem dX6_undo_44 : decode cX6_undo 44 = .ok (.iload_n 1, 1) := by decide +kernel
theorem dX6_undo_45 : decode cX6_undo 45 = .ok (.iadd, 1) := by decide +kernel
theorem dX6_undo_46 : decode cX6_undo 46 = .ok (.iaload, 1) := by decide +kernel
theorem dX6_undo_47 : decode cX6_undo 47 = .ok (.iastore, 1) := by decide +kernel
theorem dX6_undo_48 : decode cX6_undo 48 = .ok (.iinc 1 1, 3) := by decide +kernel
theorem dX6_undo_51 : decode cX6_undo 51 = .ok (.goto (-29), 3) := by decide +kernel
theorem dX6_undo_54 : decode cX6_undo 54 = .ok (.aload_n 0, 1) := by decide +kernel
theorem dX6_undo_55 : decode cX6_undo 55 = .ok (.getfield 62, 3) := by decide +kernel
theorem dX6_undo_58 : decode cX6_undo 58 = .ok (.ireturn, 1) := by decide +kernel
theorem dX6_save_0 : decode cX6_save 0 = .ok (.iconst 0, 1) := by decide +kernel
theorem dX6_save_1 : decode cX6_save 1 = .ok (.istore_n 1, 1) := by decide +kernel
theorem dX6_save_2 : decode cX6_save 2 = .ok (.iload_n 1, 1) := by decide +kernel
theorem dX6_save_3 : decode cX6_save 3 = .ok (.bipush 57, 2) := by decide +kernel
theorem dX6_save_5 : decode cX6_save 5 = .ok (.if_icmp .ge 21, 3) := by decide +kernel
theorem dX6_save_8 : decode cX6_save 8 = .ok (.aload_n 0, 1) := by decide +kernel
theorem dX6_save_9 : decode cX6_save 9 = .ok (.getfield 19, 3) := by decide +kernel
theorem dX6_save_12 : decode cX6_save 12 = .ok (.iload_n 1, 1) := by decide +kernel
theorem dX6_save_13 : decode cX6_save 13 = .ok (.aload_n 0, 1) := by decide +kernel
theorem dX6_save_14 : decode cX6_save 14 = .ok (.getfield 7, 3) := by decide +kernel
theorem dX6_save_17 : decode cX6_save 17 = .ok (.iload_n 1, 1) := by decide +kernel
theorem dX6_save_18 : decode cX6_save 18 = .ok (.iaload, 1) := by decide +kernel
theorem dX6_save_19 : decode cX6_save 19 = .ok (.iastore, 1) := by decide +kernel
theorem dX6_save_20 : decode cX6_save 20 = .ok (.iinc 1 1, 3) := by decide +kernel
theorem dX6_save_23 : decode cX6_save 23 = .ok (.goto (-21), 3) := by decide +kernel
theorem dX6_save_26 : decode cX6_save 26 = .ok (.aload_n 0, 1) := by decide +kernel
theorem dX6_save_27 : decode cX6_save 27 = .ok (.iconst 1, 1) := by decide +kernel
theorem dX6_save_28 : decode cX6_save 28 = .ok (.putfield 184, 3) := by decide +kernel
theorem dX6_save_31 : decode cX6_save 31 = .ok (.aload_n 0, 1) := by decide +kernel
theorem dX6_save_32 : decode cX6_save 32 = .ok (.getfield 7, 3) := by decide +kernel
theorem dX6_save_35 : decode cX6_save 35 = .ok (.iconst 0, 1) := by decide +kernel
theorem dX6_save_36 : decode cX6_save 36 = .ok (.iaload, 1) := by decide +kernel
theorem dX6_save_37 : decode cX6_save 37 = .ok (.ireturn, 1) := by decide +kernel
theorem dX6_restore_0 : decode cX6_restore 0 = .ok (.aload_n 0, 1) := by decide +kernel
theorem dX6_restore_1 : decode cX6_restore 1 = .ok (.getfield 184, 3) := by decide +kernel
theorem dX6_restore_4 : decode cX6_restore 4 = .ok (.ifCond .ne 6, 3) := by decide +kernel
theorem dX6_restore_7 : decode cX6_restore 7 = .ok (.bipush (-2), 2) := by decide +kernel
theorem dX6_restore_9 : decode cX6_restore 9 = .ok (.ireturn, 1) := by decide +kernel
theorem dX6_restore_10 : decode cX6_restore 10 = .ok (.aload_n 0, 1) := by decide +kernel
theorem dX6_restore_11 : decode cX6_restore 11 = .ok (.invokevirtual 108, 3) := by decide +kernel
theorem dX6_restore_14 : decode cX6_restore 14 = .ok (.iconst 0, 1) := by decide +kernel
theorem dX6_restore_15 : decode cX6_restore 15 = .ok (.istore_n 1, 1) := by decide +kernel
theorem dX6_restore_16 : decode cX6_restore 16 = .ok (.iload_n 1, 1) := by decide +kernel
theorem dX6_restore_17 : decode cX6_restore 17 = .ok (.bipush 57, 2) := by decide +kernel
theorem dX6_restore_19 : decode cX6_restore 19 = .ok (.if_icmp .ge 21, 3) := by decide +kernel
theorem dX6_restore_22 : decode cX6_restore 22 = .ok (.aload_n 0, 1) := by decide +kernel
theorem dX6_restore_23 : decode cX6_restore 23 = .ok (.getfield 7, 3) := by decide +kernel
theorem dX6_restore_26 : decode cX6_restore 26 = .ok (.iload_n 1, 1) := by decide +kernel
theorem dX6_restore_27 : decode cX6_restore 27 = .ok (.aload_n 0, 1) := by decide +kernel
theorem dX6_restore_28 : decode cX6_restore 28 = .ok (.getfield 19, 3) := by decide +kernel
theorem dX6_restore_31 : decode cX6_restore 31 = .ok (.iload_n 1, 1) := by decide +kernel
theorem dX6_restore_32 : decode cX6_restore 32 = .ok (.iaload, 1) := by decide +kernel
theorem dX6_restore_33 : decode cX6_restore 33 = .ok (.iastore, 1) := by decide +kernel
theorem dX6_restore_34 : decode cX6_restore 34 = .ok (.iinc 1 1, 3) := by decide +kernel
theorem dX6_restore_37 : decode cX6_restore 37 = .ok (.goto (-21), 3) := by decide +kernel
theorem dX6_restore_40 : decode cX6_restore 40 = .ok (.aload_n 0, 1) := by decide +kernel
theorem dX6_restore_41 : decode cX6_restore 41 = .ok (.getfield 7, 3) := by decide +kernel
theorem dX6_restore_44 : decode cX6_restore 44 = .ok (.iconst 0, 1) := by decide +kernel
theorem dX6_restore_45 : decode cX6_restore 45 = .ok (.iaload, 1) := by decide +kernel
theorem dX6_restore_46 : decode cX6_restore 46 = .ok (.ireturn, 1) := by decide +kernel
theorem dJ6_bitCount_0f7a4_0 : decode cJ6_bitCount_0f7a4 0 = .ok (.iload_n 0, 1) := by decide +kernel
theorem dJ6_bitCount_0f7a4_1 : decode cJ6_bitCount_0f7a4 1 = .ok (.iload_n 0, 1) := by decide +kernel
theorem dJ6_bitCount_0f7a4_2 : decode cJ6_bitCount_0f7a4 2 = .ok (.iconst 1, 1) := by decide +kernel
theorem dJ6_bitCount_0f7a4_3 : decode cJ6_bitCount_0f7a4 3 = .ok (.iushr, 1) := by decide +kernel
theorem dJ6_bitCount_0f7a4_4 : decode cJ6_bitCount_0f7a4 4 = .ok (.ldc_w 265, 3) := by decide +kernel
theorem dJ6_bitCount_0f7a4_7 : decode cJ6_bitCount_0f7a4 7 = .ok (.iand, 1) := by decide +kernel
theorem dJ6_bitCount_0f7a4_8 : decode cJ6_bitCount_0f7a4 8 = .ok (.isub, 1) := by decide +kernel
theorem dJ6_bitCount_0f7a4_9 : decode cJ6_bitCount_0f7a4 9 = .ok (.istore_n 0, 1) := by decide +kernel
theorem dJ6_bitCount_0f7a4_10 : decode cJ6_bitCount_0f7a4 10 = .ok (.iload_n 0, 1) := by decide +kernel
theorem dJ6_bitCount_0f7a4_11 : decode cJ6_bitCount_0f7a4 11 = .ok (.ldc_w 266, 3) := by decide +kernel
theorem dJ6_bitCount_0f7a4_14 : decode cJ6_bitCount_0f7a4 14 = .ok (.iand, 1) := by decide +kernel
theorem dJ6_bitCount_0f7a4_15 : decode cJ6_bitCount_0f7a4 15 = .ok (.iload_n 0, 1) := by decide +kernel
theorem dJ6_bitCount_0f7a4_16 : decode cJ6_bitCount_0f7a4 16 = .ok (.iconst 2, 1) := by decide +kernel
theorem dJ6_bitCount_0f7a4_17 : decode cJ6_bitCount_0f7a4 17 = .ok (.iushr, 1) := by decide +kernel
theorem dJ6_bitCount_0f7a4_18 : decode cJ6_bitCount_0f7a4 18 = .ok (.ldc_w 266, 3) := by decide +kernel
theorem dJ6_bitCount_0f7a4_21 : decode cJ6_bitCount_0f7a4 21 = .ok (.iand, 1) := by decide +kernel
theorem dJ6_bitCount_0f7a4_22 : decode cJ6_bitCount_0f7a4 22 = .ok (.iadd, 1) := by decide +kernel
theorem dJ6_bitCount_0f7a4_23 : decode cJ6_bitCount_0f7a4 23 = .ok (.istore_n 0, 1) := by decide +kernel
theorem dJ6_bitCount_0f7a4_24 : decode cJ6_bitCount_0f7a4 24 = .ok (.iload_n 0, 1) := by decide +kernel
theorem dJ6_bitCount_0f7a4_25 : decode cJ6_bitCount_0f7a4 25 = .ok (.iload_n 0, 1) := by decide +kernel
theorem dJ6_bitCount_0f7a4_26 : decode cJ6_bitCount_0f7a4 26 = .ok (.iconst 4, 1) := by decide +kernel
theorem dJ6_bitCount_0f7a4_27 : decode cJ6_bitCount_0f7a4 27 = .ok (.iushr, 1) := by decide +kernel
theorem dJ6_bitCount_0f7a4_28 : decode cJ6_bitCount_0f7a4 28 = .ok (.iadd, 1) := by decide +kernel
theorem dJ6_bitCount_0f7a4_29 : decode cJ6_bitCount_0f7a4 29 = .ok (.ldc_w 267, 3) := by decide +kernel
theorem dJ6_bitCount_0f7a4_32 : decode cJ6_bitCount_0f7a4 32 = .ok (.iand, 1) := by decide +kernel
theorem dJ6_bitCount_0f7a4_33 : decode cJ6_bitCount_0f7a4 33 = .ok (.istore_n 0, 1) := by decide +kernel
theorem dJ6_bitCount_0f7a4_34 : decode cJ6_bitCount_0f7a4 34 = .ok (.iload_n 0, 1) := by decide +kernel
theorem dJ6_bitCount_0f7a4_35 : decode cJ6_bitCount_0f7a4 35 = .ok (.iload_n 0, 1) := by decide +kernel
theorem dJ6_bitCount_0f7a4_36 : decode cJ6_bitCount_0f7a4 36 = .ok (.bipush 8, 2) := by decide +kernel
theorem dJ6_bitCount_0f7a4_38 : decode cJ6_bitCount_0f7a4 38 = .ok (.iushr, 1) := by decide +kernel
theorem dJ6_bitCount_0f7a4_39 : decode cJ6_bitCount_0f7a4 39 = .ok (.iadd, 1) := by decide +kernel
theorem dJ6_bitCount_0f7a4_40 : decode cJ6_bitCount_0f7a4 40 = .ok (.istore_n 0, 1) := by decide +kernel
theorem dJ6_bitCount_0f7a4_41 : decode cJ6_bitCount_0f7a4 41 = .ok (.iload_n 0, 1) := by decide +kernel
theorem dJ6_bitCount_0f7a4_42 : decode cJ6_bitCount_0f7a4 42 = .ok (.iload_n 0, 1) := by decide +kernel
theorem dJ6_bitCount_0f7a4_43 : decode cJ6_bitCount_0f7a4 43 = .ok (.bipush 16, 2) := by decide +kernel
theorem dJ6_bitCount_0f7a4_45 : decode cJ6_bitCount_0f7a4 45 = .ok (.iushr, 1) := by decide +kernel
theorem dJ6_bitCount_0f7a4_46 : decode cJ6_bitCount_0f7a4 46 = .ok (.iadd, 1) := by decide +kernel
theorem dJ6_bitCount_0f7a4_47 : decode cJ6_bitCount_0f7a4 47 = .ok (.istore_n 0, 1) := by decide +kernel
theorem dJ6_bitCount_0f7a4_48 : decode cJ6_bitCount_0f7a4 48 = .ok (.iload_n 0, 1) := by decide +kernel
theorem dJ6_bitCount_0f7a4_49 : decode cJ6_bitCount_0f7a4 49 = .ok (.bipush 63, 2) := by decide +kernel
theorem dJ6_bitCount_0f7a4_51 : decode cJ6_bitCount_0f7a4 51 = .ok (.iand, 1) := by decide +kernel
theorem dJ6_bitCount_0f7a4_52 : decode cJ6_bitCount_0f7a4 52 = .ok (.ireturn, 1) := by decide +kernel
theorem dJ9_max_7cf53_0 : decode cJ9_max_7cf53 0 = .ok (.iload_n 0, 1) := by decide +kernel
theorem dJ9_max_7cf53_1 : decode cJ9_max_7cf53 1 = .ok (.iload_n 1, 1) := by decide +kernel
theorem dJ9_max_7cf53_2 : decode cJ9_max_7cf53 2 = .ok (.if_icmp .lt 7, 3) := by decide +kernel
theorem dJ9_max_7cf53_5 : decode cJ9_max_7cf53 5 = .ok (.iload_n 0, 1) := by decide +kernel
theorem dJ9_max_7cf53_6 : decode cJ9_max_7cf53 6 = .ok (.goto 4, 3) := by decide +kernel
theorem dJ9_max_7cf53_9 : decode cJ9_max_7cf53 9 = .ok (.iload_n 1, 1) := by decide +kernel
theorem dJ9_max_7cf53_10 : decode cJ9_max_7cf53 10 = .ok (.ireturn, 1) := by decide +kernel
theorem dJ9_min_7cf53_0 : decode cJ9_min_7cf53 0 = .ok (.iload_n 0, 1) := by decide +kernel
theorem dJ9_min_7cf53_1 : decode cJ9_min_7cf53 1 = .ok (.iload_n 1, 1) := by decide +kernel
theorem dJ9_min_7cf53_2 : decode cJ9_min_7cf53 2 = .ok (.if_icmp .gt 7, 3) := by decide +kernel
theorem dJ9_min_7cf53_5 : decode cJ9_min_7cf53 5 = .ok (.iload_n 0, 1) := by decide +kernel
theorem dJ9_min_7cf53_6 : decode cJ9_min_7cf53 6 = .ok (.goto 4, 3) := by decide +kernel
theorem dJ9_min_7cf53_9 : decode cJ9_min_7cf53 9 = .ok (.iload_n 1, 1) := by decide +kernel
theorem dJ9_min_7cf53_10 : decode cJ9_min_7cf53 10 = .ok (.ireturn, 1) := by decide +kernel
theorem dJ7_fill_53178_0 : decode cJ7_fill_53178 0 = .ok (.iconst 0, 1) := by decide +kernel
theorem dJ7_fill_53178_1 : decode cJ7_fill_53178 1 = .ok (.istore_n 2, 1) := by decide +kernel
theorem dJ7_fill_53178_2 : decode cJ7_fill_53178 2 = .ok (.aload_n 0, 1) := by decide +kernel
theorem dJ7_fill_53178_3 : decode cJ7_fill_53178 3 = .ok (.arraylength, 1) := by decide +kernel
theorem dJ7_fill_53178_4 : decode cJ7_fill_53178 4 = .ok (.istore_n 3, 1) := by decide +kernel
theorem dJ7_fill_53178_5 : decode cJ7_fill_53178 5 = .ok (.iload_n 2, 1) := by decide +kernel
theorem dJ7_fill_53178_6 : decode cJ7_fill_53178 6 = .ok (.iload_n 3, 1) := by decide +kernel
theorem dJ7_fill_53178_7 : decode cJ7_fill_53178 7 = .ok (.if_icmp .ge 13, 3) := by decide +kernel
theorem dJ7_fill_53178_10 : decode cJ7_fill_53178 10 = .ok (.aload_n 0, 1) := by decide +kernel
theorem dJ7_fill_53178_11 : decode cJ7_fill_53178 11 = .ok (.iload_n 2, 1) := by decide +kernel
theorem dJ7_fill_53178_12 : decode cJ7_fill_53178 12 = .ok (.iload_n 1, 1) := by decide +kernel
theorem dJ7_fill_53178_13 : decode cJ7_fill_53178 13 = .ok (.iastore, 1) := by decide +kernel
theorem dJ7_fill_53178_14 : decode cJ7_fill_53178 14 = .ok (.iinc 2 1, 3) := by decide +kernel
theorem dJ7_fill_53178_17 : decode cJ7_fill_53178 17 = .ok (.goto (-12), 3) := by decide +kernel
theorem dJ7_fill_53178_20 : decode cJ7_fill_53178 20 = .ok (.return_, 1) := by decide +kernel
theorem dL_law_0 : decode cL_law 0 = .ok (.new 7, 3) := by decide +kernel
theorem dL_law_3 : decode cL_law 3 = .ok (.dup, 1) := by decide +kernel
theorem dL_law_4 : decode cL_law 4 = .ok (.invokespecial 9, 3) := by decide +kernel
theorem dL_law_7 : decode cL_law 7 = .ok (.astore_n 1, 1) := by decide +kernel
theorem dL_law_8 : decode cL_law 8 = .ok (.new 10, 3) := by decide +kernel
theorem dL_law_11 : decode cL_law 11 = .ok (.dup, 1) := by decide +kernel
theorem dL_law_12 : decode cL_law 12 = .ok (.invokespecial 12, 3) := by decide +kernel
theorem dL_law_15 : decode cL_law 15 = .ok (.astore_n 2, 1) := by decide +kernel
theorem dL_law_16 : decode cL_law 16 = .ok (.iconst 0, 1) := by decide +kernel
theorem dL_law_17 : decode cL_law 17 = .ok (.istore_n 3, 1) := by decide +kernel
theorem dL_law_18 : decode cL_law 18 = .ok (.iload_n 3, 1) := by decide +kernel
theorem dL_law_19 : decode cL_law 19 = .ok (.aload_n 0, 1) := by decide +kernel
theorem dL_law_20 : decode cL_law 20 = .ok (.arraylength, 1) := by decide +kernel
theorem dL_law_21 : decode cL_law 21 = .ok (.iconst 3, 1) := by decide +kernel
theorem dL_law_22 : decode cL_law 22 = .ok (.isub, 1) := by decide +kernel
theorem dL_law_23 : decode cL_law 23 = .ok (.if_icmp .gt 815, 3) := by decide +kernel
theorem dL_law_26 : decode cL_law 26 = .ok (.aload_n 0, 1) := by decide +kernel
theorem dL_law_27 : decode cL_law 27 = .ok (.iload_n 3, 1) := by decide +kernel
theorem dL_law_28 : decode cL_law 28 = .ok (.iaload, 1) := by decide +kernel
theorem dL_law_29 : decode cL_law 29 = .ok (.bipush 31, 2) := by decide +kernel
theorem dL_law_31 : decode cL_law 31 = .ok (.iand, 1) := by decide +kernel
theorem dL_law_32 : decode cL_law 32 = .ok (.tableswitch 800 0 27 #[128, 161, 184, 217, 250, 273, 296, 329, 342, 355, 378, 391, 414, 427, 440, 463, 496, 529, 562, 585, 618, 641, 682, 705, 738, 761, 774, 787], 128) := by decide +kernel
theorem dL_law_160 : decode cL_law 160 = .ok (.aload_n 1, 1) := by decide +kernel
theorem dL_law_161 : decode cL_law 161 = .ok (.aload_n 0, 1) := by decide +kernel
theorem dL_law_162 : decode cL_law 162 = .ok (.iload_n 3, 1) := by decide +kernel
theorem dL_law_163 : decode cL_law 163 = .ok (.iconst 1, 1) := by decide +kernel
theorem dL_law_164 : decode cL_law 164 = .ok (.iadd, 1) := by decide +kernel
theorem dL_law_165 : decode cL_law 165 = .ok (.iaload, 1) := by decide +kernel
theorem dL_law_166 : decode cL_law 166 = .ok (.aload_n 0, 1) := by decide +kernel
theorem dL_law_167 : decode cL_law 167 = .ok (.iload_n 3, 1) := by decide +kernel
theorem dL_law_168 : decode cL_law 168 = .ok (.iconst 2, 1) := by decide +kernel
theorem dL_law_169 : decode cL_law 169 = .ok (.iadd, 1) := by decide +kernel
theorem dL_law_170 : decode cL_law 170 = .ok (.iaload, 1) := by decide +kernel
theorem dL_law_171 : decode cL_law 171 = .ok (.invokevirtual 13, 3) := by decide +kernel
theorem dL_law_174 : decode cL_law 174 = .ok (.aload_n 2, 1) := by decide +kernel
theorem dL_law_175 : decode cL_law 175 = .ok (.aload_n 0, 1) := by decide +kernel
theorem dL_law_176 : decode cL_law 176 = .ok (.iload_n 3, 1) := by decide +kernel
theorem dL_law_177 : decode cL_law 177 = .ok (.iconst 1, 1) := by decide +kernel
theorem dL_law_178 : decode cL_law 178 = .ok (.iadd, 1) := by decide +kernel
theorem dL_law_179 : decode cL_law 179 = .ok (.iaload, 1) := by decide +kernel
theorem dL_law_180 : decode cL_law 180 = .ok (.aload_n 0, 1) := by decide +kernel
theorem dL_law_181 : decode cL_law 181 = .ok (.iload_n 3, 1) := by decide +kernel
theorem dL_law_182 : decode cL_law 182 = .ok (.iconst 2, 1) := by decide +kernel
theorem dL_law_183 : decode cL_law 183 = .ok (.iadd, 1) := by decide +kernel
theorem dL_law_184 : decode cL_law 184 = .ok (.iaload, 1) := by decide +kernel
theorem dL_law_185 : decode cL_law 185 = .ok (.invokevirtual 17, 3) := by decide +kernel
theorem dL_law_188 : decode cL_law 188 = .ok (.if_icmp .eq 644, 3) := by decide +kernel
theorem dL_law_191 : decode cL_law 191 = .ok (.iconst 0, 1) := by decide +kernel
theorem dL_law_192 : decode cL_law 192 = .ok (.ireturn, 1) := by decide +kernel
theorem dL_law_193 : decode cL_law 193 = .ok (.aload_n 1, 1) := by decide +kernel
theorem dL_law_194 : decode cL_law 194 = .ok (.aload_n 0, 1) := by decide +kernel
theorem dL_law_195 : decode cL_law 195 = .ok (.iload_n 3, 1) := by decide +kernel
theorem dL_law_196 : decode cL_law 196 = .ok (.iconst 1, 1) := by decide +kernel
theorem dL_law_197 : decode cL_law 197 = .ok (.iadd, 1) := by decide +kernel
theorem dL_law_198 : decode cL_law 198 = .ok (.iaload, 1) := by decide +kernel
theorem dL_law_199 : decode cL_law 199 = .ok (.invokevirtual 18, 3) := by decide +kernel
theorem dL_law_202 : decode cL_law 202 = .ok (.aload_n 2, 1) := by decide +kernel
theorem dL_law_203 : decode cL_law 203 = .ok (.aload_n 0, 1) := by decide +kernel
theorem dL_law_204 : decode cL_law 204 = .ok (.iload_n 3, 1) := by decide +kernel
theorem dL_law_205 : decode cL_law 205 = .ok (.iconst 1, 1) := by decide +kernel
theorem dL_law_206 : decode cL_law 206 = .ok (.iadd, 1) := by decide +kernel
theorem dL_law_207 : decode cL_law 207 = .ok (.iaload, 1) := by decide +kernel
theorem dL_law_208 : decode cL_law 208 = .ok (.invokevirtual 22, 3) := by decide +kernel
theorem dL_law_211 : decode cL_law 211 = .ok (.if_icmp .eq 621, 3) := by decide +kernel
theorem dL_law_214 : decode cL_law 214 = .ok (.iconst 0, 1) := by decide +kernel
theorem dL_law_215 : decode cL_law 215 = .ok (.ireturn, 1) := by decide +kernel
theorem dL_law_216 : decode cL_law 216 = .ok (.aload_n 1, 1) := by decide +kernel
theorem dL_law_217 : decode cL_law 217 = .ok (.aload_n 0, 1) := by decide +kernel
theorem dL_law_218 : decode cL_law 218 = .ok (.iload_n 3, 1) := by decide +kernel
theorem dL_law_219 : decode cL_law 219 = .ok (.iconst 1, 1) := by decide +kernel
theorem dL_law_220 : decode cL_law 220 = .ok (.iadd, 1) := by decide +kernel
theorem dL_law_221 : decode cL_law 221 = .ok (.iaload, 1) := by decide +kernel
theorem dL_law_222 : decode cL_law 222 = .ok (.aload_n 0, 1) := by decide +kernel
theorem dL_law_223 : decode cL_law 223 = .ok (.iload_n 3, 1) := by decide +kernel
theorem dL_law_224 : decode cL_law 224 = .ok (.iconst 2, 1) := by decide +kernel
theorem dL_law_225 : decode cL_law 225 = .ok (.iadd, 1) := by decide +kernel
theorem dL_law_226 : decode cL_law 226 = .ok (.iaload, 1) := by decide +kernel
theorem dL_law_227 : decode cL_law 227 = .ok (.invokevirtual 23, 3) := by decide +kernel
theorem dL_law_230 : decode cL_law 230 = .ok (.aload_n 2, 1) := by decide +kernel
theorem dL_law_231 : decode cL_law 231 = .ok (.aload_n 0, 1) := by decide +kernel
theorem dL_law_232 : decode cL_law 232 = .ok (.iload_n 3, 1) := by decide +kernel
theorem dL_law_233 : decode cL_law 233 = .ok (.iconst 1, 1) := by decide +kernel
theorem dL_law_234 : decode cL_law 234 = .ok (.iadd, 1) := by decide +kernel
theorem dL_law_235 : decode cL_law 235 = .ok (.iaload, 1) := by decide +kernel
theorem dL_law_236 : decode cL_law 236 = .ok (.aload_n 0, 1) := by decide +kernel
theorem dL_law_237 : decode cL_law 237 = .ok (.iload_n 3, 1) := by decide +kernel
theorem dL_law_238 : decode cL_law 238 = .ok (.iconst 2, 1) := by decide +kernel
theorem dL_law_239 : decode cL_law 239 = .ok (.iadd, 1) := by decide +kernel
theorem dL_law_240 : decode cL_law 240 = .ok (.iaload, 1) := by decide +kernel
theorem dL_law_241 : decode cL_law 241 = .ok (.invokevirtual 26, 3) := by decide +kernel
theorem dL_law_244 : decode cL_law 244 = .ok (.if_icmp .eq 588, 3) := by decide +kernel
theorem dL_law_247 : decode cL_law 247 = .ok (.iconst 0, 1) := by decide +kernel
theorem dL_law_248 : decode cL_law 248 = .ok (.ireturn, 1) := by decide +kernel
theorem dL_law_249 : decode cL_law 249 = .ok (.aload_n 1, 1) := by decide +kernel
theorem dL_law_250 : decode cL_law 250 = .ok (.aload_n 0, 1) := by decide +kernel
theorem dL_law_251 : decode cL_law 251 = .ok (.iload_n 3, 1) := by decide +kernel
theorem dL_law_252 : decode cL_law 252 = .ok (.iconst 1, 1) := by decide +kernel
theorem dL_law_253 : decode cL_law 253 = .ok (.iadd, 1) := by decide +kernel
theorem dL_law_254 : decode cL_law 254 = .ok (.iaload, 1) := by decide +kernel
theorem dL_law_255 : decode cL_law 255 = .ok (.aload_n 0, 1) := by decide +kernel
theorem dL_law_256 : decode cL_law 256 = .ok (.iload_n 3, 1) := by decide +kernel
theorem dL_law_257 : decode cL_law 257 = .ok (.iconst 2, 1) := by decide +kernel
theorem dL_law_258 : decode cL_law 258 = .ok (.iadd, 1) := by decide +kernel
theorem dL_law_259 : decode cL_law 259 = .ok (.iaload, 1) := by decide +kernel
theorem dL_law_260 : decode cL_law 260 = .ok (.invokevirtual 27, 3) := by decide +kernel
theorem dL_law_263 : decode cL_law 263 = .ok (.aload_n 2, 1) := by decide +kernel
theorem dL_law_264 : decode cL_law 264 = .ok (.aload_n 0, 1) := by decide +kernel
theorem dL_law_265 : decode cL_law 265 = .ok (.iload_n 3, 1) := by decide +kernel
theorem dL_law_266 : decode cL_law 266 = .ok (.iconst 1, 1) := by decide +kernel
theorem dL_law_267 : decode cL_law 267 = .ok (.iadd, 1) := by decide +kernel
theorem dL_law_268 : decode cL_law 268 = .ok (.iaload, 1) := by decide +kernel
theorem dL_law_269 : decode cL_law 269 = .ok (.aload_n 0, 1) := by decide +kernel
theorem dL_law_270 : decode cL_law 270 = .ok (.iload_n 3, 1) := by decide +kernel
theorem dL_law_271 : decode cL_law 271 = .ok (.iconst 2, 1) := by decide +kernel
theorem dL_law_272 : decode cL_law 272 = .ok (.iadd, 1) := by decide +kernel
theorem dL_law_273 : decode cL_law 273 = .ok (.iaload, 1) := by decide +kernel
theorem dL_law_274 : decode cL_law 274 = .ok (.invokevirtual 30, 3) := by decide +kernel
theorem dL_law_277 : decode cL_law 277 = .ok (.if_icmp .eq 555, 3) := by decide +kernel
theorem dL_law_280 : decode cL_law 280 = .ok (.iconst 0, 1) := by decide +kernel
theorem dL_law_281 : decode cL_law 281 = .ok (.ireturn, 1) := by decide +kernel
theorem dL_law_282 : decode cL_law 282 = .ok (.aload_n 1, 1) := by decide +kernel
theorem dL_law_283 : decode cL_law 283 = .ok (.aload_n 0, 1) := by decide +kernel
theorem dL_law_284 : decode cL_law 284 = .ok (.iload_n 3, 1) := by decide +kernel
theorem dL_law_285 : decode cL_law 285 = .ok (.iconst 1, 1) := by decide +kernel
theorem dL_law_286 : decode cL_law 286 = .ok (.iadd, 1) := by decide +kernel
theorem dL_law_287 : decode cL_law 287 = .ok (.iaload, 1) := by decide +kernel
theorem dL_law_288 : decode cL_law 288 = .ok (.invokevirtual 31, 3) := by decide +kernel
theorem dL_law_291 : decode cL_law 291 = .ok (.aload_n 2, 1) := by decide +kernel
theorem dL_law_292 : decode cL_law 292 = .ok (.aload_n 0, 1) := by decide +kernel
theorem dL_law_293 : decode cL_law 293 = .ok (.iload_n 3, 1) := by decide +kernel
theorem dL_law_294 : decode cL_law 294 = .ok (.iconst 1, 1) := by decide +kernel
theorem dL_law_295 : decode cL_law 295 = .ok (.iadd, 1) := by decide +kernel
theorem dL_law_296 : decode cL_law 296 = .ok (.iaload, 1) := by decide +kernel
theorem dL_law_297 : decode cL_law 297 = .ok (.invokevirtual 34, 3) := by decide +kernel
theorem dL_law_300 : decode cL_law 300 = .ok (.if_icmp .eq 532, 3) := by decide +kernel
theorem dL_law_303 : decode cL_law 303 = .ok (.iconst 0, 1) := by decide +kernel
theorem dL_law_304 : decode cL_law 304 = .ok (.ireturn, 1) := by decide +kernel
theorem dL_law_305 : decode cL_law 305 = .ok (.aload_n 1, 1) := by decide +kernel
theorem dL_law_306 : decode cL_law 306 = .ok (.aload_n 0, 1) := by decide +kernel
theorem dL_law_307 : decode cL_law 307 = .ok (.iload_n 3, 1) := by decide +kernel
theorem dL_law_308 : decode cL_law 308 = .ok (.iconst 1, 1) := by decide +kernel
theorem dL_law_309 : decode cL_law 309 = .ok (.iadd, 1) := by decide +kernel
theorem dL_law_310 : decode cL_law 310 = .ok (.iaload, 1) := by decide +kernel
theorem dL_law_311 : decode cL_law 311 = .ok (.invokevirtual 35, 3) := by decide +kernel
theorem dL_law_314 : decode cL_law 314 = .ok (.aload_n 2, 1) := by decide +kernel
theorem dL_law_315 : decode cL_law 315 = .ok (.aload_n 0, 1) := by decide +kernel
theorem dL_law_316 : decode cL_law 316 = .ok (.iload_n 3, 1) := by decide +kernel
theorem dL_law_317 : decode cL_law 317 = .ok (.iconst 1, 1) := by decide +kernel
theorem dL_law_318 : decode cL_law 318 = .ok (.iadd, 1) := by decide +kernel
theorem dL_law_319 : decode cL_law 319 = .ok (.iaload, 1) := by decide +kernel
theorem dL_law_320 : decode cL_law 320 = .ok (.invokevirtual 38, 3) := by decide +kernel
theorem dL_law_323 : decode cL_law 323 = .ok (.if_icmp .eq 509, 3) := by decide +kernel
theorem dL_law_326 : decode cL_law 326 = .ok (.iconst 0, 1) := by decide +kernel
theorem dL_law_327 : decode cL_law 327 = .ok (.ireturn, 1) := by decide +kernel
theorem dL_law_328 : decode cL_law 328 = .ok (.aload_n 1, 1) := by decide +kernel
theorem dL_law_329 : decode cL_law 329 = .ok (.aload_n 0, 1) := by decide +kernel
theorem dL_law_330 : decode cL_law 330 = .ok (.iload_n 3, 1) := by decide +kernel
theorem dL_law_331 : decode cL_law 331 = .ok (.iconst 1, 1) := by decide +kernel
theorem dL_law_332 : decode cL_law 332 = .ok (.iadd, 1) := by decide +kernel
theorem dL_law_333 : decode cL_law 333 = .ok (.iaload, 1) := by decide +kernel
theorem dL_law_334 : decode cL_law 334 = .ok (.aload_n 0, 1) := by decide +kernel
theorem dL_law_335 : decode cL_law 335 = .ok (.iload_n 3, 1) := by decide +kernel
theorem dL_law_336 : decode cL_law 336 = .ok (.iconst 2, 1) := by decide +kernel
theorem dL_law_337 : decode cL_law 337 = .ok (.iadd, 1) := by decide +kernel
theorem dL_law_338 : decode cL_law 338 = .ok (.iaload, 1) := by decide +kernel
theorem dL_law_339 : decode cL_law 339 = .ok (.invokevirtual 39, 3) := by decide +kernel
theorem dL_law_342 : decode cL_law 342 = .ok (.aload_n 2, 1) := by decide +kernel
theorem dL_law_343 : decode cL_law 343 = .ok (.aload_n 0, 1) := by decide +kernel
theorem dL_law_344 : decode cL_law 344 = .ok (.iload_n 3, 1) := by decide +kernel
theorem dL_law_345 : decode cL_law 345 = .ok (.iconst 1, 1) := by decide +kernel
theorem dL_law_346 : decode cL_law 346 = .ok (.iadd, 1) := by decide +kernel
theorem dL_law_347 : decode cL_law 347 = .ok (.iaload, 1) := by decide +kernel
theorem dL_law_348 : decode cL_law 348 = .ok (.aload_n 0, 1) := by decide +kernel
theorem dL_law_349 : decode cL_law 349 = .ok (.iload_n 3, 1) := by decide +kernel
theorem dL_law_350 : decode cL_law 350 = .ok (.iconst 2, 1) := by decide +kernel
theorem dL_law_351 : decode cL_law 351 = .ok (.iadd, 1) := by decide +kernel
theorem dL_law_352 : decode cL_law 352 = .ok (.iaload, 1) := by decide +kernel
theorem dL_law_353 : decode cL_law 353 = .ok (.invokevirtual 42, 3) := by decide +kernel
theorem dL_law_356 : decode cL_law 356 = .ok (.if_icmp .eq 476, 3) := by decide +kernel
theorem dL_law_359 : decode cL_law 359 = .ok (.iconst 0, 1) := by decide +kernel
theorem dL_law_360 : decode cL_law 360 = .ok (.ireturn, 1) := by decide +kernel
theorem dL_law_361 : decode cL_law 361 = .ok (.aload_n 1, 1) := by decide +kernel
theorem dL_law_362 : decode cL_law 362 = .ok (.invokevirtual 43, 3) := by decide +kernel
theorem dL_law_365 : decode cL_law 365 = .ok (.aload_n 2, 1) := by decide +kernel
theorem dL_law_366 : decode cL_law 366 = .ok (.invokevirtual 47, 3) := by decide +kernel
theorem dL_law_369 : decode cL_law 369 = .ok (.if_icmp .eq 463, 3) := by decide +kernel
theorem dL_law_372 : decode cL_law 372 = .ok (.iconst 0, 1) := by decide +kernel
theorem dL_law_373 : decode cL_law 373 = .ok (.ireturn, 1) := by decide +kernel
theorem dL_law_374 : decode cL_law 374 = .ok (.aload_n 1, 1) := by decide +kernel
theorem dL_law_375 : decode cL_law 375 = .ok (.invokevirtual 48, 3) := by decide +kernel
theorem dL_law_378 : decode cL_law 378 = .ok (.aload_n 2, 1) := by decide +kernel
theorem dL_law_379 : decode cL_law 379 = .ok (.invokevirtual 51, 3) := by decide +kernel
theorem dL_law_382 : decode cL_law 382 = .ok (.if_icmp .eq 450, 3) := by decide +kernel
theorem dL_law_385 : decode cL_law 385 = .ok (.iconst 0, 1) := by decide +kernel
theorem dL_law_386 : decode cL_law 386 = .ok (.ireturn, 1) := by decide +kernel
theorem dL_law_387 : decode cL_law 387 = .ok (.aload_n 1, 1) := by decide +kernel
theorem dL_law_388 : decode cL_law 388 = .ok (.aload_n 0, 1) := by decide +kernel
theorem dL_law_389 : decode cL_law 389 = .ok (.iload_n 3, 1) := by decide +kernel
theorem dL_law_390 : decode cL_law 390 = .ok (.iconst 1, 1) := by decide +kernel
theorem dL_law_391 : decode cL_law 391 = .ok (.iadd, 1) := by decide +kernel
theorem dL_law_392 : decode cL_law 392 = .ok (.iaload, 1) := by decide +kernel
theorem dL_law_393 : decode cL_law 393 = .ok (.invokevirtual 52, 3) := by decide +kernel
theorem dL_law_396 : decode cL_law 396 = .ok (.aload_n 2, 1) := by decide +kernel
theorem dL_law_397 : decode cL_law 397 = .ok (.aload_n 0, 1) := by decide +kernel
theorem dL_law_398 : decode cL_law 398 = .ok (.iload_n 3, 1) := by decide +kernel
theorem dL_law_399 : decode cL_law 399 = .ok (.iconst 1, 1) := by decide +kernel
theorem dL_law_400 : decode cL_law 400 = .ok (.iadd, 1) := by decide +kernel
theorem dL_law_401 : decode cL_law 401 = .ok (.iaload, 1) := by decide +kernel
theorem dL_law_402 : decode cL_law 402 = .ok (.invokevirtual 55, 3) := by decide +kernel
theorem dL_law_405 : decode cL_law 405 = .ok (.if_icmp .eq 427, 3) := by decide +kernel
theorem dL_law_408 : decode cL_law 408 = .ok (.iconst 0, 1) := by decide +kernel
theorem dL_law_409 : decode cL_law 409 = .ok (.ireturn, 1) := by decide +kernel
theorem dL_law_410 : decode cL_law 410 = .ok (.aload_n 1, 1) := by decide +kernel
theorem dL_law_411 : decode cL_law 411 = .ok (.invokevirtual 56, 3) := by decide +kernel
theorem dL_law_414 : decode cL_law 414 = .ok (.aload_n 2, 1) := by decide +kernel
theorem dL_law_415 : decode cL_law 415 = .ok (.invokevirtual 59, 3) := by decide +kernel
theorem dL_law_418 : decode cL_law 418 = .ok (.if_icmp .eq 414, 3) := by decide +kernel
theorem dL_law_421 : decode cL_law 421 = .ok (.iconst 0, 1) := by decide +kernel
theorem dL_law_422 : decode cL_law 422 = .ok (.ireturn, 1) := by decide +kernel
theorem dL_law_423 : decode cL_law 423 = .ok (.aload_n 1, 1) := by decide +kernel
theorem dL_law_424 : decode cL_law 424 = .ok (.aload_n 0, 1) := by decide +kernel
theorem dL_law_425 : decode cL_law 425 = .ok (.iload_n 3, 1) := by decide +kernel
theorem dL_law_426 : decode cL_law 426 = .ok (.iconst 1, 1) := by decide +kernel
theorem dL_law_427 : decode cL_law 427 = .ok (.iadd, 1) := by decide +kernel
theorem dL_law_428 : decode cL_law 428 = .ok (.iaload, 1) := by decide +kernel
theorem dL_law_429 : decode cL_law 429 = .ok (.invokevirtual 60, 3) := by decide +kernel
theorem dL_law_432 : decode cL_law 432 = .ok (.aload_n 2, 1) := by decide +kernel
theorem dL_law_433 : decode cL_law 433 = .ok (.aload_n 0, 1) := by decide +kernel
theorem dL_law_434 : decode cL_law 434 = .ok (.iload_n 3, 1) := by decide +kernel
theorem dL_law_435 : decode cL_law 435 = .ok (.iconst 1, 1) := by decide +kernel
theorem dL_law_436 : decode cL_law 436 = .ok (.iadd, 1) := by decide +kernel
theorem dL_law_437 : decode cL_law 437 = .ok (.iaload, 1) := by decide +kernel
theorem dL_law_438 : decode cL_law 438 = .ok (.invokevirtual 63, 3) := by decide +kernel
theorem dL_law_441 : decode cL_law 441 = .ok (.if_icmp .eq 391, 3) := by decide +kernel
theorem dL_law_444 : decode cL_law 444 = .ok (.iconst 0, 1) := by decide +kernel
theorem dL_law_445 : decode cL_law 445 = .ok (.ireturn, 1) := by decide +kernel
theorem dL_law_446 : decode cL_law 446 = .ok (.aload_n 1, 1) := by decide +kernel
theorem dL_law_447 : decode cL_law 447 = .ok (.invokevirtual 64, 3) := by decide +kernel
theorem dL_law_450 : decode cL_law 450 = .ok (.aload_n 2, 1) := by decide +kernel
theorem dL_law_451 : decode cL_law 451 = .ok (.invokevirtual 67, 3) := by decide +kernel
theorem dL_law_454 : decode cL_law 454 = .ok (.if_icmp .eq 378, 3) := by decide +kernel
theorem dL_law_457 : decode cL_law 457 = .ok (.iconst 0, 1) := by decide +kernel
theorem dL_law_458 : decode cL_law 458 = .ok (.ireturn, 1) := by decide +kernel
theorem dL_law_459 : decode cL_law 459 = .ok (.aload_n 1, 1) := by decide +kernel
theorem dL_law_460 : decode cL_law 460 = .ok (.invokevirtual 68, 3) := by decide +kernel
theorem dL_law_463 : decode cL_law 463 = .ok (.aload_n 2, 1) := by decide +kernel
theorem dL_law_464 : decode cL_law 464 = .ok (.invokevirtual 71, 3) := by decide +kernel
theorem dL_law_467 : decode cL_law 467 = .ok (.if_icmp .eq 365, 3) := by decide +kernel
theorem dL_law_470 : decode cL_law 470 = .ok (.iconst 0, 1) := by decide +kernel
theorem dL_law_471 : decode cL_law 471 = .ok (.ireturn, 1) := by decide +kernel
theorem dL_law_472 : decode cL_law 472 = .ok (.aload_n 1, 1) := by decide +kernel
theorem dL_law_473 : decode cL_law 473 = .ok (.aload_n 0, 1) := by decide +kernel
theorem dL_law_474 : decode cL_law 474 = .ok (.iload_n 3, 1) := by decide +kernel
theorem dL_law_475 : decode cL_law 475 = .ok (.iconst 1, 1) := by decide +kernel
theorem dL_law_476 : decode cL_law 476 = .ok (.iadd, 1) := by decide +kernel
theorem dL_law_477 : decode cL_law 477 = .ok (.iaload, 1) := by decide +kernel
theorem dL_law_478 : decode cL_law 478 = .ok (.invokevirtual 72, 3) := by decide +kernel
theorem dL_law_481 : decode cL_law 481 = .ok (.aload_n 2, 1) := by decide +kernel
theorem dL_law_482 : decode cL_law 482 = .ok (.aload_n 0, 1) := by decide +kernel
theorem dL_law_483 : decode cL_law 483 = .ok (.iload_n 3, 1) := by decide +kernel
theorem dL_law_484 : decode cL_law 484 = .ok (.iconst 1, 1) := by decide +kernel
theorem dL_law_485 : decode cL_law 485 = .ok (.iadd, 1) := by decide +kernel
theorem dL_law_486 : decode cL_law 486 = .ok (.iaload, 1) := by decide +kernel
theorem dL_law_487 : decode cL_law 487 = .ok (.invokevirtual 75, 3) := by decide +kernel
theorem dL_law_490 : decode cL_law 490 = .ok (.if_icmp .eq 342, 3) := by decide +kernel
theorem dL_law_493 : decode cL_law 493 = .ok (.iconst 0, 1) := by decide +kernel
theorem dL_law_494 : decode cL_law 494 = .ok (.ireturn, 1) := by decide +kernel
theorem dL_law_495 : decode cL_law 495 = .ok (.aload_n 1, 1) := by decide +kernel
theorem dL_law_496 : decode cL_law 496 = .ok (.aload_n 0, 1) := by decide +kernel
theorem dL_law_497 : decode cL_law 497 = .ok (.iload_n 3, 1) := by decide +kernel
theorem dL_law_498 : decode cL_law 498 = .ok (.iconst 1, 1) := by decide +kernel
theorem dL_law_499 : decode cL_law 499 = .ok (.iadd, 1) := by decide +kernel
theorem dL_law_500 : decode cL_law 500 = .ok (.iaload, 1) := by decide +kernel
theorem dL_law_501 : decode cL_law 501 = .ok (.aload_n 0, 1) := by decide +kernel
theorem dL_law_502 : decode cL_law 502 = .ok (.iload_n 3, 1) := by decide +kernel
theorem dL_law_503 : decode cL_law 503 = .ok (.iconst 2, 1) := by decide +kernel
theorem dL_law_504 : decode cL_law 504 = .ok (.iadd, 1) := by decide +kernel
theorem dL_law_505 : decode cL_law 505 = .ok (.iaload, 1) := by decide +kernel
theorem dL_law_506 : decode cL_law 506 = .ok (.invokevirtual 76, 3) := by decide +kernel
theorem dL_law_509 : decode cL_law 509 = .ok (.aload_n 2, 1) := by decide +kernel
theorem dL_law_510 : decode cL_law 510 = .ok (.aload_n 0, 1) := by decide +kernel
theorem dL_law_511 : decode cL_law 511 = .ok (.iload_n 3, 1) := by decide +kernel
theorem dL_law_512 : decode cL_law 512 = .ok (.iconst 1, 1) := by decide +kernel
theorem dL_law_513 : decode cL_law 513 = .ok (.iadd, 1) := by decide +kernel
theorem dL_law_514 : decode cL_law 514 = .ok (.iaload, 1) := by decide +kernel
theorem dL_law_515 : decode cL_law 515 = .ok (.aload_n 0, 1) := by decide +kernel
theorem dL_law_516 : decode cL_law 516 = .ok (.iload_n 3, 1) := by decide +kernel
theorem dL_law_517 : decode cL_law 517 = .ok (.iconst 2, 1) := by decide +kernel
theorem dL_law_518 : decode cL_law 518 = .ok (.iadd, 1) := by decide +kernel
theorem dL_law_519 : decode cL_law 519 = .ok (.iaload, 1) := by decide +kernel
theorem dL_law_520 : decode cL_law 520 = .ok (.invokevirtual 79, 3) := by decide +kernel
theorem dL_law_523 : decode cL_law 523 = .ok (.if_icmp .eq 309, 3) := by decide +kernel
theorem dL_law_526 : decode cL_law 526 = .ok (.iconst 0, 1) := by decide +kernel
theorem dL_law_527 : decode cL_law 527 = .ok (.ireturn, 1) := by decide +kernel
theorem dL_law_528 : decode cL_law 528 = .ok (.aload_n 1, 1) := by decide +kernel
theorem dL_law_529 : decode cL_law 529 = .ok (.aload_n 0, 1) := by decide +kernel
theorem dL_law_530 : decode cL_law 530 = .ok (.iload_n 3, 1) := by decide +kernel
theorem dL_law_531 : decode cL_law 531 = .ok (.iconst 1, 1) := by decide +kernel
theorem dL_law_532 : decode cL_law 532 = .ok (.iadd, 1) := by decide +kernel
theorem dL_law_533 : decode cL_law 533 = .ok (.iaload, 1) := by decide +kernel
theorem dL_law_534 : decode cL_law 534 = .ok (.aload_n 0, 1) := by decide +kernel
theorem dL_law_535 : decode cL_law 535 = .ok (.iload_n 3, 1) := by decide +kernel
theorem dL_law_536 : decode cL_law 536 = .ok (.iconst 2, 1) := by decide +kernel
theorem dL_law_537 : decode cL_law 537 = .ok (.iadd, 1) := by decide +kernel
theorem dL_law_538 : decode cL_law 538 = .ok (.iaload, 1) := by decide +kernel
theorem dL_law_539 : decode cL_law 539 = .ok (.invokevirtual 80, 3) := by decide +kernel
theorem dL_law_542 : decode cL_law 542 = .ok (.aload_n 2, 1) := by decide +kernel
theorem dL_law_543 : decode cL_law 543 = .ok (.aload_n 0, 1) := by decide +kernel
theorem dL_law_544 : decode cL_law 544 = .ok (.iload_n 3, 1) := by decide +kernel
theorem dL_law_545 : decode cL_law 545 = .ok (.iconst 1, 1) := by decide +kernel
theorem dL_law_546 : decode cL_law 546 = .ok (.iadd, 1) := by decide +kernel
theorem dL_law_547 : decode cL_law 547 = .ok (.iaload, 1) := by decide +kernel
theorem dL_law_548 : decode cL_law 548 = .ok (.aload_n 0, 1) := by decide +kernel
theorem dL_law_549 : decode cL_law 549 = .ok (.iload_n 3, 1) := by decide +kernel
theorem dL_law_550 : decode cL_law 550 = .ok (.iconst 2, 1) := by decide +kernel
theorem dL_law_551 : decode cL_law 551 = .ok (.iadd, 1) := by decide +kernel
theorem dL_law_552 : decode cL_law 552 = .ok (.iaload, 1) := by decide +kernel
theorem dL_law_553 : decode cL_law 553 = .ok (.invokevirtual 83, 3) := by decide +kernel
theorem dL_law_556 : decode cL_law 556 = .ok (.if_icmp .eq 276, 3) := by decide +kernel
theorem dL_law_559 : decode cL_law 559 = .ok (.iconst 0, 1) := by decide +kernel
theorem dL_law_560 : decode cL_law 560 = .ok (.ireturn, 1) := by decide +kernel
theorem dL_law_561 : decode cL_law 561 = .ok (.aload_n 1, 1) := by decide +kernel
theorem dL_law_562 : decode cL_law 562 = .ok (.aload_n 0, 1) := by decide +kernel
theorem dL_law_563 : decode cL_law 563 = .ok (.iload_n 3, 1) := by decide +kernel
theorem dL_law_564 : decode cL_law 564 = .ok (.iconst 1, 1) := by decide +kernel
theorem dL_law_565 : decode cL_law 565 = .ok (.iadd, 1) := by decide +kernel
theorem dL_law_566 : decode cL_law 566 = .ok (.iaload, 1) := by decide +kernel
theorem dL_law_567 : decode cL_law 567 = .ok (.aload_n 0, 1) := by decide +kernel
theorem dL_law_568 : decode cL_law 568 = .ok (.iload_n 3, 1) := by decide +kernel
theorem dL_law_569 : decode cL_law 569 = .ok (.iconst 2, 1) := by decide +kernel
theorem dL_law_570 : decode cL_law 570 = .ok (.iadd, 1) := by decide +kernel
theorem dL_law_571 : decode cL_law 571 = .ok (.iaload, 1) := by decide +kernel
theorem dL_law_572 : decode cL_law 572 = .ok (.invokevirtual 84, 3) := by decide +kernel
theorem dL_law_575 : decode cL_law 575 = .ok (.aload_n 2, 1) := by decide +kernel
theorem dL_law_576 : decode cL_law 576 = .ok (.aload_n 0, 1) := by decide +kernel
theorem dL_law_577 : decode cL_law 577 = .ok (.iload_n 3, 1) := by decide +kernel
theorem dL_law_578 : decode cL_law 578 = .ok (.iconst 1, 1) := by decide +kernel
theorem dL_law_579 : decode cL_law 579 = .ok (.iadd, 1) := by decide +kernel
theorem dL_law_580 : decode cL_law 580 = .ok (.iaload, 1) := by decide +kernel
theorem dL_law_581 : decode cL_law 581 = .ok (.aload_n 0, 1) := by decide +kernel
theorem dL_law_582 : decode cL_law 582 = .ok (.iload_n 3, 1) := by decide +kernel
theorem dL_law_583 : decode cL_law 583 = .ok (.iconst 2, 1) := by decide +kernel
theorem dL_law_584 : decode cL_law 584 = .ok (.iadd, 1) := by decide +kernel
theorem dL_law_585 : decode cL_law 585 = .ok (.iaload, 1) := by decide +kernel
theorem dL_law_586 : decode cL_law 586 = .ok (.invokevirtual 87, 3) := by decide +kernel
theorem dL_law_589 : decode cL_law 589 = .ok (.if_icmp .eq 243, 3) := by decide +kernel
theorem dL_law_592 : decode cL_law 592 = .ok (.iconst 0, 1) := by decide +kernel
theorem dL_law_593 : decode cL_law 593 = .ok (.ireturn, 1) := by decide +kernel
theorem dL_law_594 : decode cL_law 594 = .ok (.aload_n 1, 1) := by decide +kernel
theorem dL_law_595 : decode cL_law 595 = .ok (.aload_n 0, 1) := by decide +kernel
theorem dL_law_596 : decode cL_law 596 = .ok (.iload_n 3, 1) := by decide +kernel
theorem dL_law_597 : decode cL_law 597 = .ok (.iconst 1, 1) := by decide +kernel
theorem dL_law_598 : decode cL_law 598 = .ok (.iadd, 1) := by decide +kernel
theorem dL_law_599 : decode cL_law 599 = .ok (.iaload, 1) := by decide +kernel
theorem dL_law_600 : decode cL_law 600 = .ok (.invokevirtual 88, 3) := by decide +kernel
theorem dL_law_603 : decode cL_law 603 = .ok (.aload_n 2, 1) := by decide +kernel
theorem dL_law_604 : decode cL_law 604 = .ok (.aload_n 0, 1) := by decide +kernel
theorem dL_law_605 : decode cL_law 605 = .ok (.iload_n 3, 1) := by decide +kernel
theorem dL_law_606 : decode cL_law 606 = .ok (.iconst 1, 1) := by decide +kernel
theorem dL_law_607 : decode cL_law 607 = .ok (.iadd, 1) := by decide +kernel
theorem dL_law_608 : decode cL_law 608 = .ok (.iaload, 1) := by decide +kernel
theorem dL_law_609 : decode cL_law 609 = .ok (.invokevirtual 91, 3) := by decide +kernel
theorem dL_law_612 : decode cL_law 612 = .ok (.if_icmp .eq 220, 3) := by decide +kernel
theorem dL_law_615 : decode cL_law 615 = .ok (.iconst 0, 1) := by decide +kernel
theorem dL_law_616 : decode cL_law 616 = .ok (.ireturn, 1) := by decide +kernel
theorem dL_law_617 : decode cL_law 617 = .ok (.aload_n 1, 1) := by decide +kernel
theorem dL_law_618 : decode cL_law 618 = .ok (.aload_n 0, 1) := by decide +kernel
theorem dL_law_619 : decode cL_law 619 = .ok (.iload_n 3, 1) := by decide +kernel
theorem dL_law_620 : decode cL_law 620 = .ok (.iconst 1, 1) := by decide +kernel
theorem dL_law_621 : decode cL_law 621 = .ok (.iadd, 1) := by decide +kernel
theorem dL_law_622 : decode cL_law 622 = .ok (.iaload, 1) := by decide +kernel
theorem dL_law_623 : decode cL_law 623 = .ok (.aload_n 0, 1) := by decide +kernel
theorem dL_law_624 : decode cL_law 624 = .ok (.iload_n 3, 1) := by decide +kernel
theorem dL_law_625 : decode cL_law 625 = .ok (.iconst 2, 1) := by decide +kernel
theorem dL_law_626 : decode cL_law 626 = .ok (.iadd, 1) := by decide +kernel
theorem dL_law_627 : decode cL_law 627 = .ok (.iaload, 1) := by decide +kernel
theorem dL_law_628 : decode cL_law 628 = .ok (.invokevirtual 92, 3) := by decide +kernel
theorem dL_law_631 : decode cL_law 631 = .ok (.aload_n 2, 1) := by decide +kernel
theorem dL_law_632 : decode cL_law 632 = .ok (.aload_n 0, 1) := by decide +kernel
theorem dL_law_633 : decode cL_law 633 = .ok (.iload_n 3, 1) := by decide +kernel
theorem dL_law_634 : decode cL_law 634 = .ok (.iconst 1, 1) := by decide +kernel
theorem dL_law_635 : decode cL_law 635 = .ok (.iadd, 1) := by decide +kernel
theorem dL_law_636 : decode cL_law 636 = .ok (.iaload, 1) := by decide +kernel
theorem dL_law_637 : decode cL_law 637 = .ok (.aload_n 0, 1) := by decide +kernel
theorem dL_law_638 : decode cL_law 638 = .ok (.iload_n 3, 1) := by decide +kernel
theorem dL_law_639 : decode cL_law 639 = .ok (.iconst 2, 1) := by decide +kernel
theorem dL_law_640 : decode cL_law 640 = .ok (.iadd, 1) := by decide +kernel
theorem dL_law_641 : decode cL_law 641 = .ok (.iaload, 1) := by decide +kernel
theorem dL_law_642 : decode cL_law 642 = .ok (.invokevirtual 95, 3) := by decide +kernel
theorem dL_law_645 : decode cL_law 645 = .ok (.if_icmp .eq 187, 3) := by decide +kernel
theorem dL_law_648 : decode cL_law 648 = .ok (.iconst 0, 1) := by decide +kernel
theorem dL_law_649 : decode cL_law 649 = .ok (.ireturn, 1) := by decide +kernel
theorem dL_law_650 : decode cL_law 650 = .ok (.aload_n 1, 1) := by decide +kernel
theorem dL_law_651 : decode cL_law 651 = .ok (.aload_n 0, 1) := by decide +kernel
theorem dL_law_652 : decode cL_law 652 = .ok (.iload_n 3, 1) := by decide +kernel
theorem dL_law_653 : decode cL_law 653 = .ok (.iconst 1, 1) := by decide +kernel
theorem dL_law_654 : decode cL_law 654 = .ok (.iadd, 1) := by decide +kernel
theorem dL_law_655 : decode cL_law 655 = .ok (.iaload, 1) := by decide +kernel
theorem dL_law_656 : decode cL_law 656 = .ok (.invokevirtual 96, 3) := by decide +kernel
theorem dL_law_659 : decode cL_law 659 = .ok (.aload_n 2, 1) := by decide +kernel
theorem dL_law_660 : decode cL_law 660 = .ok (.aload_n 0, 1) := by decide +kernel
theorem dL_law_661 : decode cL_law 661 = .ok (.iload_n 3, 1) := by decide +kernel
theorem dL_law_662 : decode cL_law 662 = .ok (.iconst 1, 1) := by decide +kernel
theorem dL_law_663 : decode cL_law 663 = .ok (.iadd, 1) := by decide +kernel
theorem dL_law_664 : decode cL_law 664 = .ok (.iaload, 1) := by decide +kernel
theorem dL_law_665 : decode cL_law 665 = .ok (.invokevirtual 99, 3) := by decide +kernel
theorem dL_law_668 : decode cL_law 668 = .ok (.if_icmp .eq 164, 3) := by decide +kernel
theorem dL_law_671 : decode cL_law 671 = .ok (.iconst 0, 1) := by decide +kernel
theorem dL_law_672 : decode cL_law 672 = .ok (.ireturn, 1) := by decide +kernel
theorem dL_law_673 : decode cL_law 673 = .ok (.aload_n 1, 1) := by decide +kernel
theorem dL_law_674 : decode cL_law 674 = .ok (.invokevirtual 100, 3) := by decide +kernel
theorem dL_law_677 : decode cL_law 677 = .ok (.dstore 4, 2) := by decide +kernel
theorem dL_law_679 : decode cL_law 679 = .ok (.aload_n 2, 1) := by decide +kernel
theorem dL_law_680 : decode cL_law 680 = .ok (.invokevirtual 104, 3) := by decide +kernel
theorem dL_law_683 : decode cL_law 683 = .ok (.dstore 6, 2) := by decide +kernel
theorem dL_law_685 : decode cL_law 685 = .ok (.dload 4, 2) := by decide +kernel
theorem dL_law_687 : decode cL_law 687 = .ok (.dload 6, 2) := by decide +kernel
theorem dL_law_689 : decode cL_law 689 = .ok (.dcmp .l, 1) := by decide +kernel
theorem dL_law_690 : decode cL_law 690 = .ok (.ifCond .eq 21, 3) := by decide +kernel
theorem dL_law_693 : decode cL_law 693 = .ok (.dload 4, 2) := by decide +kernel
theorem dL_law_695 : decode cL_law 695 = .ok (.dload 4, 2) := by decide +kernel
theorem dL_law_697 : decode cL_law 697 = .ok (.dcmp .l, 1) := by decide +kernel
theorem dL_law_698 : decode cL_law 698 = .ok (.ifCond .eq 11, 3) := by decide +kernel
theorem dL_law_701 : decode cL_law 701 = .ok (.dload 6, 2) := by decide +kernel
theorem dL_law_703 : decode cL_law 703 = .ok (.dload 6, 2) := by decide +kernel
theorem dL_law_705 : decode cL_law 705 = .ok (.dcmp .l, 1) := by decide +kernel
theorem dL_law_706 : decode cL_law 706 = .ok (.ifCond .ne 5, 3) := by decide +kernel
theorem dL_law_709 : decode cL_law 709 = .ok (.iconst 0, 1) := by decide +kernel
theorem dL_law_710 : decode cL_law 710 = .ok (.ireturn, 1) := by decide +kernel
theorem dL_law_711 : decode cL_law 711 = .ok (.goto 121, 3) := by decide +kernel
theorem dL_law_714 : decode cL_law 714 = .ok (.aload_n 1, 1) := by decide +kernel
theorem dL_law_715 : decode cL_law 715 = .ok (.aload_n 0, 1) := by decide +kernel
theorem dL_law_716 : decode cL_law 716 = .ok (.iload_n 3, 1) := by decide +kernel
theorem dL_law_717 : decode cL_law 717 = .ok (.iconst 1, 1) := by decide +kernel
theorem dL_law_718 : decode cL_law 718 = .ok (.iadd, 1) := by decide +kernel
theorem dL_law_719 : decode cL_law 719 = .ok (.iaload, 1) := by decide +kernel
theorem dL_law_720 : decode cL_law 720 = .ok (.invokevirtual 105, 3) := by decide +kernel
theorem dL_law_723 : decode cL_law 723 = .ok (.aload_n 2, 1) := by decide +kernel
theorem dL_law_724 : decode cL_law 724 = .ok (.aload_n 0, 1) := by decide +kernel
theorem dL_law_725 : decode cL_law 725 = .ok (.iload_n 3, 1) := by decide +kernel
theorem dL_law_726 : decode cL_law 726 = .ok (.iconst 1, 1) := by decide +kernel
theorem dL_law_727 : decode cL_law 727 = .ok (.iadd, 1) := by decide +kernel
theorem dL_law_728 : decode cL_law 728 = .ok (.iaload, 1) := by decide +kernel
theorem dL_law_729 : decode cL_law 729 = .ok (.invokevirtual 108, 3) := by decide +kernel
theorem dL_law_732 : decode cL_law 732 = .ok (.if_icmp .eq 100, 3) := by decide +kernel
theorem dL_law_735 : decode cL_law 735 = .ok (.iconst 0, 1) := by decide +kernel
theorem dL_law_736 : decode cL_law 736 = .ok (.ireturn, 1) := by decide +kernel
theorem dL_law_737 : decode cL_law 737 = .ok (.aload_n 1, 1) := by decide +kernel
theorem dL_law_738 : decode cL_law 738 = .ok (.aload_n 0, 1) := by decide +kernel
theorem dL_law_739 : decode cL_law 739 = .ok (.iload_n 3, 1) := by decide +kernel
theorem dL_law_740 : decode cL_law 740 = .ok (.iconst 1, 1) := by decide +kernel
theorem dL_law_741 : decode cL_law 741 = .ok (.iadd, 1) := by decide +kernel
theorem dL_law_742 : decode cL_law 742 = .ok (.iaload, 1) := by decide +kernel
theorem dL_law_743 : decode cL_law 743 = .ok (.aload_n 0, 1) := by decide +kernel
theorem dL_law_744 : decode cL_law 744 = .ok (.iload_n 3, 1) := by decide +kernel
theorem dL_law_745 : decode cL_law 745 = .ok (.iconst 2, 1) := by decide +kernel
theorem dL_law_746 : decode cL_law 746 = .ok (.iadd, 1) := by decide +kernel
theorem dL_law_747 : decode cL_law 747 = .ok (.iaload, 1) := by decide +kernel
theorem dL_law_748 : decode cL_law 748 = .ok (.invokevirtual 109, 3) := by decide +kernel
theorem dL_law_751 : decode cL_law 751 = .ok (.aload_n 2, 1) := by decide +kernel
theorem dL_law_752 : decode cL_law 752 = .ok (.aload_n 0, 1) := by decide +kernel
theorem dL_law_753 : decode cL_law 753 = .ok (.iload_n 3, 1) := by decide +kernel
theorem dL_law_754 : decode cL_law 754 = .ok (.iconst 1, 1) := by decide +kernel
theorem dL_law_755 : decode cL_law 755 = .ok (.iadd, 1) := by decide +kernel
theorem dL_law_756 : decode cL_law 756 = .ok (.iaload, 1) := by decide +kernel
theorem dL_law_757 : decode cL_law 757 = .ok (.aload_n 0, 1) := by decide +kernel
theorem dL_law_758 : decode cL_law 758 = .ok (.iload_n 3, 1) := by decide +kernel
theorem dL_law_759 : decode cL_law 759 = .ok (.iconst 2, 1) := by decide +kernel
theorem dL_law_760 : decode cL_law 760 = .ok (.iadd, 1) := by decide +kernel
theorem dL_law_761 : decode cL_law 761 = .ok (.iaload, 1) := by decide +kernel
theorem dL_law_762 : decode cL_law 762 = .ok (.invokevirtual 112, 3) := by decide +kernel
theorem dL_law_765 : decode cL_law 765 = .ok (.if_icmp .eq 67, 3) := by decide +kernel
theorem dL_law_768 : decode cL_law 768 = .ok (.iconst 0, 1) := by decide +kernel
theorem dL_law_769 : decode cL_law 769 = .ok (.ireturn, 1) := by decide +kernel
theorem dL_law_770 : decode cL_law 770 = .ok (.aload_n 1, 1) := by decide +kernel
theorem dL_law_771 : decode cL_law 771 = .ok (.aload_n 0, 1) := by decide +kernel
theorem dL_law_772 : decode cL_law 772 = .ok (.iload_n 3, 1) := by decide +kernel
theorem dL_law_773 : decode cL_law 773 = .ok (.iconst 1, 1) := by decide +kernel
theorem dL_law_774 : decode cL_law 774 = .ok (.iadd, 1) := by decide +kernel
theorem dL_law_775 : decode cL_law 775 = .ok (.iaload, 1) := by decide +kernel
theorem dL_law_776 : decode cL_law 776 = .ok (.invokevirtual 113, 3) := by decide +kernel
theorem dL_law_779 : decode cL_law 779 = .ok (.aload_n 2, 1) := by decide +kernel
theorem dL_law_780 : decode cL_law 780 = .ok (.aload_n 0, 1) := by decide +kernel
theorem dL_law_781 : decode cL_law 781 = .ok (.iload_n 3, 1) := by decide +kernel
theorem dL_law_782 : decode cL_law 782 = .ok (.iconst 1, 1) := by decide +kernel
theorem dL_law_783 : decode cL_law 783 = .ok (.iadd, 1) := by decide +kernel
theorem dL_law_784 : decode cL_law 784 = .ok (.iaload, 1) := by decide +kernel
theorem dL_law_785 : decode cL_law 785 = .ok (.invokevirtual 116, 3) := by decide +kernel
theorem dL_law_788 : decode cL_law 788 = .ok (.if_icmp .eq 44, 3) := by decide +kernel
theorem dL_law_791 : decode cL_law 791 = .ok (.iconst 0, 1) := by decide +kernel
theorem dL_law_792 : decode cL_law 792 = .ok (.ireturn, 1) := by decide +kernel
theorem dL_law_793 : decode cL_law 793 = .ok (.aload_n 1, 1) := by decide +kernel
theorem dL_law_794 : decode cL_law 794 = .ok (.invokevirtual 117, 3) := by decide +kernel
theorem dL_law_797 : decode cL_law 797 = .ok (.aload_n 2, 1) := by decide +kernel
theorem dL_law_798 : decode cL_law 798 = .ok (.invokevirtual 120, 3) := by decide +kernel
theorem dL_law_801 : decode cL_law 801 = .ok (.if_icmp .eq 31, 3) := by decide +kernel
theorem dL_law_804 : decode cL_law 804 = .ok (.iconst 0, 1) := by decide +kernel
theorem dL_law_805 : decode cL_law 805 = .ok (.ireturn, 1) := by decide +kernel
theorem dL_law_806 : decode cL_law 806 = .ok (.aload_n 1, 1) := by decide +kernel
theorem dL_law_807 : decode cL_law 807 = .ok (.invokevirtual 121, 3) := by decide +kernel
theorem dL_law_810 : decode cL_law 810 = .ok (.aload_n 2, 1) := by decide +kernel
theorem dL_law_811 : decode cL_law 811 = .ok (.invokevirtual 124, 3) := by decide +kernel
theorem dL_law_814 : decode cL_law 814 = .ok (.if_icmp .eq 18, 3) := by decide +kernel
theorem dL_law_817 : decode cL_law 817 = .ok (.iconst 0, 1) := by decide +kernel
theorem dL_law_818 : decode cL_law 818 = .ok (.ireturn, 1) := by decide +kernel
theorem dL_law_819 : decode cL_law 819 = .ok (.aload_n 1, 1) := by decide +kernel
theorem dL_law_820 : decode cL_law 820 = .ok (.invokevirtual 125, 3) := by decide +kernel
theorem dL_law_823 : decode cL_law 823 = .ok (.aload_n 2, 1) := by decide +kernel
theorem dL_law_824 : decode cL_law 824 = .ok (.invokevirtual 128, 3) := by decide +kernel
theorem dL_law_827 : decode cL_law 827 = .ok (.if_icmp .eq 5, 3) := by decide +kernel
theorem dL_law_830 : decode cL_law 830 = .ok (.iconst 0, 1) := by decide +kernel
theorem dL_law_831 : decode cL_law 831 = .ok (.ireturn, 1) := by decide +kernel
theorem dL_law_832 : decode cL_law 832 = .ok (.iinc 3 3, 3) := by decide +kernel
theorem dL_law_835 : decode cL_law 835 = .ok (.goto (-817), 3) := by decide +kernel
theorem dL_law_838 : decode cL_law 838 = .ok (.iconst 1, 1) := by decide +kernel
theorem dL_law_839 : decode cL_law 839 = .ok (.ireturn, 1) := by decide +kernel
end
section
def mX0_init : Md := (cX0_init, yX0_init, 1, none)
set_option maxRecDepth 100000 in
theorem okX0_init : MdI mX0_init 0 := ⟨⟨wa_t 6 rfl rfl, wa_t 143 rfl rfl, ⟨by decide, by decide⟩, by decide, by decide +kernel, by decide⟩, wa_t 142 rfl rfl, rfl, rfl⟩
def mX0_mostTraders : Md := (cX0_mostTraders, yX0_mostTraders, 3, (some .int))
set_option maxRecDepth 100000 in
theorem okX0_mostTraders : MdV mX0_mostTraders 2 := ⟨⟨wa_t 6 rfl rfl, wa_t 506 rfl rfl, ⟨by decide, by decide⟩, by decide, by decide +kernel, by decide⟩, wa_t 504 rfl rfl, wa_t 505 rfl rfl⟩
def mX0_readTakers : Md := (cX0_readTakers, yX0_readTakers, 5, none)
set_option maxRecDepth 100000 in
theorem okX0_readTakers : MdV mX0_readTakers 1 := ⟨⟨wa_t 6 rfl rfl, wa_t 510 rfl rfl, ⟨by decide, by decide⟩, by decide, by decide +kernel, by decide⟩, wa_t 509 rfl rfl, wa_s 15 rfl rfl⟩
def mX0_findChains : Md := (cX0_findChains, yX0_findChains, 4, none)
set_option maxRecDepth 100000 in
theorem okX0_findChains : MdV mX0_findChains 0 := ⟨⟨wa_t 6 rfl rfl, wa_t 520 rfl rfl, ⟨by decide, by decide⟩, by decide, by decide +kernel, by decide⟩, wa_t 519 rfl rfl, wa_s 16 rfl rfl⟩
def mX0_findCircles : Md := (cX0_findCircles, yX0_findCircles, 4, none)
set_option maxRecDepth 100000 in
theorem okX0_findCircles : MdV mX0_findCircles 1 := ⟨⟨wa_t 6 rfl rfl, wa_t 527 rfl rfl, ⟨by decide, by decide⟩, by decide, by decide +kernel, by decide⟩, wa_t 526 rfl rfl, wa_s 17 rfl rfl⟩
def mX0_findBarters : Md := (cX0_findBarters, yX0_findBarters, 3, (some .int))
set_option maxRecDepth 100000 in
theorem okX0_findBarters : MdV mX0_findBarters 0 := ⟨⟨wa_t 6 rfl rfl, wa_t 532 rfl rfl, ⟨by decide, by decide⟩, by decide, by decide +kernel, by decide⟩, wa_t 531 rfl rfl, wa_s 18 rfl rfl⟩
def mX0_isMadeOfCircles : Md := (cX0_isMadeOfCircles, yX0_isMadeOfCircles, 5, (some .boolean))
set_option maxRecDepth 100000 in
theorem okX0_isMadeOfCircles : MdV mX0_isMadeOfCircles 1 := ⟨⟨wa_t 6 rfl rfl, wa_t 536 rfl rfl, ⟨by decide, by decide⟩, by decide, by decide +kernel, by decide⟩, wa_t 535 rfl rfl, wa_s 19 rfl rfl⟩
def mX0_leastOf : Md := (cX0_leastOf, yX0_leastOf, 2, (some .int))
set_option maxRecDepth 100000 in
theorem okX0_leastOf : MdS mX0_leastOf 1 := ⟨⟨wa_t 6 rfl rfl, wa_t 523 rfl rfl, ⟨by decide, by decide⟩, by decide, by decide +kernel, by decide⟩, wa_t 522 rfl rfl⟩
def mX1_init : Md := (cX1_init, yX1_init, 2, none)
set_option maxRecDepth 100000 in
theorem okX1_init : MdI mX1_init 0 := ⟨⟨wa_t 4 rfl rfl, wa_t 108 rfl rfl, ⟨by decide, by decide⟩, by decide, by decide +kernel, by decide⟩, wa_t 107 rfl rfl, rfl, rfl⟩
def mX1_record : Md := (cX1_record, yX1_record, 3, none)
set_option maxRecDepth 100000 in
theorem okX1_record : MdV mX1_record 1 := ⟨⟨wa_t 4 rfl rfl, wa_t 235 rfl rfl, ⟨by decide, by decide⟩, by decide, by decide +kernel, by decide⟩, wa_t 233 rfl rfl, wa_t 234 rfl rfl⟩
def mX1_takeBack : Md := (cX1_takeBack, yX1_takeBack, 3, none)
set_option maxRecDepth 100000 in
theorem okX1_takeBack : MdV mX1_takeBack 1 := ⟨⟨wa_t 4 rfl rfl, wa_t 609 rfl rfl, ⟨by decide, by decide⟩, by decide, by decide +kernel, by decide⟩, wa_t 607 rfl rfl, wa_t 608 rfl rfl⟩
def mX1_rowAt : Md := (cX1_rowAt, yX1_rowAt, 2, (some (.object "BarterRings$Market")))
set_option maxRecDepth 100000 in
theorem okX1_rowAt : MdV mX1_rowAt 1 := ⟨⟨wa_t 4 rfl rfl, wa_t 239 rfl rfl, ⟨by decide, by decide⟩, by decide, by decide +kernel, by decide⟩, wa_t 238 rfl rfl, wa_s 0 rfl rfl⟩
def mX2_init : Md := (cX2_init, yX2_init, 1, none)
set_option maxRecDepth 100000 in
theorem okX2_init : MdI mX2_init 0 := ⟨⟨wa_t 2 rfl rfl, wa_t 24 rfl rfl, ⟨by decide, by decide⟩, by decide, by decide +kernel, by decide⟩, wa_t 23 rfl rfl, rfl, rfl⟩
def mX2_copyFrom : Md := (cX2_copyFrom, yX2_copyFrom, 2, none)
set_option maxRecDepth 100000 in
theorem okX2_copyFrom : MdV mX2_copyFrom 1 := ⟨⟨wa_t 2 rfl rfl, wa_t 243 rfl rfl, ⟨by decide, by decide⟩, by decide, by decide +kernel, by decide⟩, wa_t 241 rfl rfl, wa_t 242 rfl rfl⟩
def mX2_has : Md := (cX2_has, yX2_has, 2, (some .boolean))
set_option maxRecDepth 100000 in
theorem okX2_has : MdV mX2_has 1 := ⟨⟨wa_t 2 rfl rfl, wa_t 265 rfl rfl, ⟨by decide, by decide⟩, by decide, by decide +kernel, by decide⟩, wa_t 263 rfl rfl, wa_t 264 rfl rfl⟩
def mX2_hasBoth : Md := (cX2_hasBoth, yX2_hasBoth, 3, (some .boolean))
set_option maxRecDepth 100000 in
theorem okX2_hasBoth : MdV mX2_hasBoth 2 := ⟨⟨wa_t 2 rfl rfl, wa_t 296 rfl rfl, ⟨by decide, by decide⟩, by decide, by decide +kernel, by decide⟩, wa_t 294 rfl rfl, wa_t 295 rfl rfl⟩
def mX2_add : Md := (cX2_add, yX2_add, 3, none)
set_option maxRecDepth 100000 in
theorem okX2_add : MdV mX2_add 2 := ⟨⟨wa_t 2 rfl rfl, wa_t 253 rfl rfl, ⟨by decide, by decide⟩, by decide, by decide +kernel, by decide⟩, wa_t 251 rfl rfl, wa_t 252 rfl rfl⟩
def mX2_remove : Md := (cX2_remove, yX2_remove, 3, none)
set_option maxRecDepth 100000 in
theorem okX2_remove : MdV mX2_remove 1 := ⟨⟨wa_t 2 rfl rfl, wa_t 269 rfl rfl, ⟨by decide, by decide⟩, by decide, by decide +kernel, by decide⟩, wa_t 267 rfl rfl, wa_t 268 rfl rfl⟩
def mX2_makeWare : Md := (cX2_makeWare, yX2_makeWare, 2, none)
set_option maxRecDepth 100000 in
theorem okX2_makeWare : MdV mX2_makeWare 1 := ⟨⟨wa_t 2 rfl rfl, wa_t 257 rfl rfl, ⟨by decide, by decide⟩, by decide, by decide +kernel, by decide⟩, wa_t 256 rfl rfl, wa_s 1 rfl rfl⟩
def mX2_hasWare : Md := (cX2_hasWare, yX2_hasWare, 2, (some .boolean))
set_option maxRecDepth 100000 in
theorem okX2_hasWare : MdV mX2_hasWare 1 := ⟨⟨wa_t 2 rfl rfl, wa_t 317 rfl rfl, ⟨by decide, by decide⟩, by decide, by decide +kernel, by decide⟩, wa_t 315 rfl rfl, wa_t 316 rfl rfl⟩
def mX2_hasSoundWare : Md := (cX2_hasSoundWare, yX2_hasSoundWare, 2, (some .boolean))
set_option maxRecDepth 100000 in
theorem okX2_hasSoundWare : MdV mX2_hasSoundWare 1 := ⟨⟨wa_t 2 rfl rfl, wa_t 309 rfl rfl, ⟨by decide, by decide⟩, by decide, by decide +kernel, by decide⟩, wa_t 307 rfl rfl, wa_t 308 rfl rfl⟩
def mX2_daysLeft : Md := (cX2_daysLeft, yX2_daysLeft, 2, (some .int))
set_option maxRecDepth 100000 in
theorem okX2_daysLeft : MdV mX2_daysLeft 1 := ⟨⟨wa_t 2 rfl rfl, wa_t 313 rfl rfl, ⟨by decide, by decide⟩, by decide, by decide +kernel, by decide⟩, wa_t 311 rfl rfl, wa_t 312 rfl rfl⟩
def mX2_wantsWareOf : Md := (cX2_wantsWareOf, yX2_wantsWareOf, 3, (some .boolean))
set_option maxRecDepth 100000 in
theorem okX2_wantsWareOf : MdV mX2_wantsWareOf 2 := ⟨⟨wa_t 2 rfl rfl, wa_t 325 rfl rfl, ⟨by decide, by decide⟩, by decide, by decide +kernel, by decide⟩, wa_t 324 rfl rfl, wa_s 2 rfl rfl⟩
def mX2_mayBarter : Md := (cX2_mayBarter, yX2_mayBarter, 2, (some .boolean))
set_option maxRecDepth 100000 in
theorem okX2_mayBarter : MdV mX2_mayBarter 1 := ⟨⟨wa_t 2 rfl rfl, wa_t 362 rfl rfl, ⟨by decide, by decide⟩, by decide, by decide +kernel, by decide⟩, wa_t 361 rfl rfl, wa_s 6 rfl rfl⟩
def mX2_canTake : Md := (cX2_canTake, yX2_canTake, 3, (some .boolean))
set_option maxRecDepth 100000 in
theorem okX2_canTake : MdV mX2_canTake 2 := ⟨⟨wa_t 2 rfl rfl, wa_t 358 rfl rfl, ⟨by decide, by decide⟩, by decide, by decide +kernel, by decide⟩, wa_t 356 rfl rfl, wa_t 357 rfl rfl⟩
def mX2_giversOf : Md := (cX2_giversOf, yX2_giversOf, 4, (some .int))
set_option maxRecDepth 100000 in
theorem okX2_giversOf : MdV mX2_giversOf 1 := ⟨⟨wa_t 2 rfl rfl, wa_t 354 rfl rfl, ⟨by decide, by decide⟩, by decide, by decide +kernel, by decide⟩, wa_t 352 rfl rfl, wa_t 353 rfl rfl⟩
def mX2_numberOfTakers : Md := (cX2_numberOfTakers, yX2_numberOfTakers, 4, (some .int))
set_option maxRecDepth 100000 in
theorem okX2_numberOfTakers : MdV mX2_numberOfTakers 1 := ⟨⟨wa_t 2 rfl rfl, wa_t 484 rfl rfl, ⟨by decide, by decide⟩, by decide, by decide +kernel, by decide⟩, wa_t 482 rfl rfl, wa_t 483 rfl rfl⟩
def mX2_refusal : Md := (cX2_refusal, yX2_refusal, 3, (some .int))
set_option maxRecDepth 100000 in
theorem okX2_refusal : MdV mX2_refusal 2 := ⟨⟨wa_t 2 rfl rfl, wa_t 305 rfl rfl, ⟨by decide, by decide⟩, by decide, by decide +kernel, by decide⟩, wa_t 303 rfl rfl, wa_t 304 rfl rfl⟩
def mX2_barterByHand : Md := (cX2_barterByHand, yX2_barterByHand, 4, (some .int))
set_option maxRecDepth 100000 in
theorem okX2_barterByHand : MdV mX2_barterByHand 2 := ⟨⟨wa_t 2 rfl rfl, wa_t 301 rfl rfl, ⟨by decide, by decide⟩, by decide, by decide +kernel, by decide⟩, wa_t 299 rfl rfl, wa_t 300 rfl rfl⟩
def mX2_doBarter : Md := (cX2_doBarter, yX2_doBarter, 3, none)
set_option maxRecDepth 100000 in
theorem okX2_doBarter : MdV mX2_doBarter 1 := ⟨⟨wa_t 2 rfl rfl, wa_t 384 rfl rfl, ⟨by decide, by decide⟩, by decide, by decide +kernel, by decide⟩, wa_t 382 rfl rfl, wa_t 383 rfl rfl⟩
def mX2_keepWares : Md := (cX2_keepWares, yX2_keepWares, 1, none)
set_option maxRecDepth 100000 in
theorem okX2_keepWares : MdV mX2_keepWares 0 := ⟨⟨wa_t 2 rfl rfl, wa_t 332 rfl rfl, ⟨by decide, by decide⟩, by decide, by decide +kernel, by decide⟩, wa_t 331 rfl rfl, wa_s 3 rfl rfl⟩
def mX2_takeWare : Md := (cX2_takeWare, yX2_takeWare, 4, none)
set_option maxRecDepth 100000 in
theorem okX2_takeWare : MdV mX2_takeWare 2 := ⟨⟨wa_t 2 rfl rfl, wa_t 336 rfl rfl, ⟨by decide, by decide⟩, by decide, by decide +kernel, by decide⟩, wa_t 335 rfl rfl, wa_s 4 rfl rfl⟩
def mX2_passDay : Md := (cX2_passDay, yX2_passDay, 3, (some .int))
set_option maxRecDepth 100000 in
theorem okX2_passDay : MdV mX2_passDay 0 := ⟨⟨wa_t 2 rfl rfl, wa_t 392 rfl rfl, ⟨by decide, by decide⟩, by decide, by decide +kernel, by decide⟩, wa_t 390 rfl rfl, wa_t 391 rfl rfl⟩
def mX2_renewWare : Md := (cX2_renewWare, yX2_renewWare, 2, none)
set_option maxRecDepth 100000 in
theorem okX2_renewWare : MdV mX2_renewWare 1 := ⟨⟨wa_t 2 rfl rfl, wa_t 396 rfl rfl, ⟨by decide, by decide⟩, by decide, by decide +kernel, by decide⟩, wa_t 395 rfl rfl, wa_s 10 rfl rfl⟩
def mX2_drawLot : Md := (cX2_drawLot, yX2_drawLot, 3, none)
set_option maxRecDepth 100000 in
theorem okX2_drawLot : MdV mX2_drawLot 0 := ⟨⟨wa_t 2 rfl rfl, wa_t 400 rfl rfl, ⟨by decide, by decide⟩, by decide, by decide +kernel, by decide⟩, wa_t 399 rfl rfl, wa_s 11 rfl rfl⟩
def mX2_needs : Md := (cX2_needs, yX2_needs, 3, (some .int))
set_option maxRecDepth 100000 in
theorem okX2_needs : MdV mX2_needs 0 := ⟨⟨wa_t 2 rfl rfl, wa_t 564 rfl rfl, ⟨by decide, by decide⟩, by decide, by decide +kernel, by decide⟩, wa_t 562 rfl rfl, wa_t 563 rfl rfl⟩
def mX2_needsMet : Md := (cX2_needsMet, yX2_needsMet, 3, (some .int))
set_option maxRecDepth 100000 in
theorem okX2_needsMet : MdV mX2_needsMet 0 := ⟨⟨wa_t 2 rfl rfl, wa_t 455 rfl rfl, ⟨by decide, by decide⟩, by decide, by decide +kernel, by decide⟩, wa_t 453 rfl rfl, wa_t 454 rfl rfl⟩
def mX2_waresOfKind : Md := (cX2_waresOfKind, yX2_waresOfKind, 4, (some .int))
set_option maxRecDepth 100000 in
theorem okX2_waresOfKind : MdV mX2_waresOfKind 1 := ⟨⟨wa_t 2 rfl rfl, wa_t 544 rfl rfl, ⟨by decide, by decide⟩, by decide, by decide +kernel, by decide⟩, wa_t 542 rfl rfl, wa_t 543 rfl rfl⟩
def mX2_soundWaresOfKind : Md := (cX2_soundWaresOfKind, yX2_soundWaresOfKind, 4, (some .int))
set_option maxRecDepth 100000 in
theorem okX2_soundWaresOfKind : MdV mX2_soundWaresOfKind 1 := ⟨⟨wa_t 2 rfl rfl, wa_t 548 rfl rfl, ⟨by decide, by decide⟩, by decide, by decide +kernel, by decide⟩, wa_t 546 rfl rfl, wa_t 547 rfl rfl⟩
def mX2_soundWares : Md := (cX2_soundWares, yX2_soundWares, 3, (some .int))
set_option maxRecDepth 100000 in
theorem okX2_soundWares : MdV mX2_soundWares 0 := ⟨⟨wa_t 2 rfl rfl, wa_t 569 rfl rfl, ⟨by decide, by decide⟩, by decide, by decide +kernel, by decide⟩, wa_t 567 rfl rfl, wa_t 568 rfl rfl⟩
def mX2_spoiltWares : Md := (cX2_spoiltWares, yX2_spoiltWares, 3, (some .int))
set_option maxRecDepth 100000 in
theorem okX2_spoiltWares : MdV mX2_spoiltWares 0 := ⟨⟨wa_t 2 rfl rfl, wa_t 573 rfl rfl, ⟨by decide, by decide⟩, by decide, by decide +kernel, by decide⟩, wa_t 571 rfl rfl, wa_t 572 rfl rfl⟩
def mX2_daysLeftOfAll : Md := (cX2_daysLeftOfAll, yX2_daysLeftOfAll, 3, (some .int))
set_option maxRecDepth 100000 in
theorem okX2_daysLeftOfAll : MdV mX2_daysLeftOfAll 0 := ⟨⟨wa_t 2 rfl rfl, wa_t 586 rfl rfl, ⟨by decide, by decide⟩, by decide, by decide +kernel, by decide⟩, wa_t 584 rfl rfl, wa_t 585 rfl rfl⟩
def mX2_tradersWhoWant : Md := (cX2_tradersWhoWant, yX2_tradersWhoWant, 4, (some .int))
set_option maxRecDepth 100000 in
theorem okX2_tradersWhoWant : MdV mX2_tradersWhoWant 1 := ⟨⟨wa_t 2 rfl rfl, wa_t 552 rfl rfl, ⟨by decide, by decide⟩, by decide, by decide +kernel, by decide⟩, wa_t 550 rfl rfl, wa_t 551 rfl rfl⟩
def mX2_tradersWhoMake : Md := (cX2_tradersWhoMake, yX2_tradersWhoMake, 4, (some .int))
set_option maxRecDepth 100000 in
theorem okX2_tradersWhoMake : MdV mX2_tradersWhoMake 1 := ⟨⟨wa_t 2 rfl rfl, wa_t 556 rfl rfl, ⟨by decide, by decide⟩, by decide, by decide +kernel, by decide⟩, wa_t 554 rfl rfl, wa_t 555 rfl rfl⟩
def mX2_stuckTraders : Md := (cX2_stuckTraders, yX2_stuckTraders, 3, (some .int))
set_option maxRecDepth 100000 in
theorem okX2_stuckTraders : MdV mX2_stuckTraders 0 := ⟨⟨wa_t 2 rfl rfl, wa_t 577 rfl rfl, ⟨by decide, by decide⟩, by decide, by decide +kernel, by decide⟩, wa_t 575 rfl rfl, wa_t 576 rfl rfl⟩
def mX3_init : Md := (cX3_init, yX3_init, 1, none)
set_option maxRecDepth 100000 in
theorem okX3_init : MdI mX3_init 0 := ⟨⟨wa_t 5 rfl rfl, wa_t 128 rfl rfl, ⟨by decide, by decide⟩, by decide, by decide +kernel, by decide⟩, wa_t 127 rfl rfl, rfl, rfl⟩
def mX3_put : Md := (cX3_put, yX3_put, 2, none)
set_option maxRecDepth 100000 in
theorem okX3_put : MdV mX3_put 1 := ⟨⟨wa_t 5 rfl rfl, wa_t 408 rfl rfl, ⟨by decide, by decide⟩, by decide, by decide +kernel, by decide⟩, wa_t 406 rfl rfl, wa_t 407 rfl rfl⟩
def mX3_signAt : Md := (cX3_signAt, yX3_signAt, 2, (some .char))
set_option maxRecDepth 100000 in
theorem okX3_signAt : MdV mX3_signAt 1 := ⟨⟨wa_t 5 rfl rfl, wa_t 424 rfl rfl, ⟨by decide, by decide⟩, by decide, by decide +kernel, by decide⟩, wa_t 422 rfl rfl, wa_t 423 rfl rfl⟩
def mX3_digitAt : Md := (cX3_digitAt, yX3_digitAt, 2, (some .int))
set_option maxRecDepth 100000 in
theorem okX3_digitAt : MdV mX3_digitAt 1 := ⟨⟨wa_t 5 rfl rfl, wa_t 441 rfl rfl, ⟨by decide, by decide⟩, by decide, by decide +kernel, by decide⟩, wa_t 439 rfl rfl, wa_t 440 rfl rfl⟩
def mX3_faultAsTraders : Md := (cX3_faultAsTraders, yX3_faultAsTraders, 5, (some .int))
set_option maxRecDepth 100000 in
theorem okX3_faultAsTraders : MdV mX3_faultAsTraders 0 := ⟨⟨wa_t 5 rfl rfl, wa_t 420 rfl rfl, ⟨by decide, by decide⟩, by decide, by decide +kernel, by decide⟩, wa_t 418 rfl rfl, wa_t 419 rfl rfl⟩
def mX3_faultAsDays : Md := (cX3_faultAsDays, yX3_faultAsDays, 4, (some .int))
set_option maxRecDepth 100000 in
theorem okX3_faultAsDays : MdV mX3_faultAsDays 0 := ⟨⟨wa_t 5 rfl rfl, wa_t 428 rfl rfl, ⟨by decide, by decide⟩, by decide, by decide +kernel, by decide⟩, wa_t 426 rfl rfl, wa_t 427 rfl rfl⟩
def mX3_numberOfTraders : Md := (cX3_numberOfTraders, yX3_numberOfTraders, 3, (some .int))
set_option maxRecDepth 100000 in
theorem okX3_numberOfTraders : MdV mX3_numberOfTraders 0 := ⟨⟨wa_t 5 rfl rfl, wa_t 436 rfl rfl, ⟨by decide, by decide⟩, by decide, by decide +kernel, by decide⟩, wa_t 434 rfl rfl, wa_t 435 rfl rfl⟩
def mX3_wantsBehind : Md := (cX3_wantsBehind, yX3_wantsBehind, 4, (some .int))
set_option maxRecDepth 100000 in
theorem okX3_wantsBehind : MdV mX3_wantsBehind 1 := ⟨⟨wa_t 5 rfl rfl, wa_t 445 rfl rfl, ⟨by decide, by decide⟩, by decide, by decide +kernel, by decide⟩, wa_t 443 rfl rfl, wa_t 444 rfl rfl⟩
def mX4_init : Md := (cX4_init, yX4_init, 1, none)
set_option maxRecDepth 100000 in
theorem okX4_init : MdI mX4_init 0 := ⟨⟨wa_t 7 rfl rfl, wa_t 169 rfl rfl, ⟨by decide, by decide⟩, by decide, by decide +kernel, by decide⟩, wa_t 168 rfl rfl, rfl, rfl⟩
def mX4_findBest : Md := (cX4_findBest, yX4_findBest, 3, (some .int))
set_option maxRecDepth 100000 in
theorem okX4_findBest : MdV mX4_findBest 1 := ⟨⟨wa_t 7 rfl rfl, wa_t 348 rfl rfl, ⟨by decide, by decide⟩, by decide, by decide +kernel, by decide⟩, wa_t 346 rfl rfl, wa_t 347 rfl rfl⟩
def mX4_chooseGiver : Md := (cX4_chooseGiver, yX4_chooseGiver, 5, none)
set_option maxRecDepth 100000 in
theorem okX4_chooseGiver : MdV mX4_chooseGiver 3 := ⟨⟨wa_t 7 rfl rfl, wa_t 369 rfl rfl, ⟨by decide, by decide⟩, by decide, by decide +kernel, by decide⟩, wa_t 368 rfl rfl, wa_s 7 rfl rfl⟩
def mX4_goOn : Md := (cX4_goOn, yX4_goOn, 5, none)
set_option maxRecDepth 100000 in
theorem okX4_goOn : MdV mX4_goOn 4 := ⟨⟨wa_t 7 rfl rfl, wa_t 380 rfl rfl, ⟨by decide, by decide⟩, by decide, by decide +kernel, by decide⟩, wa_t 379 rfl rfl, wa_s 9 rfl rfl⟩
def mX4_fitsInCircle : Md := (cX4_fitsInCircle, yX4_fitsInCircle, 5, (some .boolean))
set_option maxRecDepth 100000 in
theorem okX4_fitsInCircle : MdV mX4_fitsInCircle 2 := ⟨⟨wa_t 7 rfl rfl, wa_t 375 rfl rfl, ⟨by decide, by decide⟩, by decide, by decide +kernel, by decide⟩, wa_t 374 rfl rfl, wa_s 8 rfl rfl⟩
def mX5_init : Md := (cX5_init, yX5_init, 1, none)
set_option maxRecDepth 100000 in
theorem okX5_init : MdI mX5_init 0 := ⟨⟨wa_t 1 rfl rfl, wa_t 16 rfl rfl, ⟨by decide, by decide⟩, by decide, by decide +kernel, by decide⟩, wa_t 15 rfl rfl, rfl, rfl⟩
def mX5_come : Md := (cX5_come, yX5_come, 3, (some .int))
set_option maxRecDepth 100000 in
theorem okX5_come : MdV mX5_come 2 := ⟨⟨wa_t 1 rfl rfl, wa_t 225 rfl rfl, ⟨by decide, by decide⟩, by decide, by decide +kernel, by decide⟩, wa_t 223 rfl rfl, wa_t 224 rfl rfl⟩
def mX5_go : Md := (cX5_go, yX5_go, 3, (some .int))
set_option maxRecDepth 100000 in
theorem okX5_go : MdV mX5_go 1 := ⟨⟨wa_t 1 rfl rfl, wa_t 261 rfl rfl, ⟨by decide, by decide⟩, by decide, by decide +kernel, by decide⟩, wa_t 259 rfl rfl, wa_t 260 rfl rfl⟩
def mX5_want : Md := (cX5_want, yX5_want, 4, (some .int))
set_option maxRecDepth 100000 in
theorem okX5_want : MdV mX5_want 2 := ⟨⟨wa_t 1 rfl rfl, wa_t 273 rfl rfl, ⟨by decide, by decide⟩, by decide, by decide +kernel, by decide⟩, wa_t 271 rfl rfl, wa_t 272 rfl rfl⟩
def mX5_life : Md := (cX5_life, yX5_life, 4, (some .int))
set_option maxRecDepth 100000 in
theorem okX5_life : MdV mX5_life 2 := ⟨⟨wa_t 1 rfl rfl, wa_t 277 rfl rfl, ⟨by decide, by decide⟩, by decide, by decide +kernel, by decide⟩, wa_t 275 rfl rfl, wa_t 276 rfl rfl⟩
def mX5_circle : Md := (cX5_circle, yX5_circle, 3, (some .int))
set_option maxRecDepth 100000 in
theorem okX5_circle : MdV mX5_circle 1 := ⟨⟨wa_t 1 rfl rfl, wa_t 281 rfl rfl, ⟨by decide, by decide⟩, by decide, by decide +kernel, by decide⟩, wa_t 279 rfl rfl, wa_t 280 rfl rfl⟩
def mX5_lot : Md := (cX5_lot, yX5_lot, 3, (some .int))
set_option maxRecDepth 100000 in
theorem okX5_lot : MdV mX5_lot 1 := ⟨⟨wa_t 1 rfl rfl, wa_t 288 rfl rfl, ⟨by decide, by decide⟩, by decide, by decide +kernel, by decide⟩, wa_t 286 rfl rfl, wa_t 287 rfl rfl⟩
def mX5_barter : Md := (cX5_barter, yX5_barter, 3, (some .int))
set_option maxRecDepth 100000 in
theorem okX5_barter : MdV mX5_barter 2 := ⟨⟨wa_t 1 rfl rfl, wa_t 292 rfl rfl, ⟨by decide, by decide⟩, by decide, by decide +kernel, by decide⟩, wa_t 290 rfl rfl, wa_t 291 rfl rfl⟩
def mX5_call : Md := (cX5_call, yX5_call, 1, (some .int))
set_option maxRecDepth 100000 in
theorem okX5_call : MdV mX5_call 0 := ⟨⟨wa_t 1 rfl rfl, wa_t 340 rfl rfl, ⟨by decide, by decide⟩, by decide, by decide +kernel, by decide⟩, wa_t 338 rfl rfl, wa_t 339 rfl rfl⟩
def mX5_day : Md := (cX5_day, yX5_day, 1, (some .int))
set_option maxRecDepth 100000 in
theorem okX5_day : MdV mX5_day 0 := ⟨⟨wa_t 1 rfl rfl, wa_t 388 rfl rfl, ⟨by decide, by decide⟩, by decide, by decide +kernel, by decide⟩, wa_t 386 rfl rfl, wa_t 387 rfl rfl⟩
def mX5_append : Md := (cX5_append, yX5_append, 2, (some .int))
set_option maxRecDepth 100000 in
theorem okX5_append : MdV mX5_append 1 := ⟨⟨wa_t 1 rfl rfl, wa_t 404 rfl rfl, ⟨by decide, by decide⟩, by decide, by decide +kernel, by decide⟩, wa_t 402 rfl rfl, wa_t 403 rfl rfl⟩
def mX5_clear : Md := (cX5_clear, yX5_clear, 2, (some .int))
set_option maxRecDepth 100000 in
theorem okX5_clear : MdV mX5_clear 0 := ⟨⟨wa_t 1 rfl rfl, wa_t 412 rfl rfl, ⟨by decide, by decide⟩, by decide, by decide +kernel, by decide⟩, wa_t 410 rfl rfl, wa_t 411 rfl rfl⟩
def mX5_fault : Md := (cX5_fault, yX5_fault, 2, (some .int))
set_option maxRecDepth 100000 in
theorem okX5_fault : MdV mX5_fault 1 := ⟨⟨wa_t 1 rfl rfl, wa_t 416 rfl rfl, ⟨by decide, by decide⟩, by decide, by decide +kernel, by decide⟩, wa_t 414 rfl rfl, wa_t 415 rfl rfl⟩
def mX5_traders : Md := (cX5_traders, yX5_traders, 2, (some .int))
set_option maxRecDepth 100000 in
theorem okX5_traders : MdV mX5_traders 0 := ⟨⟨wa_t 1 rfl rfl, wa_t 432 rfl rfl, ⟨by decide, by decide⟩, by decide, by decide +kernel, by decide⟩, wa_t 430 rfl rfl, wa_t 431 rfl rfl⟩
def mX5_days : Md := (cX5_days, yX5_days, 2, (some .int))
set_option maxRecDepth 100000 in
theorem okX5_days : MdV mX5_days 0 := ⟨⟨wa_t 1 rfl rfl, wa_t 451 rfl rfl, ⟨by decide, by decide⟩, by decide, by decide +kernel, by decide⟩, wa_t 449 rfl rfl, wa_t 450 rfl rfl⟩
def mX5_why : Md := (cX5_why, yX5_why, 2, (some .int))
set_option maxRecDepth 100000 in
theorem okX5_why : MdV mX5_why 1 := ⟨⟨wa_t 1 rfl rfl, wa_t 467 rfl rfl, ⟨by decide, by decide⟩, by decide, by decide +kernel, by decide⟩, wa_t 465 rfl rfl, wa_t 466 rfl rfl⟩
def mX5_trader : Md := (cX5_trader, yX5_trader, 3, (some .int))
set_option maxRecDepth 100000 in
theorem okX5_trader : MdV mX5_trader 2 := ⟨⟨wa_t 1 rfl rfl, wa_t 471 rfl rfl, ⟨by decide, by decide⟩, by decide, by decide +kernel, by decide⟩, wa_t 469 rfl rfl, wa_t 470 rfl rfl⟩
def mX5_can : Md := (cX5_can, yX5_can, 3, (some .int))
set_option maxRecDepth 100000 in
theorem okX5_can : MdV mX5_can 2 := ⟨⟨wa_t 1 rfl rfl, wa_t 492 rfl rfl, ⟨by decide, by decide⟩, by decide, by decide +kernel, by decide⟩, wa_t 490 rfl rfl, wa_t 491 rfl rfl⟩
def mX5_whyNot : Md := (cX5_whyNot, yX5_whyNot, 3, (some .int))
set_option maxRecDepth 100000 in
theorem okX5_whyNot : MdV mX5_whyNot 2 := ⟨⟨wa_t 1 rfl rfl, wa_t 497 rfl rfl, ⟨by decide, by decide⟩, by decide, by decide +kernel, by decide⟩, wa_t 495 rfl rfl, wa_t 496 rfl rfl⟩
def mX5_most : Md := (cX5_most, yX5_most, 2, (some .int))
set_option maxRecDepth 100000 in
theorem okX5_most : MdV mX5_most 1 := ⟨⟨wa_t 1 rfl rfl, wa_t 502 rfl rfl, ⟨by decide, by decide⟩, by decide, by decide +kernel, by decide⟩, wa_t 500 rfl rfl, wa_t 501 rfl rfl⟩
def mX5_kind : Md := (cX5_kind, yX5_kind, 3, (some .int))
set_option maxRecDepth 100000 in
theorem okX5_kind : MdV mX5_kind 2 := ⟨⟨wa_t 1 rfl rfl, wa_t 540 rfl rfl, ⟨by decide, by decide⟩, by decide, by decide +kernel, by decide⟩, wa_t 538 rfl rfl, wa_t 539 rfl rfl⟩
def mX5_count : Md := (cX5_count, yX5_count, 2, (some .int))
set_option maxRecDepth 100000 in
theorem okX5_count : MdV mX5_count 1 := ⟨⟨wa_t 1 rfl rfl, wa_t 560 rfl rfl, ⟨by decide, by decide⟩, by decide, by decide +kernel, by decide⟩, wa_t 558 rfl rfl, wa_t 559 rfl rfl⟩
def mX5_freshness : Md := (cX5_freshness, yX5_freshness, 2, (some .double))
set_option maxRecDepth 100000 in
theorem okX5_freshness : MdV mX5_freshness 0 := ⟨⟨wa_t 1 rfl rfl, wa_t 582 rfl rfl, ⟨by decide, by decide⟩, by decide, by decide +kernel, by decide⟩, wa_t 580 rfl rfl, wa_t 581 rfl rfl⟩
def mX5_ifCircle : Md := (cX5_ifCircle, yX5_ifCircle, 2, (some .int))
set_option maxRecDepth 100000 in
theorem okX5_ifCircle : MdV mX5_ifCircle 1 := ⟨⟨wa_t 1 rfl rfl, wa_t 590 rfl rfl, ⟨by decide, by decide⟩, by decide, by decide +kernel, by decide⟩, wa_t 588 rfl rfl, wa_t 589 rfl rfl⟩
def mX5_ifDays : Md := (cX5_ifDays, yX5_ifDays, 4, (some .int))
set_option maxRecDepth 100000 in
theorem okX5_ifDays : MdV mX5_ifDays 2 := ⟨⟨wa_t 1 rfl rfl, wa_t 594 rfl rfl, ⟨by decide, by decide⟩, by decide, by decide +kernel, by decide⟩, wa_t 592 rfl rfl, wa_t 593 rfl rfl⟩
def mX5_bestWant : Md := (cX5_bestWant, yX5_bestWant, 7, (some .int))
set_option maxRecDepth 100000 in
theorem okX5_bestWant : MdV mX5_bestWant 1 := ⟨⟨wa_t 1 rfl rfl, wa_t 599 rfl rfl, ⟨by decide, by decide⟩, by decide, by decide +kernel, by decide⟩, wa_t 597 rfl rfl, wa_t 598 rfl rfl⟩
def mX5_undo : Md := (cX5_undo, yX5_undo, 1, (some .int))
set_option maxRecDepth 100000 in
theorem okX5_undo : MdV mX5_undo 0 := ⟨⟨wa_t 1 rfl rfl, wa_t 605 rfl rfl, ⟨by decide, by decide⟩, by decide, by decide +kernel, by decide⟩, wa_t 603 rfl rfl, wa_t 604 rfl rfl⟩
def mX5_save : Md := (cX5_save, yX5_save, 1, (some .int))
set_option maxRecDepth 100000 in
theorem okX5_save : MdV mX5_save 0 := ⟨⟨wa_t 1 rfl rfl, wa_t 613 rfl rfl, ⟨by decide, by decide⟩, by decide, by decide +kernel, by decide⟩, wa_t 611 rfl rfl, wa_t 612 rfl rfl⟩
def mX5_restore : Md := (cX5_restore, yX5_restore, 1, (some .int))
set_option maxRecDepth 100000 in
theorem okX5_restore : MdV mX5_restore 0 := ⟨⟨wa_t 1 rfl rfl, wa_t 617 rfl rfl, ⟨by decide, by decide⟩, by decide, by decide +kernel, by decide⟩, wa_t 615 rfl rfl, wa_t 616 rfl rfl⟩
def mX5_isKind : Md := (cX5_isKind, yX5_isKind, 1, (some .boolean))
set_option maxRecDepth 100000 in
theorem okX5_isKind : MdS mX5_isKind 1 := ⟨⟨wa_t 1 rfl rfl, wa_t 228 rfl rfl, ⟨by decide, by decide⟩, by decide, by decide +kernel, by decide⟩, wa_t 227 rfl rfl⟩
def mX5_isSetOfKinds : Md := (cX5_isSetOfKinds, yX5_isSetOfKinds, 1, (some .boolean))
set_option maxRecDepth 100000 in
theorem okX5_isSetOfKinds : MdS mX5_isSetOfKinds 1 := ⟨⟨wa_t 1 rfl rfl, wa_t 231 rfl rfl, ⟨by decide, by decide⟩, by decide, by decide +kernel, by decide⟩, wa_t 230 rfl rfl⟩
def mX5_isCircleLength : Md := (cX5_isCircleLength, yX5_isCircleLength, 1, (some .boolean))
set_option maxRecDepth 100000 in
theorem okX5_isCircleLength : MdS mX5_isCircleLength 1 := ⟨⟨wa_t 1 rfl rfl, wa_t 284 rfl rfl, ⟨by decide, by decide⟩, by decide, by decide +kernel, by decide⟩, wa_t 283 rfl rfl⟩
def mX5_holds : Md := (cX5_holds, yX5_holds, 2, (some .boolean))
set_option maxRecDepth 100000 in
theorem okX5_holds : MdS mX5_holds 2 := ⟨⟨wa_t 1 rfl rfl, wa_t 328 rfl rfl, ⟨by decide, by decide⟩, by decide, by decide +kernel, by decide⟩, wa_t 327 rfl rfl⟩
def mX5_with : Md := (cX5_with, yX5_with, 2, (some .int))
set_option maxRecDepth 100000 in
theorem okX5_with : MdS mX5_with 2 := ⟨⟨wa_t 1 rfl rfl, wa_t 365 rfl rfl, ⟨by decide, by decide⟩, by decide, by decide +kernel, by decide⟩, wa_t 364 rfl rfl⟩
def mX5_callMarket : Md := (cX5_callMarket, yX5_callMarket, 3, (some .int))
set_option maxRecDepth 100000 in
theorem okX5_callMarket : MdV mX5_callMarket 1 := ⟨⟨wa_t 1 rfl rfl, wa_t 344 rfl rfl, ⟨by decide, by decide⟩, by decide, by decide +kernel, by decide⟩, wa_t 343 rfl rfl, wa_s 5 rfl rfl⟩
def mX5_bestGiver : Md := (cX5_bestGiver, yX5_bestGiver, 3, (some .int))
set_option maxRecDepth 100000 in
theorem okX5_bestGiver : MdV mX5_bestGiver 1 := ⟨⟨wa_t 1 rfl rfl, wa_t 488 rfl rfl, ⟨by decide, by decide⟩, by decide, by decide +kernel, by decide⟩, wa_t 487 rfl rfl, wa_s 14 rfl rfl⟩
def mX5_doDaysOfPad : Md := (cX5_doDaysOfPad, yX5_doDaysOfPad, 3, none)
set_option maxRecDepth 100000 in
theorem okX5_doDaysOfPad : MdV mX5_doDaysOfPad 0 := ⟨⟨wa_t 1 rfl rfl, wa_t 459 rfl rfl, ⟨by decide, by decide⟩, by decide, by decide +kernel, by decide⟩, wa_t 458 rfl rfl, wa_s 12 rfl rfl⟩
def mX5_doBarterOfPad : Md := (cX5_doBarterOfPad, yX5_doBarterOfPad, 5, none)
set_option maxRecDepth 100000 in
theorem okX5_doBarterOfPad : MdV mX5_doBarterOfPad 1 := ⟨⟨wa_t 1 rfl rfl, wa_t 463 rfl rfl, ⟨by decide, by decide⟩, by decide, by decide +kernel, by decide⟩, wa_t 462 rfl rfl, wa_s 13 rfl rfl⟩
def mX6_init : Md := (cX6_init, yX6_init, 2, none)
set_option maxRecDepth 100000 in
theorem okX6_init : MdI mX6_init 0 := ⟨⟨wa_t 8 rfl rfl, wa_t 622 rfl rfl, ⟨by decide, by decide⟩, by decide, by decide +kernel, by decide⟩, wa_t 621 rfl rfl, rfl, rfl⟩
def mX6_in : Md := (cX6_in, yX6_in, 3, (some .boolean))
set_option maxRecDepth 100000 in
theorem okX6_in : MdS mX6_in 3 := ⟨⟨wa_t 8 rfl rfl, wa_t 688 rfl rfl, ⟨by decide, by decide⟩, by decide, by decide +kernel, by decide⟩, wa_t 687 rfl rfl⟩
def mX6_isTrader : Md := (cX6_isTrader, yX6_isTrader, 2, (some .boolean))
set_option maxRecDepth 100000 in
theorem okX6_isTrader : MdV mX6_isTrader 1 := ⟨⟨wa_t 8 rfl rfl, wa_t 707 rfl rfl, ⟨by decide, by decide⟩, by decide, by decide +kernel, by decide⟩, wa_t 706 rfl rfl, wa_s 22 rfl rfl⟩
def mX6_arePair : Md := (cX6_arePair, yX6_arePair, 3, (some .boolean))
set_option maxRecDepth 100000 in
theorem okX6_arePair : MdV mX6_arePair 2 := ⟨⟨wa_t 8 rfl rfl, wa_t 739 rfl rfl, ⟨by decide, by decide⟩, by decide, by decide +kernel, by decide⟩, wa_t 738 rfl rfl, wa_s 25 rfl rfl⟩
def mX6_isKind : Md := (cX6_isKind, yX6_isKind, 1, (some .boolean))
set_option maxRecDepth 100000 in
theorem okX6_isKind : MdS mX6_isKind 1 := ⟨⟨wa_t 8 rfl rfl, wa_t 685 rfl rfl, ⟨by decide, by decide⟩, by decide, by decide +kernel, by decide⟩, wa_t 684 rfl rfl⟩
def mX6_ofKind : Md := (cX6_ofKind, yX6_ofKind, 2, (some .int))
set_option maxRecDepth 100000 in
theorem okX6_ofKind : MdS mX6_ofKind 2 := ⟨⟨wa_t 8 rfl rfl, wa_t 626 rfl rfl, ⟨by decide, by decide⟩, by decide, by decide +kernel, by decide⟩, wa_t 625 rfl rfl⟩
def mX6_at : Md := (cX6_at, yX6_at, 2, (some .int))
set_option maxRecDepth 100000 in
theorem okX6_at : MdS mX6_at 2 := ⟨⟨wa_t 8 rfl rfl, wa_t 699 rfl rfl, ⟨by decide, by decide⟩, by decide, by decide +kernel, by decide⟩, wa_t 698 rfl rfl⟩
def mX6_of : Md := (cX6_of, yX6_of, 3, (some .int))
set_option maxRecDepth 100000 in
theorem okX6_of : MdV mX6_of 2 := ⟨⟨wa_t 8 rfl rfl, wa_t 711 rfl rfl, ⟨by decide, by decide⟩, by decide, by decide +kernel, by decide⟩, wa_t 710 rfl rfl, wa_s 23 rfl rfl⟩
def mX6_bits : Md := (cX6_bits, yX6_bits, 3, (some .int))
set_option maxRecDepth 100000 in
theorem okX6_bits : MdS mX6_bits 1 := ⟨⟨wa_t 8 rfl rfl, wa_t 894 rfl rfl, ⟨by decide, by decide⟩, by decide, by decide +kernel, by decide⟩, wa_t 893 rfl rfl⟩
def mX6_record : Md := (cX6_record, yX6_record, 2, none)
set_option maxRecDepth 100000 in
theorem okX6_record : MdV mX6_record 0 := ⟨⟨wa_t 8 rfl rfl, wa_t 692 rfl rfl, ⟨by decide, by decide⟩, by decide, by decide +kernel, by decide⟩, wa_t 691 rfl rfl, wa_s 20 rfl rfl⟩
def mX6_putAside : Md := (cX6_putAside, yX6_putAside, 2, none)
set_option maxRecDepth 100000 in
theorem okX6_putAside : MdV mX6_putAside 0 := ⟨⟨wa_t 8 rfl rfl, wa_t 918 rfl rfl, ⟨by decide, by decide⟩, by decide, by decide +kernel, by decide⟩, wa_t 917 rfl rfl, wa_s 52 rfl rfl⟩
def mX6_putBack : Md := (cX6_putBack, yX6_putBack, 2, none)
set_option maxRecDepth 100000 in
theorem okX6_putBack : MdV mX6_putBack 0 := ⟨⟨wa_t 8 rfl rfl, wa_t 922 rfl rfl, ⟨by decide, by decide⟩, by decide, by decide +kernel, by decide⟩, wa_t 921 rfl rfl, wa_s 53 rfl rfl⟩
def mX6_daysLeft : Md := (cX6_daysLeft, yX6_daysLeft, 3, (some .int))
set_option maxRecDepth 100000 in
theorem okX6_daysLeft : MdV mX6_daysLeft 1 := ⟨⟨wa_t 8 rfl rfl, wa_t 751 rfl rfl, ⟨by decide, by decide⟩, by decide, by decide +kernel, by decide⟩, wa_t 750 rfl rfl, wa_s 28 rfl rfl⟩
def mX6_wants : Md := (cX6_wants, yX6_wants, 3, (some .boolean))
set_option maxRecDepth 100000 in
theorem okX6_wants : MdV mX6_wants 2 := ⟨⟨wa_t 8 rfl rfl, wa_t 755 rfl rfl, ⟨by decide, by decide⟩, by decide, by decide +kernel, by decide⟩, wa_t 754 rfl rfl, wa_s 29 rfl rfl⟩
def mX6_takes : Md := (cX6_takes, yX6_takes, 4, (some .boolean))
set_option maxRecDepth 100000 in
theorem okX6_takes : MdV mX6_takes 2 := ⟨⟨wa_t 8 rfl rfl, wa_t 791 rfl rfl, ⟨by decide, by decide⟩, by decide, by decide +kernel, by decide⟩, wa_t 790 rfl rfl, wa_s 37 rfl rfl⟩
def mX6_areCircles : Md := (cX6_areCircles, yX6_areCircles, 6, (some .boolean))
set_option maxRecDepth 100000 in
theorem okX6_areCircles : MdV mX6_areCircles 1 := ⟨⟨wa_t 8 rfl rfl, wa_t 783 rfl rfl, ⟨by decide, by decide⟩, by decide, by decide +kernel, by decide⟩, wa_t 782 rfl rfl, wa_s 35 rfl rfl⟩
def mX6_keepsBest : Md := (cX6_keepsBest, yX6_keepsBest, 3, none)
set_option maxRecDepth 100000 in
theorem okX6_keepsBest : MdV mX6_keepsBest 1 := ⟨⟨wa_t 8 rfl rfl, wa_t 779 rfl rfl, ⟨by decide, by decide⟩, by decide, by decide +kernel, by decide⟩, wa_t 778 rfl rfl, wa_s 34 rfl rfl⟩
def mX6_may : Md := (cX6_may, yX6_may, 4, (some .boolean))
set_option maxRecDepth 100000 in
theorem okX6_may : MdV mX6_may 3 := ⟨⟨wa_t 8 rfl rfl, wa_t 787 rfl rfl, ⟨by decide, by decide⟩, by decide, by decide +kernel, by decide⟩, wa_t 786 rfl rfl, wa_s 36 rfl rfl⟩
def mX6_layBest : Md := (cX6_layBest, yX6_layBest, 8, none)
set_option maxRecDepth 100000 in
theorem okX6_layBest : MdV mX6_layBest 1 := ⟨⟨wa_t 8 rfl rfl, wa_t 775 rfl rfl, ⟨by decide, by decide⟩, by decide, by decide +kernel, by decide⟩, wa_t 774 rfl rfl, wa_s 33 rfl rfl⟩
def mX6_gets : Md := (cX6_gets, yX6_gets, 4, none)
set_option maxRecDepth 100000 in
theorem okX6_gets : MdV mX6_gets 3 := ⟨⟨wa_t 8 rfl rfl, wa_t 763 rfl rfl, ⟨by decide, by decide⟩, by decide, by decide +kernel, by decide⟩, wa_t 762 rfl rfl, wa_s 31 rfl rfl⟩
def mX6_looksAtWares : Md := (cX6_looksAtWares, yX6_looksAtWares, 2, none)
set_option maxRecDepth 100000 in
theorem okX6_looksAtWares : MdV mX6_looksAtWares 0 := ⟨⟨wa_t 8 rfl rfl, wa_t 759 rfl rfl, ⟨by decide, by decide⟩, by decide, by decide +kernel, by decide⟩, wa_t 758 rfl rfl, wa_s 30 rfl rfl⟩
def mX6_calls : Md := (cX6_calls, yX6_calls, 2, (some .int))
set_option maxRecDepth 100000 in
theorem okX6_calls : MdV mX6_calls 0 := ⟨⟨wa_t 8 rfl rfl, wa_t 771 rfl rfl, ⟨by decide, by decide⟩, by decide, by decide +kernel, by decide⟩, wa_t 770 rfl rfl, wa_s 32 rfl rfl⟩
def mX6_reason : Md := (cX6_reason, yX6_reason, 3, (some .int))
set_option maxRecDepth 100000 in
theorem okX6_reason : MdV mX6_reason 2 := ⟨⟨wa_t 8 rfl rfl, wa_t 747 rfl rfl, ⟨by decide, by decide⟩, by decide, by decide +kernel, by decide⟩, wa_t 746 rfl rfl, wa_s 27 rfl rfl⟩
def mX6_barters : Md := (cX6_barters, yX6_barters, 4, (some .int))
set_option maxRecDepth 100000 in
theorem okX6_barters : MdV mX6_barters 2 := ⟨⟨wa_t 8 rfl rfl, wa_t 743 rfl rfl, ⟨by decide, by decide⟩, by decide, by decide +kernel, by decide⟩, wa_t 742 rfl rfl, wa_s 26 rfl rfl⟩
def mX6_passes : Md := (cX6_passes, yX6_passes, 3, (some .int))
set_option maxRecDepth 100000 in
theorem okX6_passes : MdV mX6_passes 0 := ⟨⟨wa_t 8 rfl rfl, wa_t 799 rfl rfl, ⟨by decide, by decide⟩, by decide, by decide +kernel, by decide⟩, wa_t 798 rfl rfl, wa_s 38 rfl rfl⟩
def mX6_comes : Md := (cX6_comes, yX6_comes, 4, (some .int))
set_option maxRecDepth 100000 in
theorem okX6_comes : MdV mX6_comes 2 := ⟨⟨wa_t 8 rfl rfl, wa_t 696 rfl rfl, ⟨by decide, by decide⟩, by decide, by decide +kernel, by decide⟩, wa_t 695 rfl rfl, wa_s 21 rfl rfl⟩
def mX6_come : Md := (cX6_come, yX6_come, 3, (some .int))
set_option maxRecDepth 100000 in
theorem okX6_come : MdV mX6_come 2 := ⟨⟨wa_t 8 rfl rfl, wa_t 682 rfl rfl, ⟨by decide, by decide⟩, by decide, by decide +kernel, by decide⟩, wa_t 680 rfl rfl, wa_t 681 rfl rfl⟩
def mX6_go : Md := (cX6_go, yX6_go, 4, (some .int))
set_option maxRecDepth 100000 in
theorem okX6_go : MdV mX6_go 1 := ⟨⟨wa_t 8 rfl rfl, wa_t 703 rfl rfl, ⟨by decide, by decide⟩, by decide, by decide +kernel, by decide⟩, wa_t 701 rfl rfl, wa_t 702 rfl rfl⟩
def mX6_lays : Md := (cX6_lays, yX6_lays, 4, (some .int))
set_option maxRecDepth 100000 in
theorem okX6_lays : MdV mX6_lays 2 := ⟨⟨wa_t 8 rfl rfl, wa_t 719 rfl rfl, ⟨by decide, by decide⟩, by decide, by decide +kernel, by decide⟩, wa_t 718 rfl rfl, wa_s 24 rfl rfl⟩
def mX6_want : Md := (cX6_want, yX6_want, 3, (some .int))
set_option maxRecDepth 100000 in
theorem okX6_want : MdV mX6_want 2 := ⟨⟨wa_t 8 rfl rfl, wa_t 715 rfl rfl, ⟨by decide, by decide⟩, by decide, by decide +kernel, by decide⟩, wa_t 713 rfl rfl, wa_t 714 rfl rfl⟩
def mX6_life : Md := (cX6_life, yX6_life, 3, (some .int))
set_option maxRecDepth 100000 in
theorem okX6_life : MdV mX6_life 2 := ⟨⟨wa_t 8 rfl rfl, wa_t 723 rfl rfl, ⟨by decide, by decide⟩, by decide, by decide +kernel, by decide⟩, wa_t 721 rfl rfl, wa_t 722 rfl rfl⟩
def mX6_circle : Md := (cX6_circle, yX6_circle, 2, (some .int))
set_option maxRecDepth 100000 in
theorem okX6_circle : MdV mX6_circle 1 := ⟨⟨wa_t 8 rfl rfl, wa_t 727 rfl rfl, ⟨by decide, by decide⟩, by decide, by decide +kernel, by decide⟩, wa_t 725 rfl rfl, wa_t 726 rfl rfl⟩
def mX6_lot : Md := (cX6_lot, yX6_lot, 2, (some .int))
set_option maxRecDepth 100000 in
theorem okX6_lot : MdV mX6_lot 1 := ⟨⟨wa_t 8 rfl rfl, wa_t 731 rfl rfl, ⟨by decide, by decide⟩, by decide, by decide +kernel, by decide⟩, wa_t 729 rfl rfl, wa_t 730 rfl rfl⟩
def mX6_barter : Md := (cX6_barter, yX6_barter, 3, (some .int))
set_option maxRecDepth 100000 in
theorem okX6_barter : MdV mX6_barter 2 := ⟨⟨wa_t 8 rfl rfl, wa_t 735 rfl rfl, ⟨by decide, by decide⟩, by decide, by decide +kernel, by decide⟩, wa_t 733 rfl rfl, wa_t 734 rfl rfl⟩
def mX6_call : Md := (cX6_call, yX6_call, 1, (some .int))
set_option maxRecDepth 100000 in
theorem okX6_call : MdV mX6_call 0 := ⟨⟨wa_t 8 rfl rfl, wa_t 767 rfl rfl, ⟨by decide, by decide⟩, by decide, by decide +kernel, by decide⟩, wa_t 765 rfl rfl, wa_t 766 rfl rfl⟩
def mX6_day : Md := (cX6_day, yX6_day, 1, (some .int))
set_option maxRecDepth 100000 in
theorem okX6_day : MdV mX6_day 0 := ⟨⟨wa_t 8 rfl rfl, wa_t 795 rfl rfl, ⟨by decide, by decide⟩, by decide, by decide +kernel, by decide⟩, wa_t 793 rfl rfl, wa_t 794 rfl rfl⟩
def mX6_append : Md := (cX6_append, yX6_append, 2, (some .int))
set_option maxRecDepth 100000 in
theorem okX6_append : MdV mX6_append 1 := ⟨⟨wa_t 8 rfl rfl, wa_t 803 rfl rfl, ⟨by decide, by decide⟩, by decide, by decide +kernel, by decide⟩, wa_t 801 rfl rfl, wa_t 802 rfl rfl⟩
def mX6_clear : Md := (cX6_clear, yX6_clear, 2, (some .int))
set_option maxRecDepth 100000 in
theorem okX6_clear : MdV mX6_clear 0 := ⟨⟨wa_t 8 rfl rfl, wa_t 807 rfl rfl, ⟨by decide, by decide⟩, by decide, by decide +kernel, by decide⟩, wa_t 805 rfl rfl, wa_t 806 rfl rfl⟩
def mX6_next : Md := (cX6_next, yX6_next, 2, (some .int))
set_option maxRecDepth 100000 in
theorem okX6_next : MdV mX6_next 1 := ⟨⟨wa_t 8 rfl rfl, wa_t 823 rfl rfl, ⟨by decide, by decide⟩, by decide, by decide +kernel, by decide⟩, wa_t 822 rfl rfl, wa_s 41 rfl rfl⟩
def mX6_behindTrader : Md := (cX6_behindTrader, yX6_behindTrader, 4, (some .int))
set_option maxRecDepth 100000 in
theorem okX6_behindTrader : MdV mX6_behindTrader 1 := ⟨⟨wa_t 8 rfl rfl, wa_t 819 rfl rfl, ⟨by decide, by decide⟩, by decide, by decide +kernel, by decide⟩, wa_t 818 rfl rfl, wa_s 40 rfl rfl⟩
def mX6_faultOfTraders : Md := (cX6_faultOfTraders, yX6_faultOfTraders, 3, (some .int))
set_option maxRecDepth 100000 in
theorem okX6_faultOfTraders : MdV mX6_faultOfTraders 0 := ⟨⟨wa_t 8 rfl rfl, wa_t 815 rfl rfl, ⟨by decide, by decide⟩, by decide, by decide +kernel, by decide⟩, wa_t 814 rfl rfl, wa_s 39 rfl rfl⟩
def mX6_faultOfDays : Md := (cX6_faultOfDays, yX6_faultOfDays, 3, (some .int))
set_option maxRecDepth 100000 in
theorem okX6_faultOfDays : MdV mX6_faultOfDays 0 := ⟨⟨wa_t 8 rfl rfl, wa_t 827 rfl rfl, ⟨by decide, by decide⟩, by decide, by decide +kernel, by decide⟩, wa_t 826 rfl rfl, wa_s 42 rfl rfl⟩
def mX6_fault : Md := (cX6_fault, yX6_fault, 2, (some .int))
set_option maxRecDepth 100000 in
theorem okX6_fault : MdV mX6_fault 1 := ⟨⟨wa_t 8 rfl rfl, wa_t 811 rfl rfl, ⟨by decide, by decide⟩, by decide, by decide +kernel, by decide⟩, wa_t 809 rfl rfl, wa_t 810 rfl rfl⟩
def mX6_traders : Md := (cX6_traders, yX6_traders, 5, (some .int))
set_option maxRecDepth 100000 in
theorem okX6_traders : MdV mX6_traders 0 := ⟨⟨wa_t 8 rfl rfl, wa_t 831 rfl rfl, ⟨by decide, by decide⟩, by decide, by decide +kernel, by decide⟩, wa_t 829 rfl rfl, wa_t 830 rfl rfl⟩
def mX6_isDone : Md := (cX6_isDone, yX6_isDone, 5, (some .boolean))
set_option maxRecDepth 100000 in
theorem okX6_isDone : MdV mX6_isDone 1 := ⟨⟨wa_t 8 rfl rfl, wa_t 839 rfl rfl, ⟨by decide, by decide⟩, by decide, by decide +kernel, by decide⟩, wa_t 838 rfl rfl, wa_s 43 rfl rfl⟩
def mX6_days : Md := (cX6_days, yX6_days, 6, (some .int))
set_option maxRecDepth 100000 in
theorem okX6_days : MdV mX6_days 0 := ⟨⟨wa_t 8 rfl rfl, wa_t 835 rfl rfl, ⟨by decide, by decide⟩, by decide, by decide +kernel, by decide⟩, wa_t 833 rfl rfl, wa_t 834 rfl rfl⟩
def mX6_why : Md := (cX6_why, yX6_why, 2, (some .int))
set_option maxRecDepth 100000 in
theorem okX6_why : MdV mX6_why 1 := ⟨⟨wa_t 8 rfl rfl, wa_t 843 rfl rfl, ⟨by decide, by decide⟩, by decide, by decide +kernel, by decide⟩, wa_t 841 rfl rfl, wa_t 842 rfl rfl⟩
def mX6_takesFrom : Md := (cX6_takesFrom, yX6_takesFrom, 4, (some .int))
set_option maxRecDepth 100000 in
theorem okX6_takesFrom : MdV mX6_takesFrom 1 := ⟨⟨wa_t 8 rfl rfl, wa_t 851 rfl rfl, ⟨by decide, by decide⟩, by decide, by decide +kernel, by decide⟩, wa_t 850 rfl rfl, wa_s 44 rfl rfl⟩
def mX6_givesTo : Md := (cX6_givesTo, yX6_givesTo, 4, (some .int))
set_option maxRecDepth 100000 in
theorem okX6_givesTo : MdV mX6_givesTo 1 := ⟨⟨wa_t 8 rfl rfl, wa_t 855 rfl rfl, ⟨by decide, by decide⟩, by decide, by decide +kernel, by decide⟩, wa_t 854 rfl rfl, wa_s 45 rfl rfl⟩
def mX6_bestFor : Md := (cX6_bestFor, yX6_bestFor, 2, (some .int))
set_option maxRecDepth 100000 in
theorem okX6_bestFor : MdV mX6_bestFor 1 := ⟨⟨wa_t 8 rfl rfl, wa_t 859 rfl rfl, ⟨by decide, by decide⟩, by decide, by decide +kernel, by decide⟩, wa_t 858 rfl rfl, wa_s 46 rfl rfl⟩
def mX6_trader : Md := (cX6_trader, yX6_trader, 3, (some .int))
set_option maxRecDepth 100000 in
theorem okX6_trader : MdV mX6_trader 2 := ⟨⟨wa_t 8 rfl rfl, wa_t 847 rfl rfl, ⟨by decide, by decide⟩, by decide, by decide +kernel, by decide⟩, wa_t 845 rfl rfl, wa_t 846 rfl rfl⟩
def mX6_can : Md := (cX6_can, yX6_can, 3, (some .int))
set_option maxRecDepth 100000 in
theorem okX6_can : MdV mX6_can 2 := ⟨⟨wa_t 8 rfl rfl, wa_t 863 rfl rfl, ⟨by decide, by decide⟩, by decide, by decide +kernel, by decide⟩, wa_t 861 rfl rfl, wa_t 862 rfl rfl⟩
def mX6_whyNot : Md := (cX6_whyNot, yX6_whyNot, 3, (some .int))
set_option maxRecDepth 100000 in
theorem okX6_whyNot : MdV mX6_whyNot 2 := ⟨⟨wa_t 8 rfl rfl, wa_t 867 rfl rfl, ⟨by decide, by decide⟩, by decide, by decide +kernel, by decide⟩, wa_t 865 rfl rfl, wa_t 866 rfl rfl⟩
def mX6_mostWith : Md := (cX6_mostWith, yX6_mostWith, 2, (some .int))
set_option maxRecDepth 100000 in
theorem okX6_mostWith : MdV mX6_mostWith 1 := ⟨⟨wa_t 8 rfl rfl, wa_t 875 rfl rfl, ⟨by decide, by decide⟩, by decide, by decide +kernel, by decide⟩, wa_t 874 rfl rfl, wa_s 47 rfl rfl⟩
def mX6_most : Md := (cX6_most, yX6_most, 2, (some .int))
set_option maxRecDepth 100000 in
theorem okX6_most : MdV mX6_most 1 := ⟨⟨wa_t 8 rfl rfl, wa_t 871 rfl rfl, ⟨by decide, by decide⟩, by decide, by decide +kernel, by decide⟩, wa_t 869 rfl rfl, wa_t 870 rfl rfl⟩
def mX6_sumOf : Md := (cX6_sumOf, yX6_sumOf, 7, (some .int))
set_option maxRecDepth 100000 in
theorem okX6_sumOf : MdV mX6_sumOf 2 := ⟨⟨wa_t 8 rfl rfl, wa_t 883 rfl rfl, ⟨by decide, by decide⟩, by decide, by decide +kernel, by decide⟩, wa_t 882 rfl rfl, wa_s 48 rfl rfl⟩
def mX6_kind : Md := (cX6_kind, yX6_kind, 3, (some .int))
set_option maxRecDepth 100000 in
theorem okX6_kind : MdV mX6_kind 2 := ⟨⟨wa_t 8 rfl rfl, wa_t 879 rfl rfl, ⟨by decide, by decide⟩, by decide, by decide +kernel, by decide⟩, wa_t 877 rfl rfl, wa_t 878 rfl rfl⟩
def mX6_needs : Md := (cX6_needs, yX6_needs, 3, (some .int))
set_option maxRecDepth 100000 in
theorem okX6_needs : MdV mX6_needs 0 := ⟨⟨wa_t 8 rfl rfl, wa_t 891 rfl rfl, ⟨by decide, by decide⟩, by decide, by decide +kernel, by decide⟩, wa_t 890 rfl rfl, wa_s 49 rfl rfl⟩
def mX6_spoilt : Md := (cX6_spoilt, yX6_spoilt, 3, (some .int))
set_option maxRecDepth 100000 in
theorem okX6_spoilt : MdV mX6_spoilt 0 := ⟨⟨wa_t 8 rfl rfl, wa_t 898 rfl rfl, ⟨by decide, by decide⟩, by decide, by decide +kernel, by decide⟩, wa_t 897 rfl rfl, wa_s 50 rfl rfl⟩
def mX6_stuck : Md := (cX6_stuck, yX6_stuck, 3, (some .int))
set_option maxRecDepth 100000 in
theorem okX6_stuck : MdV mX6_stuck 0 := ⟨⟨wa_t 8 rfl rfl, wa_t 902 rfl rfl, ⟨by decide, by decide⟩, by decide, by decide +kernel, by decide⟩, wa_t 901 rfl rfl, wa_s 51 rfl rfl⟩
def mX6_count : Md := (cX6_count, yX6_count, 2, (some .int))
set_option maxRecDepth 100000 in
theorem okX6_count : MdV mX6_count 1 := ⟨⟨wa_t 8 rfl rfl, wa_t 887 rfl rfl, ⟨by decide, by decide⟩, by decide, by decide +kernel, by decide⟩, wa_t 885 rfl rfl, wa_t 886 rfl rfl⟩
def mX6_freshness : Md := (cX6_freshness, yX6_freshness, 3, (some .double))
set_option maxRecDepth 100000 in
theorem okX6_freshness : MdV mX6_freshness 0 := ⟨⟨wa_t 8 rfl rfl, wa_t 906 rfl rfl, ⟨by decide, by decide⟩, by decide, by decide +kernel, by decide⟩, wa_t 904 rfl rfl, wa_t 905 rfl rfl⟩
def mX6_ifCircle : Md := (cX6_ifCircle, yX6_ifCircle, 2, (some .int))
set_option maxRecDepth 100000 in
theorem okX6_ifCircle : MdV mX6_ifCircle 1 := ⟨⟨wa_t 8 rfl rfl, wa_t 910 rfl rfl, ⟨by decide, by decide⟩, by decide, by decide +kernel, by decide⟩, wa_t 908 rfl rfl, wa_t 909 rfl rfl⟩
def mX6_ifDays : Md := (cX6_ifDays, yX6_ifDays, 8, (some .int))
set_option maxRecDepth 100000 in
theorem okX6_ifDays : MdV mX6_ifDays 2 := ⟨⟨wa_t 8 rfl rfl, wa_t 914 rfl rfl, ⟨by decide, by decide⟩, by decide, by decide +kernel, by decide⟩, wa_t 912 rfl rfl, wa_t 913 rfl rfl⟩
def mX6_bestWant : Md := (cX6_bestWant, yX6_bestWant, 7, (some .int))
set_option maxRecDepth 100000 in
theorem okX6_bestWant : MdV mX6_bestWant 1 := ⟨⟨wa_t 8 rfl rfl, wa_t 926 rfl rfl, ⟨by decide, by decide⟩, by decide, by decide +kernel, by decide⟩, wa_t 924 rfl rfl, wa_t 925 rfl rfl⟩
def mX6_undo : Md := (cX6_undo, yX6_undo, 2, (some .int))
set_option maxRecDepth 100000 in
theorem okX6_undo : MdV mX6_undo 0 := ⟨⟨wa_t 8 rfl rfl, wa_t 930 rfl rfl, ⟨by decide, by decide⟩, by decide, by decide +kernel, by decide⟩, wa_t 928 rfl rfl, wa_t 929 rfl rfl⟩
def mX6_save : Md := (cX6_save, yX6_save, 2, (some .int))
set_option maxRecDepth 100000 in
theorem okX6_save : MdV mX6_save 0 := ⟨⟨wa_t 8 rfl rfl, wa_t 934 rfl rfl, ⟨by decide, by decide⟩, by decide, by decide +kernel, by decide⟩, wa_t 932 rfl rfl, wa_t 933 rfl rfl⟩
def mX6_restore : Md := (cX6_restore, yX6_restore, 2, (some .int))
set_option maxRecDepth 100000 in
theorem okX6_restore : MdV mX6_restore 0 := ⟨⟨wa_t 8 rfl rfl, wa_t 938 rfl rfl, ⟨by decide, by decide⟩, by decide, by decide +kernel, by decide⟩, wa_t 936 rfl rfl, wa_t 937 rfl rfl⟩
def mJ6_bitCount_0f7a4 : Md := (cJ6_bitCount_0f7a4, yJ6_bitCount_0f7a4, 1, (some .int))
set_option maxRecDepth 100000 in
theorem okJ6_bitCount_0f7a4 : MdS mJ6_bitCount_0f7a4 1 := ⟨⟨wa_t 11 rfl rfl, wa_t 477 rfl rfl, ⟨by decide, by decide⟩, by decide, by decide +kernel, by decide⟩, wa_t 476 rfl rfl⟩
def mJ7_fill_53178 : Md := (cJ7_fill_53178, yJ7_fill_53178, 4, none)
set_option maxRecDepth 100000 in
theorem okJ7_fill_53178 : MdS mJ7_fill_53178 2 := ⟨⟨wa_t 3 rfl rfl, wa_t 28 rfl rfl, ⟨by decide, by decide⟩, by decide, by decide +kernel, by decide⟩, wa_t 27 rfl rfl⟩
set_option maxRecDepth 100000 in
theorem lkL_9 : Cond.methodLink RL 9 yX5_init ∈ WA := wa_t 14 rfl rfl
set_option maxRecDepth 100000 in
theorem lkX5_1 : Cond.methodLink RX5 1 Lib.objectInit ∈ WA := wa_t 17 rfl rfl
set_option maxRecDepth 100000 in
theorem lkX5_9 : Cond.methodLink RX5 9 yX2_init ∈ WA := wa_t 22 rfl rfl
set_option maxRecDepth 100000 in
theorem lkX2_3 : Cond.methodLink RX2 3 Lib.objectInit ∈ WA := wa_t 25 rfl rfl
set_option maxRecDepth 100000 in
theorem lkX2_49 : Cond.methodLink RX2 49 yJ7_fill_53178 ∈ WA := wa_t 26 rfl rfl
set_option maxRecDepth 100000 in
theorem lkX5_24 : Cond.methodLink RX5 24 yX1_init ∈ WA := wa_t 106 rfl rfl
set_option maxRecDepth 100000 in
theorem lkX1_3 : Cond.methodLink RX1 3 Lib.objectInit ∈ WA := wa_t 109 rfl rfl
set_option maxRecDepth 100000 in
theorem lkX1_17 : Cond.methodLink RX1 17 yX2_init ∈ WA := wa_t 112 rfl rfl
set_option maxRecDepth 100000 in
theorem lkX3_3 : Cond.methodLink RX3 3 Lib.objectInit ∈ WA := wa_t 129 rfl rfl
set_option maxRecDepth 100000 in
theorem lkX0_3 : Cond.methodLink RX0 3 Lib.objectInit ∈ WA := wa_t 144 rfl rfl
set_option maxRecDepth 100000 in
theorem lkX4_3 : Cond.methodLink RX4 3 Lib.objectInit ∈ WA := wa_t 170 rfl rfl
set_option maxRecDepth 100000 in
theorem lkL_13 : Cond.methodLink RL 13 yX5_come ∈ WA := wa_t 222 rfl rfl
set_option maxRecDepth 100000 in
theorem lkX5_54 : Cond.methodLink RX5 54 yX5_isKind ∈ WA := wa_t 226 rfl rfl
set_option maxRecDepth 100000 in
theorem lkX5_58 : Cond.methodLink RX5 58 yX5_isSetOfKinds ∈ WA := wa_t 229 rfl rfl
set_option maxRecDepth 100000 in
theorem lkX5_64 : Cond.methodLink RX5 64 yX1_record ∈ WA := wa_t 232 rfl rfl
set_option maxRecDepth 100000 in
theorem lkX1_22 : Cond.methodLink RX1 22 yX1_rowAt ∈ WA := wa_t 236 rfl rfl
set_option maxRecDepth 100000 in
theorem lkX1_26 : Cond.methodLink RX1 26 yX2_copyFrom ∈ WA := wa_t 240 rfl rfl
set_option maxRecDepth 100000 in
theorem lkX2_55 : Cond.methodLink RX2 55 arraycopyName ∈ WA := wa_t 244 rfl rfl
set_option maxRecDepth 100000 in
theorem lkX1_33 : Cond.methodLink RX1 33 yJ9_min_7cf53 ∈ WA := wa_t 247 rfl rfl
set_option maxRecDepth 100000 in
theorem lkX5_68 : Cond.methodLink RX5 68 yX2_add ∈ WA := wa_t 250 rfl rfl
set_option maxRecDepth 100000 in
theorem lkX2_83 : Cond.methodLink RX2 83 yX2_makeWare ∈ WA := wa_t 254 rfl rfl
set_option maxRecDepth 100000 in
theorem lkL_18 : Cond.methodLink RL 18 yX5_go ∈ WA := wa_t 258 rfl rfl
set_option maxRecDepth 100000 in
theorem lkX5_72 : Cond.methodLink RX5 72 yX2_has ∈ WA := wa_t 262 rfl rfl
set_option maxRecDepth 100000 in
theorem lkX5_79 : Cond.methodLink RX5 79 yX2_remove ∈ WA := wa_t 266 rfl rfl
set_option maxRecDepth 100000 in
theorem lkL_23 : Cond.methodLink RL 23 yX5_want ∈ WA := wa_t 270 rfl rfl
set_option maxRecDepth 100000 in
theorem lkL_27 : Cond.methodLink RL 27 yX5_life ∈ WA := wa_t 274 rfl rfl
set_option maxRecDepth 100000 in
theorem lkL_31 : Cond.methodLink RL 31 yX5_circle ∈ WA := wa_t 278 rfl rfl
set_option maxRecDepth 100000 in
theorem lkX5_89 : Cond.methodLink RX5 89 yX5_isCircleLength ∈ WA := wa_t 282 rfl rfl
set_option maxRecDepth 100000 in
theorem lkL_35 : Cond.methodLink RL 35 yX5_lot ∈ WA := wa_t 285 rfl rfl
set_option maxRecDepth 100000 in
theorem lkL_39 : Cond.methodLink RL 39 yX5_barter ∈ WA := wa_t 289 rfl rfl
set_option maxRecDepth 100000 in
theorem lkX5_98 : Cond.methodLink RX5 98 yX2_hasBoth ∈ WA := wa_t 293 rfl rfl
set_option maxRecDepth 100000 in
theorem lkX2_79 : Cond.methodLink RX2 79 yX2_has ∈ WA := wa_t 297 rfl rfl
set_option maxRecDepth 100000 in
theorem lkX5_102 : Cond.methodLink RX5 102 yX2_barterByHand ∈ WA := wa_t 298 rfl rfl
set_option maxRecDepth 100000 in
theorem lkX2_122 : Cond.methodLink RX2 122 yX2_refusal ∈ WA := wa_t 302 rfl rfl
set_option maxRecDepth 100000 in
theorem lkX2_107 : Cond.methodLink RX2 107 yX2_hasSoundWare ∈ WA := wa_t 306 rfl rfl
set_option maxRecDepth 100000 in
theorem lkX2_90 : Cond.methodLink RX2 90 yX2_daysLeft ∈ WA := wa_t 310 rfl rfl
set_option maxRecDepth 100000 in
theorem lkX2_94 : Cond.methodLink RX2 94 yX2_hasWare ∈ WA := wa_t 314 rfl rfl
set_option maxRecDepth 100000 in
theorem lkX2_97 : Cond.methodLink RX2 97 yJ9_max_7cf53 ∈ WA := wa_t 319 rfl rfl
set_option maxRecDepth 100000 in
theorem lkX2_113 : Cond.methodLink RX2 113 yX2_wantsWareOf ∈ WA := wa_t 322 rfl rfl
set_option maxRecDepth 100000 in
theorem lkX2_125 : Cond.methodLink RX2 125 yX2_keepWares ∈ WA := wa_t 329 rfl rfl
set_option maxRecDepth 100000 in
theorem lkX2_128 : Cond.methodLink RX2 128 yX2_takeWare ∈ WA := wa_t 333 rfl rfl
set_option maxRecDepth 100000 in
theorem lkL_43 : Cond.methodLink RL 43 yX5_call ∈ WA := wa_t 337 rfl rfl
set_option maxRecDepth 100000 in
theorem lkX5_106 : Cond.methodLink RX5 106 yX5_callMarket ∈ WA := wa_t 341 rfl rfl
set_option maxRecDepth 100000 in
theorem lkX5_192 : Cond.methodLink RX5 192 yX4_findBest ∈ WA := wa_t 345 rfl rfl
set_option maxRecDepth 100000 in
theorem lkX4_27 : Cond.methodLink RX4 27 yJ9_min_7cf53 ∈ WA := wa_t 349 rfl rfl
set_option maxRecDepth 100000 in
theorem lkX4_33 : Cond.methodLink RX4 33 yJ9_max_7cf53 ∈ WA := wa_t 350 rfl rfl
set_option maxRecDepth 100000 in
theorem lkX4_44 : Cond.methodLink RX4 44 yX2_giversOf ∈ WA := wa_t 351 rfl rfl
set_option maxRecDepth 100000 in
theorem lkX2_116 : Cond.methodLink RX2 116 yX2_canTake ∈ WA := wa_t 355 rfl rfl
set_option maxRecDepth 100000 in
theorem lkX2_110 : Cond.methodLink RX2 110 yX2_mayBarter ∈ WA := wa_t 359 rfl rfl
set_option maxRecDepth 100000 in
theorem lkX4_47 : Cond.methodLink RX4 47 yX4_chooseGiver ∈ WA := wa_t 366 rfl rfl
set_option maxRecDepth 100000 in
theorem lkX4_51 : Cond.methodLink RX4 51 arraycopyName ∈ WA := wa_t 370 rfl rfl
set_option maxRecDepth 100000 in
theorem lkX4_61 : Cond.methodLink RX4 61 yX4_fitsInCircle ∈ WA := wa_t 372 rfl rfl
set_option maxRecDepth 100000 in
theorem lkX4_67 : Cond.methodLink RX4 67 yX4_goOn ∈ WA := wa_t 377 rfl rfl
set_option maxRecDepth 100000 in
theorem lkX5_262 : Cond.methodLink RX5 262 yX2_doBarter ∈ WA := wa_t 381 rfl rfl
set_option maxRecDepth 100000 in
theorem lkL_48 : Cond.methodLink RL 48 yX5_day ∈ WA := wa_t 385 rfl rfl
set_option maxRecDepth 100000 in
theorem lkX5_110 : Cond.methodLink RX5 110 yX2_passDay ∈ WA := wa_t 389 rfl rfl
set_option maxRecDepth 100000 in
theorem lkX2_132 : Cond.methodLink RX2 132 yX2_renewWare ∈ WA := wa_t 393 rfl rfl
set_option maxRecDepth 100000 in
theorem lkX2_135 : Cond.methodLink RX2 135 yX2_drawLot ∈ WA := wa_t 397 rfl rfl
set_option maxRecDepth 100000 in
theorem lkL_52 : Cond.methodLink RL 52 yX5_append ∈ WA := wa_t 401 rfl rfl
set_option maxRecDepth 100000 in
theorem lkX5_117 : Cond.methodLink RX5 117 yX3_put ∈ WA := wa_t 405 rfl rfl
set_option maxRecDepth 100000 in
theorem lkL_56 : Cond.methodLink RL 56 yX5_clear ∈ WA := wa_t 409 rfl rfl
set_option maxRecDepth 100000 in
theorem lkL_60 : Cond.methodLink RL 60 yX5_fault ∈ WA := wa_t 413 rfl rfl
set_option maxRecDepth 100000 in
theorem lkX5_121 : Cond.methodLink RX5 121 yX3_faultAsTraders ∈ WA := wa_t 417 rfl rfl
set_option maxRecDepth 100000 in
theorem lkX3_19 : Cond.methodLink RX3 19 yX3_signAt ∈ WA := wa_t 421 rfl rfl
set_option maxRecDepth 100000 in
theorem lkX5_124 : Cond.methodLink RX5 124 yX3_faultAsDays ∈ WA := wa_t 425 rfl rfl
set_option maxRecDepth 100000 in
theorem lkL_64 : Cond.methodLink RL 64 yX5_traders ∈ WA := wa_t 429 rfl rfl
set_option maxRecDepth 100000 in
theorem lkX5_127 : Cond.methodLink RX5 127 yX3_numberOfTraders ∈ WA := wa_t 433 rfl rfl
set_option maxRecDepth 100000 in
theorem lkX5_130 : Cond.methodLink RX5 130 yX3_signAt ∈ WA := wa_t 437 rfl rfl
set_option maxRecDepth 100000 in
theorem lkX5_134 : Cond.methodLink RX5 134 yX3_digitAt ∈ WA := wa_t 438 rfl rfl
set_option maxRecDepth 100000 in
theorem lkX5_138 : Cond.methodLink RX5 138 yX3_wantsBehind ∈ WA := wa_t 442 rfl rfl
set_option maxRecDepth 100000 in
theorem lkX3_23 : Cond.methodLink RX3 23 yX3_digitAt ∈ WA := wa_t 446 rfl rfl
set_option maxRecDepth 100000 in
theorem lkL_68 : Cond.methodLink RL 68 yX5_days ∈ WA := wa_t 448 rfl rfl
set_option maxRecDepth 100000 in
theorem lkX5_141 : Cond.methodLink RX5 141 yX2_needsMet ∈ WA := wa_t 452 rfl rfl
set_option maxRecDepth 100000 in
theorem lkX5_144 : Cond.methodLink RX5 144 yX5_doDaysOfPad ∈ WA := wa_t 456 rfl rfl
set_option maxRecDepth 100000 in
theorem lkX5_266 : Cond.methodLink RX5 266 yX5_doBarterOfPad ∈ WA := wa_t 460 rfl rfl
set_option maxRecDepth 100000 in
theorem lkL_72 : Cond.methodLink RL 72 yX5_why ∈ WA := wa_t 464 rfl rfl
set_option maxRecDepth 100000 in
theorem lkL_76 : Cond.methodLink RL 76 yX5_trader ∈ WA := wa_t 468 rfl rfl
set_option maxRecDepth 100000 in
theorem lkX5_153 : Cond.methodLink RX5 153 yX2_hasWare ∈ WA := wa_t 472 rfl rfl
set_option maxRecDepth 100000 in
theorem lkX5_162 : Cond.methodLink RX5 162 yX2_daysLeft ∈ WA := wa_t 473 rfl rfl
set_option maxRecDepth 100000 in
theorem lkX5_168 : Cond.methodLink RX5 168 yX2_giversOf ∈ WA := wa_t 474 rfl rfl
set_option maxRecDepth 100000 in
theorem lkX5_171 : Cond.methodLink RX5 171 yJ6_bitCount_0f7a4 ∈ WA := wa_t 475 rfl rfl
set_option maxRecDepth 100000 in
theorem lkX5_176 : Cond.methodLink RX5 176 yX2_numberOfTakers ∈ WA := wa_t 481 rfl rfl
set_option maxRecDepth 100000 in
theorem lkX5_179 : Cond.methodLink RX5 179 yX5_bestGiver ∈ WA := wa_t 485 rfl rfl
set_option maxRecDepth 100000 in
theorem lkL_80 : Cond.methodLink RL 80 yX5_can ∈ WA := wa_t 489 rfl rfl
set_option maxRecDepth 100000 in
theorem lkX5_182 : Cond.methodLink RX5 182 yX2_canTake ∈ WA := wa_t 493 rfl rfl
set_option maxRecDepth 100000 in
theorem lkL_84 : Cond.methodLink RL 84 yX5_whyNot ∈ WA := wa_t 494 rfl rfl
set_option maxRecDepth 100000 in
theorem lkX5_185 : Cond.methodLink RX5 185 yX2_refusal ∈ WA := wa_t 498 rfl rfl
set_option maxRecDepth 100000 in
theorem lkL_88 : Cond.methodLink RL 88 yX5_most ∈ WA := wa_t 499 rfl rfl
set_option maxRecDepth 100000 in
theorem lkX5_188 : Cond.methodLink RX5 188 yX0_mostTraders ∈ WA := wa_t 503 rfl rfl
set_option maxRecDepth 100000 in
theorem lkX0_25 : Cond.methodLink RX0 25 yX0_readTakers ∈ WA := wa_t 507 rfl rfl
set_option maxRecDepth 100000 in
theorem lkX0_46 : Cond.methodLink RX0 46 yJ9_min_7cf53 ∈ WA := wa_t 511 rfl rfl
set_option maxRecDepth 100000 in
theorem lkX0_52 : Cond.methodLink RX0 52 yJ9_max_7cf53 ∈ WA := wa_t 512 rfl rfl
set_option maxRecDepth 100000 in
theorem lkX0_59 : Cond.methodLink RX0 59 yJ7_fill_53178 ∈ WA := wa_t 513 rfl rfl
set_option maxRecDepth 100000 in
theorem lkX0_65 : Cond.methodLink RX0 65 yX2_giversOf ∈ WA := wa_t 514 rfl rfl
set_option maxRecDepth 100000 in
theorem lkX0_29 : Cond.methodLink RX0 29 yX0_findChains ∈ WA := wa_t 517 rfl rfl
set_option maxRecDepth 100000 in
theorem lkX0_76 : Cond.methodLink RX0 76 yX0_leastOf ∈ WA := wa_t 521 rfl rfl
set_option maxRecDepth 100000 in
theorem lkX0_32 : Cond.methodLink RX0 32 yX0_findCircles ∈ WA := wa_t 524 rfl rfl
set_option maxRecDepth 100000 in
theorem lkX0_79 : Cond.methodLink RX0 79 yJ6_bitCount_0f7a4 ∈ WA := wa_t 528 rfl rfl
set_option maxRecDepth 100000 in
theorem lkX0_36 : Cond.methodLink RX0 36 yX0_findBarters ∈ WA := wa_t 529 rfl rfl
set_option maxRecDepth 100000 in
theorem lkX0_84 : Cond.methodLink RX0 84 yX0_isMadeOfCircles ∈ WA := wa_t 533 rfl rfl
set_option maxRecDepth 100000 in
theorem lkL_92 : Cond.methodLink RL 92 yX5_kind ∈ WA := wa_t 537 rfl rfl
set_option maxRecDepth 100000 in
theorem lkX5_195 : Cond.methodLink RX5 195 yX2_waresOfKind ∈ WA := wa_t 541 rfl rfl
set_option maxRecDepth 100000 in
theorem lkX5_198 : Cond.methodLink RX5 198 yX2_soundWaresOfKind ∈ WA := wa_t 545 rfl rfl
set_option maxRecDepth 100000 in
theorem lkX5_201 : Cond.methodLink RX5 201 yX2_tradersWhoWant ∈ WA := wa_t 549 rfl rfl
set_option maxRecDepth 100000 in
theorem lkX5_204 : Cond.methodLink RX5 204 yX2_tradersWhoMake ∈ WA := wa_t 553 rfl rfl
set_option maxRecDepth 100000 in
theorem lkL_96 : Cond.methodLink RL 96 yX5_count ∈ WA := wa_t 557 rfl rfl
set_option maxRecDepth 100000 in
theorem lkX5_213 : Cond.methodLink RX5 213 yX2_needs ∈ WA := wa_t 561 rfl rfl
set_option maxRecDepth 100000 in
theorem lkX2_138 : Cond.methodLink RX2 138 yJ6_bitCount_0f7a4 ∈ WA := wa_t 565 rfl rfl
set_option maxRecDepth 100000 in
theorem lkX5_216 : Cond.methodLink RX5 216 yX2_soundWares ∈ WA := wa_t 566 rfl rfl
set_option maxRecDepth 100000 in
theorem lkX5_219 : Cond.methodLink RX5 219 yX2_spoiltWares ∈ WA := wa_t 570 rfl rfl
set_option maxRecDepth 100000 in
theorem lkX5_234 : Cond.methodLink RX5 234 yX2_stuckTraders ∈ WA := wa_t 574 rfl rfl
set_option maxRecDepth 100000 in
theorem lkX2_143 : Cond.methodLink RX2 143 yX2_giversOf ∈ WA := wa_t 578 rfl rfl
set_option maxRecDepth 100000 in
theorem lkL_100 : Cond.methodLink RL 100 yX5_freshness ∈ WA := wa_t 579 rfl rfl
set_option maxRecDepth 100000 in
theorem lkX5_240 : Cond.methodLink RX5 240 yX2_daysLeftOfAll ∈ WA := wa_t 583 rfl rfl
set_option maxRecDepth 100000 in
theorem lkL_105 : Cond.methodLink RL 105 yX5_ifCircle ∈ WA := wa_t 587 rfl rfl
set_option maxRecDepth 100000 in
theorem lkL_109 : Cond.methodLink RL 109 yX5_ifDays ∈ WA := wa_t 591 rfl rfl
set_option maxRecDepth 100000 in
theorem lkX5_243 : Cond.methodLink RX5 243 yX2_copyFrom ∈ WA := wa_t 595 rfl rfl
set_option maxRecDepth 100000 in
theorem lkL_113 : Cond.methodLink RL 113 yX5_bestWant ∈ WA := wa_t 596 rfl rfl
set_option maxRecDepth 100000 in
theorem lkX5_246 : Cond.methodLink RX5 246 yX5_holds ∈ WA := wa_t 600 rfl rfl
set_option maxRecDepth 100000 in
theorem lkX5_249 : Cond.methodLink RX5 249 yX5_with ∈ WA := wa_t 601 rfl rfl
set_option maxRecDepth 100000 in
theorem lkL_117 : Cond.methodLink RL 117 yX5_undo ∈ WA := wa_t 602 rfl rfl
set_option maxRecDepth 100000 in
theorem lkX5_252 : Cond.methodLink RX5 252 yX1_takeBack ∈ WA := wa_t 606 rfl rfl
set_option maxRecDepth 100000 in
theorem lkL_121 : Cond.methodLink RL 121 yX5_save ∈ WA := wa_t 610 rfl rfl
set_option maxRecDepth 100000 in
theorem lkL_125 : Cond.methodLink RL 125 yX5_restore ∈ WA := wa_t 614 rfl rfl
set_option maxRecDepth 100000 in
theorem lkL_12 : Cond.methodLink RL 12 yX6_init ∈ WA := wa_t 620 rfl rfl
set_option maxRecDepth 100000 in
theorem lkX6_1 : Cond.methodLink RX6 1 Lib.objectInit ∈ WA := wa_t 623 rfl rfl
set_option maxRecDepth 100000 in
theorem lkX6_47 : Cond.methodLink RX6 47 yX6_ofKind ∈ WA := wa_t 624 rfl rfl
set_option maxRecDepth 100000 in
theorem lkL_17 : Cond.methodLink RL 17 yX6_come ∈ WA := wa_t 679 rfl rfl
set_option maxRecDepth 100000 in
theorem lkX6_105 : Cond.methodLink RX6 105 yX6_isKind ∈ WA := wa_t 683 rfl rfl
set_option maxRecDepth 100000 in
theorem lkX6_51 : Cond.methodLink RX6 51 yX6_in ∈ WA := wa_t 686 rfl rfl
set_option maxRecDepth 100000 in
theorem lkX6_108 : Cond.methodLink RX6 108 yX6_record ∈ WA := wa_t 689 rfl rfl
set_option maxRecDepth 100000 in
theorem lkX6_111 : Cond.methodLink RX6 111 yX6_comes ∈ WA := wa_t 693 rfl rfl
set_option maxRecDepth 100000 in
theorem lkX6_59 : Cond.methodLink RX6 59 yX6_at ∈ WA := wa_t 697 rfl rfl
set_option maxRecDepth 100000 in
theorem lkL_22 : Cond.methodLink RL 22 yX6_go ∈ WA := wa_t 700 rfl rfl
set_option maxRecDepth 100000 in
theorem lkX6_55 : Cond.methodLink RX6 55 yX6_isTrader ∈ WA := wa_t 704 rfl rfl
set_option maxRecDepth 100000 in
theorem lkX6_65 : Cond.methodLink RX6 65 yX6_of ∈ WA := wa_t 708 rfl rfl
set_option maxRecDepth 100000 in
theorem lkL_26 : Cond.methodLink RL 26 yX6_want ∈ WA := wa_t 712 rfl rfl
set_option maxRecDepth 100000 in
theorem lkX6_114 : Cond.methodLink RX6 114 yX6_lays ∈ WA := wa_t 716 rfl rfl
set_option maxRecDepth 100000 in
theorem lkL_30 : Cond.methodLink RL 30 yX6_life ∈ WA := wa_t 720 rfl rfl
set_option maxRecDepth 100000 in
theorem lkL_34 : Cond.methodLink RL 34 yX6_circle ∈ WA := wa_t 724 rfl rfl
set_option maxRecDepth 100000 in
theorem lkL_38 : Cond.methodLink RL 38 yX6_lot ∈ WA := wa_t 728 rfl rfl
set_option maxRecDepth 100000 in
theorem lkL_42 : Cond.methodLink RL 42 yX6_barter ∈ WA := wa_t 732 rfl rfl
set_option maxRecDepth 100000 in
theorem lkX6_117 : Cond.methodLink RX6 117 yX6_arePair ∈ WA := wa_t 736 rfl rfl
set_option maxRecDepth 100000 in
theorem lkX6_120 : Cond.methodLink RX6 120 yX6_barters ∈ WA := wa_t 740 rfl rfl
set_option maxRecDepth 100000 in
theorem lkX6_102 : Cond.methodLink RX6 102 yX6_reason ∈ WA := wa_t 744 rfl rfl
set_option maxRecDepth 100000 in
theorem lkX6_68 : Cond.methodLink RX6 68 yX6_daysLeft ∈ WA := wa_t 748 rfl rfl
set_option maxRecDepth 100000 in
theorem lkX6_72 : Cond.methodLink RX6 72 yX6_wants ∈ WA := wa_t 752 rfl rfl
set_option maxRecDepth 100000 in
theorem lkX6_95 : Cond.methodLink RX6 95 yX6_looksAtWares ∈ WA := wa_t 756 rfl rfl
set_option maxRecDepth 100000 in
theorem lkX6_98 : Cond.methodLink RX6 98 yX6_gets ∈ WA := wa_t 760 rfl rfl
set_option maxRecDepth 100000 in
theorem lkL_47 : Cond.methodLink RL 47 yX6_call ∈ WA := wa_t 764 rfl rfl
set_option maxRecDepth 100000 in
theorem lkX6_123 : Cond.methodLink RX6 123 yX6_calls ∈ WA := wa_t 768 rfl rfl
set_option maxRecDepth 100000 in
theorem lkX6_92 : Cond.methodLink RX6 92 yX6_layBest ∈ WA := wa_t 772 rfl rfl
set_option maxRecDepth 100000 in
theorem lkX6_82 : Cond.methodLink RX6 82 yX6_keepsBest ∈ WA := wa_t 776 rfl rfl
set_option maxRecDepth 100000 in
theorem lkX6_86 : Cond.methodLink RX6 86 yX6_areCircles ∈ WA := wa_t 780 rfl rfl
set_option maxRecDepth 100000 in
theorem lkX6_89 : Cond.methodLink RX6 89 yX6_may ∈ WA := wa_t 784 rfl rfl
set_option maxRecDepth 100000 in
theorem lkX6_79 : Cond.methodLink RX6 79 yX6_takes ∈ WA := wa_t 788 rfl rfl
set_option maxRecDepth 100000 in
theorem lkL_51 : Cond.methodLink RL 51 yX6_day ∈ WA := wa_t 792 rfl rfl
set_option maxRecDepth 100000 in
theorem lkX6_127 : Cond.methodLink RX6 127 yX6_passes ∈ WA := wa_t 796 rfl rfl
set_option maxRecDepth 100000 in
theorem lkL_55 : Cond.methodLink RL 55 yX6_append ∈ WA := wa_t 800 rfl rfl
set_option maxRecDepth 100000 in
theorem lkL_59 : Cond.methodLink RL 59 yX6_clear ∈ WA := wa_t 804 rfl rfl
set_option maxRecDepth 100000 in
theorem lkL_63 : Cond.methodLink RL 63 yX6_fault ∈ WA := wa_t 808 rfl rfl
set_option maxRecDepth 100000 in
theorem lkX6_142 : Cond.methodLink RX6 142 yX6_faultOfTraders ∈ WA := wa_t 812 rfl rfl
set_option maxRecDepth 100000 in
theorem lkX6_139 : Cond.methodLink RX6 139 yX6_behindTrader ∈ WA := wa_t 816 rfl rfl
set_option maxRecDepth 100000 in
theorem lkX6_133 : Cond.methodLink RX6 133 yX6_next ∈ WA := wa_t 820 rfl rfl
set_option maxRecDepth 100000 in
theorem lkX6_145 : Cond.methodLink RX6 145 yX6_faultOfDays ∈ WA := wa_t 824 rfl rfl
set_option maxRecDepth 100000 in
theorem lkL_67 : Cond.methodLink RL 67 yX6_traders ∈ WA := wa_t 828 rfl rfl
set_option maxRecDepth 100000 in
theorem lkL_71 : Cond.methodLink RL 71 yX6_days ∈ WA := wa_t 832 rfl rfl
set_option maxRecDepth 100000 in
theorem lkX6_148 : Cond.methodLink RX6 148 yX6_isDone ∈ WA := wa_t 836 rfl rfl
set_option maxRecDepth 100000 in
theorem lkL_75 : Cond.methodLink RL 75 yX6_why ∈ WA := wa_t 840 rfl rfl
set_option maxRecDepth 100000 in
theorem lkL_79 : Cond.methodLink RL 79 yX6_trader ∈ WA := wa_t 844 rfl rfl
set_option maxRecDepth 100000 in
theorem lkX6_151 : Cond.methodLink RX6 151 yX6_takesFrom ∈ WA := wa_t 848 rfl rfl
set_option maxRecDepth 100000 in
theorem lkX6_154 : Cond.methodLink RX6 154 yX6_givesTo ∈ WA := wa_t 852 rfl rfl
set_option maxRecDepth 100000 in
theorem lkX6_157 : Cond.methodLink RX6 157 yX6_bestFor ∈ WA := wa_t 856 rfl rfl
set_option maxRecDepth 100000 in
theorem lkL_83 : Cond.methodLink RL 83 yX6_can ∈ WA := wa_t 860 rfl rfl
set_option maxRecDepth 100000 in
theorem lkL_87 : Cond.methodLink RL 87 yX6_whyNot ∈ WA := wa_t 864 rfl rfl
set_option maxRecDepth 100000 in
theorem lkL_91 : Cond.methodLink RL 91 yX6_most ∈ WA := wa_t 868 rfl rfl
set_option maxRecDepth 100000 in
theorem lkX6_160 : Cond.methodLink RX6 160 yX6_mostWith ∈ WA := wa_t 872 rfl rfl
set_option maxRecDepth 100000 in
theorem lkL_95 : Cond.methodLink RL 95 yX6_kind ∈ WA := wa_t 876 rfl rfl
set_option maxRecDepth 100000 in
theorem lkX6_163 : Cond.methodLink RX6 163 yX6_sumOf ∈ WA := wa_t 880 rfl rfl
set_option maxRecDepth 100000 in
theorem lkL_99 : Cond.methodLink RL 99 yX6_count ∈ WA := wa_t 884 rfl rfl
set_option maxRecDepth 100000 in
theorem lkX6_169 : Cond.methodLink RX6 169 yX6_needs ∈ WA := wa_t 888 rfl rfl
set_option maxRecDepth 100000 in
theorem lkX6_166 : Cond.methodLink RX6 166 yX6_bits ∈ WA := wa_t 892 rfl rfl
set_option maxRecDepth 100000 in
theorem lkX6_172 : Cond.methodLink RX6 172 yX6_spoilt ∈ WA := wa_t 895 rfl rfl
set_option maxRecDepth 100000 in
theorem lkX6_175 : Cond.methodLink RX6 175 yX6_stuck ∈ WA := wa_t 899 rfl rfl
set_option maxRecDepth 100000 in
theorem lkL_104 : Cond.methodLink RL 104 yX6_freshness ∈ WA := wa_t 903 rfl rfl
set_option maxRecDepth 100000 in
theorem lkL_108 : Cond.methodLink RL 108 yX6_ifCircle ∈ WA := wa_t 907 rfl rfl
set_option maxRecDepth 100000 in
theorem lkL_112 : Cond.methodLink RL 112 yX6_ifDays ∈ WA := wa_t 911 rfl rfl
set_option maxRecDepth 100000 in
theorem lkX6_178 : Cond.methodLink RX6 178 yX6_putAside ∈ WA := wa_t 915 rfl rfl
set_option maxRecDepth 100000 in
theorem lkX6_181 : Cond.methodLink RX6 181 yX6_putBack ∈ WA := wa_t 919 rfl rfl
set_option maxRecDepth 100000 in
theorem lkL_116 : Cond.methodLink RL 116 yX6_bestWant ∈ WA := wa_t 923 rfl rfl
set_option maxRecDepth 100000 in
theorem lkL_120 : Cond.methodLink RL 120 yX6_undo ∈ WA := wa_t 927 rfl rfl
set_option maxRecDepth 100000 in
theorem lkL_124 : Cond.methodLink RL 124 yX6_save ∈ WA := wa_t 931 rfl rfl
set_option maxRecDepth 100000 in
theorem lkL_128 : Cond.methodLink RL 128 yX6_restore ∈ WA := wa_t 935 rfl rfl
set_option maxRecDepth 100000 in
theorem nsX5_31 : (RX5, 31, yX3_init) ∈ nests := List.mem_of_getElem? (i := 0) rfl
set_option maxRecDepth 100000 in
theorem nsX5_38 : (RX5, 38, yX0_init) ∈ nests := List.mem_of_getElem? (i := 1) rfl
set_option maxRecDepth 100000 in
theorem nsX5_45 : (RX5, 45, yX4_init) ∈ nests := List.mem_of_getElem? (i := 2) rfl
set_option maxRecDepth 100000 in
theorem nsX2_87 : (RX2, 87, yX5_isKind) ∈ nests := List.mem_of_getElem? (i := 3) rfl
set_option maxRecDepth 100000 in
theorem nsX2_103 : (RX2, 103, yX5_holds) ∈ nests := List.mem_of_getElem? (i := 4) rfl
set_option maxRecDepth 100000 in
theorem nsX2_119 : (RX2, 119, yX5_with) ∈ nests := List.mem_of_getElem? (i := 5) rfl
set_option maxRecDepth 100000 in
theorem nsX4_57 : (RX4, 57, yX5_holds) ∈ nests := List.mem_of_getElem? (i := 6) rfl
set_option maxRecDepth 100000 in
theorem nsX4_64 : (RX4, 64, yX5_with) ∈ nests := List.mem_of_getElem? (i := 7) rfl
set_option maxRecDepth 100000 in
theorem nsX3_27 : (RX3, 27, yX5_with) ∈ nests := List.mem_of_getElem? (i := 8) rfl
set_option maxRecDepth 100000 in
theorem nsX0_69 : (RX0, 69, yX5_holds) ∈ nests := List.mem_of_getElem? (i := 9) rfl
set_option maxRecDepth 100000 in
theorem nsX0_73 : (RX0, 73, yX5_with) ∈ nests := List.mem_of_getElem? (i := 10) rfl
set_option maxRecDepth 100000 in
theorem fkX2_9 : LkF RX2 9 2 0 (RX2, TX2, 18) := ⟨rfl, by decide, wa_t 29 rfl rfl⟩
set_option maxRecDepth 100000 in
theorem fkX5_150 : LkF RX5 150 2 0 (RX2, TX2, 18) := ⟨rfl, by decide, wa_t 30 rfl rfl⟩
set_option maxRecDepth 100000 in
theorem fkX2_15 : LkF RX2 15 2 1 (RX2, TX2, 18) := ⟨rfl, by decide, wa_t 31 rfl rfl⟩
set_option maxRecDepth 100000 in
theorem fkX5_83 : LkF RX5 83 2 1 (RX2, TX2, 18) := ⟨rfl, by decide, wa_t 32 rfl rfl⟩
set_option maxRecDepth 100000 in
theorem fkX2_18 : LkF RX2 18 2 2 (RX2, TX2, 18) := ⟨rfl, by decide, wa_t 33 rfl rfl⟩
set_option maxRecDepth 100000 in
theorem fkX5_156 : LkF RX5 156 2 2 (RX2, TX2, 18) := ⟨rfl, by decide, wa_t 34 rfl rfl⟩
set_option maxRecDepth 100000 in
theorem fkX2_21 : LkF RX2 21 2 3 (RX2, TX2, 18) := ⟨rfl, by decide, wa_t 35 rfl rfl⟩
set_option maxRecDepth 100000 in
theorem fkX5_159 : LkF RX5 159 2 3 (RX2, TX2, 18) := ⟨rfl, by decide, wa_t 36 rfl rfl⟩
set_option maxRecDepth 100000 in
theorem fkX2_24 : LkF RX2 24 2 4 (RX2, TX2, 18) := ⟨rfl, by decide, wa_t 37 rfl rfl⟩
set_option maxRecDepth 100000 in
theorem fkX5_75 : LkF RX5 75 2 4 (RX2, TX2, 18) := ⟨rfl, by decide, wa_t 38 rfl rfl⟩
set_option maxRecDepth 100000 in
theorem fkX2_27 : LkF RX2 27 2 5 (RX2, TX2, 18) := ⟨rfl, by decide, wa_t 39 rfl rfl⟩
set_option maxRecDepth 100000 in
theorem fkX5_86 : LkF RX5 86 2 5 (RX2, TX2, 18) := ⟨rfl, by decide, wa_t 40 rfl rfl⟩
set_option maxRecDepth 100000 in
theorem fkX2_30 : LkF RX2 30 2 6 (RX2, TX2, 18) := ⟨rfl, by decide, wa_t 41 rfl rfl⟩
set_option maxRecDepth 100000 in
theorem fkX5_207 : LkF RX5 207 2 6 (RX2, TX2, 18) := ⟨rfl, by decide, wa_t 42 rfl rfl⟩
set_option maxRecDepth 100000 in
theorem fkX4_21 : LkF RX4 21 2 7 (RX2, TX2, 18) := ⟨rfl, by decide, wa_t 43 rfl rfl⟩
set_option maxRecDepth 100000 in
theorem fkX5_61 : LkF RX5 61 2 7 (RX2, TX2, 18) := ⟨rfl, by decide, wa_t 44 rfl rfl⟩
set_option maxRecDepth 100000 in
theorem fkX2_61 : LkF RX2 61 2 7 (RX2, TX2, 18) := ⟨rfl, by decide, wa_t 45 rfl rfl⟩
set_option maxRecDepth 100000 in
theorem fkX0_40 : LkF RX0 40 2 7 (RX2, TX2, 18) := ⟨rfl, by decide, wa_t 46 rfl rfl⟩
set_option maxRecDepth 100000 in
theorem fkX2_33 : LkF RX2 33 2 8 (RX2, TX2, 18) := ⟨rfl, by decide, wa_t 47 rfl rfl⟩
set_option maxRecDepth 100000 in
theorem fkX4_37 : LkF RX4 37 2 8 (RX2, TX2, 18) := ⟨rfl, by decide, wa_t 48 rfl rfl⟩
set_option maxRecDepth 100000 in
theorem fkX5_92 : LkF RX5 92 2 8 (RX2, TX2, 18) := ⟨rfl, by decide, wa_t 49 rfl rfl⟩
set_option maxRecDepth 100000 in
theorem fkX2_64 : LkF RX2 64 2 9 (RX2, TX2, 18) := ⟨rfl, by decide, wa_t 50 rfl rfl⟩
set_option maxRecDepth 100000 in
theorem fkX5_210 : LkF RX5 210 2 9 (RX2, TX2, 18) := ⟨rfl, by decide, wa_t 51 rfl rfl⟩
set_option maxRecDepth 100000 in
theorem fkX2_37 : LkF RX2 37 2 10 (RX2, TX2, 18) := ⟨rfl, by decide, wa_t 52 rfl rfl⟩
set_option maxRecDepth 100000 in
theorem fkX5_95 : LkF RX5 95 2 10 (RX2, TX2, 18) := ⟨rfl, by decide, wa_t 53 rfl rfl⟩
set_option maxRecDepth 100000 in
theorem fkX2_40 : LkF RX2 40 2 11 (RX2, TX2, 18) := ⟨rfl, by decide, wa_t 54 rfl rfl⟩
set_option maxRecDepth 100000 in
theorem fkX5_165 : LkF RX5 165 2 11 (RX2, TX2, 18) := ⟨rfl, by decide, wa_t 55 rfl rfl⟩
set_option maxRecDepth 100000 in
theorem fkX2_67 : LkF RX2 67 2 12 (RX2, TX2, 18) := ⟨rfl, by decide, wa_t 56 rfl rfl⟩
set_option maxRecDepth 100000 in
theorem fkX5_222 : LkF RX5 222 2 12 (RX2, TX2, 18) := ⟨rfl, by decide, wa_t 57 rfl rfl⟩
set_option maxRecDepth 100000 in
theorem fkX2_70 : LkF RX2 70 2 13 (RX2, TX2, 18) := ⟨rfl, by decide, wa_t 58 rfl rfl⟩
set_option maxRecDepth 100000 in
theorem fkX5_225 : LkF RX5 225 2 13 (RX2, TX2, 18) := ⟨rfl, by decide, wa_t 59 rfl rfl⟩
set_option maxRecDepth 100000 in
theorem fkX2_73 : LkF RX2 73 2 14 (RX2, TX2, 18) := ⟨rfl, by decide, wa_t 60 rfl rfl⟩
set_option maxRecDepth 100000 in
theorem fkX5_228 : LkF RX5 228 2 14 (RX2, TX2, 18) := ⟨rfl, by decide, wa_t 61 rfl rfl⟩
set_option maxRecDepth 100000 in
theorem fkX2_76 : LkF RX2 76 2 15 (RX2, TX2, 18) := ⟨rfl, by decide, wa_t 62 rfl rfl⟩
set_option maxRecDepth 100000 in
theorem fkX5_231 : LkF RX5 231 2 15 (RX2, TX2, 18) := ⟨rfl, by decide, wa_t 63 rfl rfl⟩
set_option maxRecDepth 100000 in
theorem fkX2_43 : LkF RX2 43 2 16 (RX2, TX2, 18) := ⟨rfl, by decide, wa_t 64 rfl rfl⟩
set_option maxRecDepth 100000 in
theorem fkX2_46 : LkF RX2 46 2 17 (RX2, TX2, 18) := ⟨rfl, by decide, wa_t 65 rfl rfl⟩
set_option maxRecDepth 100000 in
theorem fkX1_30 : LkF RX1 30 1 0 (RX1, TX1, 3) := ⟨rfl, by decide, wa_t 113 rfl rfl⟩
set_option maxRecDepth 100000 in
theorem fkX5_237 : LkF RX5 237 1 0 (RX1, TX1, 3) := ⟨rfl, by decide, wa_t 114 rfl rfl⟩
set_option maxRecDepth 100000 in
theorem fkX1_11 : LkF RX1 11 1 1 (RX1, TX1, 3) := ⟨rfl, by decide, wa_t 115 rfl rfl⟩
set_option maxRecDepth 100000 in
theorem fkX1_18 : LkF RX1 18 1 2 (RX1, TX1, 3) := ⟨rfl, by decide, wa_t 116 rfl rfl⟩
set_option maxRecDepth 100000 in
theorem fkX3_15 : LkF RX3 15 3 0 (RX3, TX3, 2) := ⟨rfl, by decide, wa_t 130 rfl rfl⟩
set_option maxRecDepth 100000 in
theorem fkX5_114 : LkF RX5 114 3 0 (RX3, TX3, 2) := ⟨rfl, by decide, wa_t 131 rfl rfl⟩
set_option maxRecDepth 100000 in
theorem fkX3_9 : LkF RX3 9 3 1 (RX3, TX3, 2) := ⟨rfl, by decide, wa_t 132 rfl rfl⟩
set_option maxRecDepth 100000 in
theorem fkX0_9 : LkF RX0 9 0 0 (RX0, TX0, 6) := ⟨rfl, by decide, wa_t 145 rfl rfl⟩
set_option maxRecDepth 100000 in
theorem fkX0_15 : LkF RX0 15 0 1 (RX0, TX0, 6) := ⟨rfl, by decide, wa_t 146 rfl rfl⟩
set_option maxRecDepth 100000 in
theorem fkX0_18 : LkF RX0 18 0 2 (RX0, TX0, 6) := ⟨rfl, by decide, wa_t 147 rfl rfl⟩
set_option maxRecDepth 100000 in
theorem fkX0_22 : LkF RX0 22 0 3 (RX0, TX0, 6) := ⟨rfl, by decide, wa_t 148 rfl rfl⟩
set_option maxRecDepth 100000 in
theorem fkX0_55 : LkF RX0 55 0 4 (RX0, TX0, 6) := ⟨rfl, by decide, wa_t 149 rfl rfl⟩
set_option maxRecDepth 100000 in
theorem fkX0_56 : LkF RX0 56 0 5 (RX0, TX0, 6) := ⟨rfl, by decide, wa_t 150 rfl rfl⟩
set_option maxRecDepth 100000 in
theorem fkX4_9 : LkF RX4 9 4 0 (RX4, TX4, 6) := ⟨rfl, by decide, wa_t 171 rfl rfl⟩
set_option maxRecDepth 100000 in
theorem fkX5_259 : LkF RX5 259 4 0 (RX4, TX4, 6) := ⟨rfl, by decide, wa_t 172 rfl rfl⟩
set_option maxRecDepth 100000 in
theorem fkX4_15 : LkF RX4 15 4 1 (RX4, TX4, 6) := ⟨rfl, by decide, wa_t 173 rfl rfl⟩
set_option maxRecDepth 100000 in
theorem fkX4_18 : LkF RX4 18 4 2 (RX4, TX4, 6) := ⟨rfl, by decide, wa_t 174 rfl rfl⟩
set_option maxRecDepth 100000 in
theorem fkX4_36 : LkF RX4 36 4 3 (RX4, TX4, 6) := ⟨rfl, by decide, wa_t 175 rfl rfl⟩
set_option maxRecDepth 100000 in
theorem fkX4_40 : LkF RX4 40 4 4 (RX4, TX4, 6) := ⟨rfl, by decide, wa_t 176 rfl rfl⟩
set_option maxRecDepth 100000 in
theorem fkX4_41 : LkF RX4 41 4 5 (RX4, TX4, 6) := ⟨rfl, by decide, wa_t 177 rfl rfl⟩
set_option maxRecDepth 100000 in
theorem fkX5_10 : LkF RX5 10 5 0 (RX5, TX5, 10) := ⟨rfl, by decide, wa_t 191 rfl rfl⟩
set_option maxRecDepth 100000 in
theorem fkX5_16 : LkF RX5 16 5 1 (RX5, TX5, 10) := ⟨rfl, by decide, wa_t 192 rfl rfl⟩
set_option maxRecDepth 100000 in
theorem fkX5_19 : LkF RX5 19 5 2 (RX5, TX5, 10) := ⟨rfl, by decide, wa_t 193 rfl rfl⟩
set_option maxRecDepth 100000 in
theorem fkX5_25 : LkF RX5 25 5 3 (RX5, TX5, 10) := ⟨rfl, by decide, wa_t 194 rfl rfl⟩
set_option maxRecDepth 100000 in
theorem fkX5_32 : LkF RX5 32 5 4 (RX5, TX5, 10) := ⟨rfl, by decide, wa_t 195 rfl rfl⟩
set_option maxRecDepth 100000 in
theorem fkX5_39 : LkF RX5 39 5 5 (RX5, TX5, 10) := ⟨rfl, by decide, wa_t 196 rfl rfl⟩
set_option maxRecDepth 100000 in
theorem fkX5_46 : LkF RX5 46 5 6 (RX5, TX5, 10) := ⟨rfl, by decide, wa_t 197 rfl rfl⟩
set_option maxRecDepth 100000 in
theorem fkX5_255 : LkF RX5 255 5 7 (RX5, TX5, 10) := ⟨rfl, by decide, wa_t 198 rfl rfl⟩
set_option maxRecDepth 100000 in
theorem fkX5_147 : LkF RX5 147 5 8 (RX5, TX5, 10) := ⟨rfl, by decide, wa_t 199 rfl rfl⟩
set_option maxRecDepth 100000 in
theorem fkX5_50 : LkF RX5 50 5 9 (RX5, TX5, 10) := ⟨rfl, by decide, wa_t 200 rfl rfl⟩
set_option maxRecDepth 100000 in
theorem fkX6_7 : LkF RX6 7 6 0 (RX6, TX6, 17) := ⟨rfl, by decide, wa_t 627 rfl rfl⟩
set_option maxRecDepth 100000 in
theorem fkX6_13 : LkF RX6 13 6 1 (RX6, TX6, 17) := ⟨rfl, by decide, wa_t 628 rfl rfl⟩
set_option maxRecDepth 100000 in
theorem fkX6_16 : LkF RX6 16 6 2 (RX6, TX6, 17) := ⟨rfl, by decide, wa_t 629 rfl rfl⟩
set_option maxRecDepth 100000 in
theorem fkX6_62 : LkF RX6 62 6 3 (RX6, TX6, 17) := ⟨rfl, by decide, wa_t 630 rfl rfl⟩
set_option maxRecDepth 100000 in
theorem fkX6_19 : LkF RX6 19 6 4 (RX6, TX6, 17) := ⟨rfl, by decide, wa_t 631 rfl rfl⟩
set_option maxRecDepth 100000 in
theorem fkX6_184 : LkF RX6 184 6 5 (RX6, TX6, 17) := ⟨rfl, by decide, wa_t 632 rfl rfl⟩
set_option maxRecDepth 100000 in
theorem fkX6_22 : LkF RX6 22 6 6 (RX6, TX6, 17) := ⟨rfl, by decide, wa_t 633 rfl rfl⟩
set_option maxRecDepth 100000 in
theorem fkX6_130 : LkF RX6 130 6 7 (RX6, TX6, 17) := ⟨rfl, by decide, wa_t 634 rfl rfl⟩
set_option maxRecDepth 100000 in
theorem fkX6_25 : LkF RX6 25 6 8 (RX6, TX6, 17) := ⟨rfl, by decide, wa_t 635 rfl rfl⟩
set_option maxRecDepth 100000 in
theorem fkX6_29 : LkF RX6 29 6 9 (RX6, TX6, 17) := ⟨rfl, by decide, wa_t 636 rfl rfl⟩
set_option maxRecDepth 100000 in
theorem fkX6_32 : LkF RX6 32 6 10 (RX6, TX6, 17) := ⟨rfl, by decide, wa_t 637 rfl rfl⟩
set_option maxRecDepth 100000 in
theorem fkX6_76 : LkF RX6 76 6 11 (RX6, TX6, 17) := ⟨rfl, by decide, wa_t 638 rfl rfl⟩
set_option maxRecDepth 100000 in
theorem fkX6_35 : LkF RX6 35 6 12 (RX6, TX6, 17) := ⟨rfl, by decide, wa_t 639 rfl rfl⟩
set_option maxRecDepth 100000 in
theorem fkX6_38 : LkF RX6 38 6 13 (RX6, TX6, 17) := ⟨rfl, by decide, wa_t 640 rfl rfl⟩
set_option maxRecDepth 100000 in
theorem fkX6_41 : LkF RX6 41 6 14 (RX6, TX6, 17) := ⟨rfl, by decide, wa_t 641 rfl rfl⟩
set_option maxRecDepth 100000 in
theorem fkX6_44 : LkF RX6 44 6 15 (RX6, TX6, 17) := ⟨rfl, by decide, wa_t 642 rfl rfl⟩
set_option maxRecDepth 100000 in
theorem fkX6_136 : LkF RX6 136 6 16 (RX6, TX6, 17) := ⟨rfl, by decide, wa_t 643 rfl rfl⟩
set_option maxRecDepth 100000 in
theorem ckL_7 : Cond.classLink RL 7 RX5 ∈ WA := wa_t 12 rfl rfl
set_option maxRecDepth 100000 in
theorem ckX5_7 : Cond.classLink RX5 7 RX2 ∈ WA := wa_t 20 rfl rfl
set_option maxRecDepth 100000 in
theorem ckX5_22 : Cond.classLink RX5 22 RX1 ∈ WA := wa_t 104 rfl rfl
set_option maxRecDepth 100000 in
theorem ckX1_9 : Cond.classLink RX1 9 RX2 ∈ WA := wa_t 110 rfl rfl
set_option maxRecDepth 100000 in
theorem ckX5_29 : Cond.classLink RX5 29 RX3 ∈ WA := wa_t 124 rfl rfl
set_option maxRecDepth 100000 in
theorem ckX5_36 : Cond.classLink RX5 36 RX0 ∈ WA := wa_t 139 rfl rfl
set_option maxRecDepth 100000 in
theorem ckX5_43 : Cond.classLink RX5 43 RX4 ∈ WA := wa_t 165 rfl rfl
set_option maxRecDepth 100000 in
theorem ckL_10 : Cond.classLink RL 10 RX6 ∈ WA := wa_t 618 rfl rfl
set_option maxRecDepth 100000 in
theorem isX5 : Cond.instantiable RX5 10 ∈ WA := wa_t 13 rfl rfl
set_option maxRecDepth 100000 in
theorem inX5 : Cond.initialized RX5 ∈ WA := wa_t 1 rfl rfl
set_option maxRecDepth 100000 in
theorem isX2 : Cond.instantiable RX2 18 ∈ WA := wa_t 21 rfl rfl
set_option maxRecDepth 100000 in
theorem inX2 : Cond.initialized RX2 ∈ WA := wa_t 2 rfl rfl
set_option maxRecDepth 100000 in
theorem isX1 : Cond.instantiable RX1 3 ∈ WA := wa_t 105 rfl rfl
set_option maxRecDepth 100000 in
theorem inX1 : Cond.initialized RX1 ∈ WA := wa_t 4 rfl rfl
set_option maxRecDepth 100000 in
theorem isX3 : Cond.instantiable RX3 2 ∈ WA := wa_t 125 rfl rfl
set_option maxRecDepth 100000 in
theorem inX3 : Cond.initialized RX3 ∈ WA := wa_t 5 rfl rfl
set_option maxRecDepth 100000 in
theorem isX0 : Cond.instantiable RX0 6 ∈ WA := wa_t 140 rfl rfl
set_option maxRecDepth 100000 in
theorem inX0 : Cond.initialized RX0 ∈ WA := wa_t 6 rfl rfl
set_option maxRecDepth 100000 in
theorem isX4 : Cond.instantiable RX4 6 ∈ WA := wa_t 166 rfl rfl
set_option maxRecDepth 100000 in
theorem inX4 : Cond.initialized RX4 ∈ WA := wa_t 7 rfl rfl
set_option maxRecDepth 100000 in
theorem isX6 : Cond.instantiable RX6 17 ∈ WA := wa_t 619 rfl rfl
set_option maxRecDepth 100000 in
theorem inX6 : Cond.initialized RX6 ∈ WA := wa_t 8 rfl rfl
set_option maxRecDepth 100000 in
theorem kkJ6_265 : Cond.constant RJ6 265 1431655765 ∈ WA := wa_t 478 rfl rfl
set_option maxRecDepth 100000 in
theorem kkJ6_266 : Cond.constant RJ6 266 858993459 ∈ WA := wa_t 479 rfl rfl
set_option maxRecDepth 100000 in
theorem kkJ6_267 : Cond.constant RJ6 267 252645135 ∈ WA := wa_t 480 rfl rfl
set_option maxRecDepth 100000 in
theorem acI : Cond.arrayClass (newarray.typeOf .int) ∈ WA := wa_t 103 rfl rfl
set_option maxRecDepth 100000 in
theorem acZ : Cond.arrayClass (newarray.typeOf .boolean) ∈ WA := wa_t 164 rfl rfl
set_option maxRecDepth 100000 in
theorem acC : Cond.arrayClass (newarray.typeOf .char) ∈ WA := wa_t 138 rfl rfl
end
section
theorem mm_w1 : Cond.static Lib.Math.max.name ∈ WA := wa_t 320 rfl rfl
theorem mm_w2 : Cond.code Lib.Math.max.name Lib.Math.max.code 2 (some .int) ∈ WA := wa_t 321 rfl rfl
theorem mm_w3 : Cond.initialized "java/lang/Math" ∈ WA := wa_t 10 rfl rfl
theorem mm_w4 : Cond.static Lib.Math.min.name ∈ WA := wa_t 248 rfl rfl
theorem mm_w5 : Cond.code Lib.Math.min.name Lib.Math.min.code 2 (some .int) ∈ WA := wa_t 249 rfl rfl
theorem x_mmax {sc : cS} {d : Nat} {μ : Md} {pc idx : Nat} {ls : List (Option Value)} {st : List Value} {AH AH' : List AC} {r : Option Value} {x y : Int32} (hw : Cond.methodLink μ.2.1.cls idx Lib.Math.max.name ∈ WA) (hd : decode μ.1 pc = .ok (.invokestatic idx, 3)) (hdd : 1 ≤ d) (hst : (st.map fun v => v.category).sum ≤ 8) (k : X sc d μ (pc + 3) ls (.int (if x < y then y else x) :: st) AH r AH') : X sc d μ pc ls (.int y :: .int x :: st) AH r AH' := by
  refine ⟨k.1, fun G p l e R s m args below meth c H locs cells slots Q lsA b ad A H0 n0 s0 hC => ?_⟩
  have hts := hC.1.2.2.2.2.1
  have h1 := k.1
  obtain ⟨f1, f2, f3, f4⟩ := hC.2.2.2.2.2.2.1
  have f5 := hC.2.2.2.2.2.1.1
  have f6 := hC.2.2.2.2.2.1.2
  exact va_mmax hC.1.1 hC.1.2.1 (hC.1.2.2.1.trans hC.2.1.1.symm) hC.1.2.2.2.1 (hts _ hw) (hts _ mm_w1) (hts _ mm_w3) (hts _ mm_w2) (by omega) (by rw [cat_map]; omega) (by omega) (by omega) hd (k.2 G p l e R s m args below meth c H locs cells slots Q lsA b ad A H0 n0 s0 hC)
theorem x_mmin {sc : cS} {d : Nat} {μ : Md} {pc idx : Nat} {ls : List (Option Value)} {st : List Value} {AH AH' : List AC} {r : Option Value} {x y : Int32} (hw : Cond.methodLink μ.2.1.cls idx Lib.Math.min.name ∈ WA) (hd : decode μ.1 pc = .ok (.invokestatic idx, 3)) (hdd : 1 ≤ d) (hst : (st.map fun v => v.category).sum ≤ 8) (k : X sc d μ (pc + 3) ls (.int (if y < x then y else x) :: st) AH r AH') : X sc d μ pc ls (.int y :: .int x :: st) AH r AH' := by
  refine ⟨k.1, fun G p l e R s m args below meth c H locs cells slots Q lsA b ad A H0 n0 s0 hC => ?_⟩
  have hts := hC.1.2.2.2.2.1
  have h1 := k.1
  obtain ⟨f1, f2, f3, f4⟩ := hC.2.2.2.2.2.2.1
  have f5 := hC.2.2.2.2.2.1.1
  have f6 := hC.2.2.2.2.2.1.2
  exact va_mmin hC.1.1 hC.1.2.1 (hC.1.2.2.1.trans hC.2.1.1.symm) hC.1.2.2.2.1 (hts _ hw) (hts _ mm_w4) (hts _ mm_w3) (hts _ mm_w5) (by omega) (by rw [cat_map]; omega) (by omega) (by omega) hd (k.2 G p l e R s m args below meth c H locs cells slots Q lsA b ad A H0 n0 s0 hC)
theorem x_iconstv {sc : cS} {d : Nat} {μ : Md} {pc : Nat} {ls : List (Option Value)} {st : List Value} {AH AH' : List AC} {r : Option Value} {n : Int} {v : Int32} (hd : decode μ.1 pc = .ok (.iconst n, 1)) (hv : Int32.ofInt n = v) (k : X sc d μ (pc + 1) ls (.int v :: st) AH r AH') : X sc d μ pc ls st AH r AH' := by
  subst hv
  exact x_iconst hd k
theorem x_bipushv {sc : cS} {d : Nat} {μ : Md} {pc : Nat} {ls : List (Option Value)} {st : List Value} {AH AH' : List AC} {r : Option Value} {n : Int} {v : Int32} (hd : decode μ.1 pc = .ok (.bipush n, 2)) (hv : (Int8.ofInt n).toInt32 = v) (k : X sc d μ (pc + 2) ls (.int v :: st) AH r AH') : X sc d μ pc ls st AH r AH' := by
  subst hv
  exact x_bipush hd k
theorem x_sipushv {sc : cS} {d : Nat} {μ : Md} {pc : Nat} {ls : List (Option Value)} {st : List Value} {AH AH' : List AC} {r : Option Value} {n : Int} {v : Int32} (hd : decode μ.1 pc = .ok (.sipush n, 3)) (hv : (Int16.ofInt n).toInt32 = v) (k : X sc d μ (pc + 3) ls (.int v :: st) AH r AH') : X sc d μ pc ls st AH r AH' := by
  subst hv
  exact x_sipush hd k
theorem x_iincv {sc : cS} {d : Nat} {μ : Md} {pc : Nat} {ls : List (Option Value)} {st : List Value} {AH AH' : List AC} {r : Option Value} {i : Nat} {n : Int} {x v : Int32} (hd : decode μ.1 pc = .ok (.iinc i n, 3)) (hv : ls[i]? = some (some (.int x))) (hi : i < μ.2.2.1) (hn : noD ls i = true) (he : Int32.ofInt n = v) (k : X sc d μ (pc + 3) (ls.set i (some (.int (x + v)))) st AH r AH') : X sc d μ pc ls st AH r AH' := by
  subst he
  exact x_iinc hd hv hi hn k
end
section
/-! the market as one row V of numbers, as the reference holds it -/
abbrev Row : Type := Nat → Int32
def b2i (b : Bool) : Int32 := if b = true then 1 else 0
theorem b2i_nar (b : Bool) : narrow .boolean (.int (b2i b)) = .int (b2i b) := by cases b <;> rfl
def nT (V : Row) : Nat := (V 1).toNatClampNeg
def kd (V : Row) (j : Nat) : Nat := (V (24 + 5 * j)).toNatClampNeg
def dli (V : Row) (j : Nat) : Int32 := V (10 + 2 * kd V j) - V (25 + 5 * j)
def dl (V : Row) (j : Nat) : Int32 := if 0 < dli V j then dli V j else 0
def wb (V : Row) (t g : Nat) : Int32 := (V (23 + 5 * t) >>> (V (24 + 5 * g) &&& 31)) &&& 1
def canV (V : Row) (t g : Nat) : Bool := decide (t ≠ g) && decide (V 9 ≠ nI t) && decide (V 9 ≠ nI g) && decide (0 < dli V t) && decide (0 < dli V g) && decide (wb V t g = 1)
def hasB (V : Row) (t : Int32) : Bool := decide (0 ≤ t) && decide (t < V 1)
def WFt (V : Row) (j : Nat) : Prop := vp_in (V (22 + 5 * j)) 6 ∧ vp_in (V (23 + 5 * j)) 64 ∧ vp_in (V (24 + 5 * j)) 6 ∧ True
def WF (V : Row) : Prop := vp_in (V 1) 8 ∧ (∀ j, j < nT V → WFt V j) ∧ (∀ k, k < 6 → vp_in (V (10 + 2 * k)) 10 ∧ 0 < V (10 + 2 * k)) ∧ (vp_in (V 7) 8 ∧ 2 ≤ V 7) ∧ vp_in (V 8) 10000 ∧ (V 9 = -4 ∨ vp_in (V 9) (nT V))
def mSum (V : Row) : Int32 := V 11 + V 13 + V 15 + V 17 + V 19 + V 21
def IsMk (o : Nat) : Prop := (∀ i, i < 10 → o + i < NC) ∧ ∀ i, i < 10 → SH (o + i) = mkS o i
theorem mk1 : IsMk 1 := ⟨by decide, by decide⟩
theorem mk11 : IsMk 11 := ⟨by decide, by decide⟩
theorem mk21 : IsMk 21 := ⟨by decide, by decide⟩
theorem mk33 : IsMk 33 := ⟨by decide, by decide⟩
theorem mk43 : IsMk 43 := ⟨by decide, by decide⟩
theorem mk53 : IsMk 53 := ⟨by decide, by decide⟩
theorem mk63 : IsMk 63 := ⟨by decide, by decide⟩
/-- the class' market at the cells from o on holds the row V -/
def RM (M : Mem) (o : Nat) (V : Row) : Prop := (M o 7 = V 1 ∧ M o 8 = V 7 ∧ M o 9 = V 0 ∧ M o 10 = V 8 ∧ ((M o 11 = -1 ∧ V 9 = -4) ∨ (M o 11 = V 9 ∧ vp_in (V 9) (nT V))) ∧ M o 12 = V 3 ∧ M o 13 = V 4 ∧ M o 14 = V 5 ∧ M o 15 = V 6 ∧ V 2 = mSum V) ∧
  (∀ k, k < 6 → M (o + 6) k = V (10 + 2 * k) ∧ M (o + 7) k = V (11 + 2 * k)) ∧
  ∀ j, j < nT V → M (o + 1) j = V (22 + 5 * j) ∧ M (o + 2) j = V (23 + 5 * j) ∧ M (o + 3) j = V (24 + 5 * j) ∧ M (o + 4) j = V (25 + 5 * j) ∧ M (o + 5) j = V (26 + 5 * j)
theorem vpin_le {x : Int32} {n m : Nat} (h : vp_in x n) (hm : n ≤ m) : vp_in x m := fun q => h (q.imp id (fun z => Nat.le_trans hm z))
theorem vpin_nI {x : Int32} {n : Nat} (h : vp_in x n) : x = nI x.toNatClampNeg := by
  have h0 : ¬ x < 0 := fun q => h (Or.inl q)
  obtain ⟨j, hj, rfl⟩ := nI_of h0
  rw [nI_clamp hj]
theorem vpin_lt {x : Int32} {n : Nat} (h : vp_in x n) : x.toNatClampNeg < n := vp_in_lt h
theorem WF_n {V : Row} (h : WF V) : nT V ≤ 7 ∧ V 1 = nI (nT V) := by
  have h1 := vpin_lt h.1
  exact ⟨by unfold nT; omega, vpin_nI h.1⟩
theorem hasB_nI {V : Row} (h : WF V) {j : Nat} (hj : j < 2 ^ 31) : hasB V (nI j) = decide (j < nT V) := by
  obtain ⟨h1, h2⟩ := WF_n h
  have h3 : (0 ≤ nI j) := nI_pos' hj
  have h4 : nI j < V 1 ↔ j < nT V := by rw [h2]; exact nI_ltI hj (by omega)
  simp [hasB, h3, h4]
theorem hasB_of {V : Row} (h : WF V) {t : Int32} (ht : hasB V t = true) : ∃ j, j < nT V ∧ t = nI j := by
  simp only [hasB, Bool.and_eq_true, decide_eq_true_eq] at ht
  obtain ⟨h1, h2⟩ := WF_n h
  obtain ⟨j, hj, rfl⟩ := nI_of (x := t) (by intro q; exact absurd (Int32.lt_of_lt_of_le q ht.1) (by simp))
  refine ⟨j, ?_, rfl⟩
  rw [h2] at ht
  exact (nI_ltI hj (by omega)).mp ht.2
theorem cat8 {l : List Value} (h : Nat.ble ((l.map fun v => v.category).sum) 8 = true) : (l.map fun v => v.category).sum ≤ 8 := Nat.le_of_ble_eq_true h
end
section
theorem y_isKind {M : Mem} {k : Int32} : Y 0 mX5_isKind 0 (lent 1 [.int k]) [] M (some (.int (b2i (decide (0 ≤ k) && decide (k < 6))))) M := by
  refine x_iload_n dX5_isKind_0 rfl ?_
  refine x_if_lt 14 dX5_isKind_1 (by decide) (fun c_1 => ?_) (fun c_1 => ?_)
  · refine x_iconstv (v := 0) dX5_isKind_14 (by decide) ?_
    exact y_ret dX5_isKind_15 rfl (rfl) (by simp [b2i, *] <;> grind) (rfl)
  · refine x_iload_n dX5_isKind_4 rfl ?_
    refine x_bipushv (v := 6) dX5_isKind_5 (by decide) ?_
    refine x_icmp_ge 14 dX5_isKind_7 (by decide) (fun c_7 => ?_) (fun c_7 => ?_)
    · refine x_iconstv (v := 0) dX5_isKind_14 (by decide) ?_
      exact y_ret dX5_isKind_15 rfl (rfl) (by simp [b2i, *] <;> grind) (rfl)
    · refine x_iconstv (v := 1) dX5_isKind_10 (by decide) ?_
      refine x_goto 15 dX5_isKind_11 (by decide) ?_
      exact y_ret dX5_isKind_15 rfl (rfl) (by simp [b2i, *] <;> grind) (rfl)
theorem y_isSet {M : Mem} {k : Int32} : Y 0 mX5_isSetOfKinds 0 (lent 1 [.int k]) [] M (some (.int (b2i (decide (0 ≤ k) && decide (k ≤ 63))))) M := by
  refine x_iload_n dX5_isSetOfKinds_0 rfl ?_
  refine x_if_lt 14 dX5_isSetOfKinds_1 (by decide) (fun c_1 => ?_) (fun c_1 => ?_)
  · refine x_iconstv (v := 0) dX5_isSetOfKinds_14 (by decide) ?_
    exact y_ret dX5_isSetOfKinds_15 rfl (rfl) (by simp [b2i, *] <;> grind) (rfl)
  · refine x_iload_n dX5_isSetOfKinds_4 rfl ?_
    refine x_bipushv (v := 63) dX5_isSetOfKinds_5 (by decide) ?_
    refine x_icmp_gt 14 dX5_isSetOfKinds_7 (by decide) (fun c_7 => ?_) (fun c_7 => ?_)
    · refine x_iconstv (v := 0) dX5_isSetOfKinds_14 (by decide) ?_
      exact y_ret dX5_isSetOfKinds_15 rfl (rfl) (by simp [b2i, *] <;> grind) (rfl)
    · refine x_iconstv (v := 1) dX5_isSetOfKinds_10 (by decide) ?_
      refine x_goto 15 dX5_isSetOfKinds_11 (by decide) ?_
      exact y_ret dX5_isSetOfKinds_15 rfl (rfl) (by simp [b2i, *] <;> grind) (rfl)
theorem y_isCircle {M : Mem} {k : Int32} : Y 0 mX5_isCircleLength 0 (lent 1 [.int k]) [] M (some (.int (b2i (decide (2 ≤ k) && decide (k ≤ 7))))) M := by
  refine x_iload_n dX5_isCircleLength_0 rfl ?_
  refine x_iconstv (v := 2) dX5_isCircleLength_1 (by decide) ?_
  refine x_icmp_lt 15 dX5_isCircleLength_2 (by decide) (fun c_2 => ?_) (fun c_2 => ?_)
  · refine x_iconstv (v := 0) dX5_isCircleLength_15 (by decide) ?_
    exact y_ret dX5_isCircleLength_16 rfl (rfl) (by simp [b2i, *] <;> grind) (rfl)
  · refine x_iload_n dX5_isCircleLength_5 rfl ?_
    refine x_bipushv (v := 7) dX5_isCircleLength_6 (by decide) ?_
    refine x_icmp_gt 15 dX5_isCircleLength_8 (by decide) (fun c_8 => ?_) (fun c_8 => ?_)
    · refine x_iconstv (v := 0) dX5_isCircleLength_15 (by decide) ?_
      exact y_ret dX5_isCircleLength_16 rfl (rfl) (by simp [b2i, *] <;> grind) (rfl)
    · refine x_iconstv (v := 1) dX5_isCircleLength_11 (by decide) ?_
      refine x_goto 16 dX5_isCircleLength_12 (by decide) ?_
      exact y_ret dX5_isCircleLength_16 rfl (rfl) (by simp [b2i, *] <;> grind) (rfl)
theorem y_holds {M : Mem} {s k : Int32} : Y 0 mX5_holds 0 (lent 2 [.int s, .int k]) [] M (some (.int (b2i (decide (s >>> (k &&& 31) &&& 1 ≠ 0))))) M := by
  refine x_iload_n dX5_holds_0 rfl ?_
  refine x_iload_n dX5_holds_1 rfl ?_
  refine x_ishr dX5_holds_2 ?_
  refine x_iconstv (v := 1) dX5_holds_3 (by decide) ?_
  refine x_iand dX5_holds_4 ?_
  refine x_if_eq 12 dX5_holds_5 (by decide) (fun c_5 => ?_) (fun c_5 => ?_)
  · refine x_iconstv (v := 0) dX5_holds_12 (by decide) ?_
    exact y_ret dX5_holds_13 rfl (rfl) (by simp [b2i, *] <;> grind) (rfl)
  · refine x_iconstv (v := 1) dX5_holds_8 (by decide) ?_
    refine x_goto 13 dX5_holds_9 (by decide) ?_
    exact y_ret dX5_holds_13 rfl (rfl) (by simp [b2i, *] <;> grind) (rfl)
theorem y_with {M : Mem} {s k : Int32} : Y 0 mX5_with 0 (lent 2 [.int s, .int k]) [] M (some (.int (s ||| 1 <<< (k &&& 31)))) M := by
  refine x_iload_n dX5_with_0 rfl ?_
  refine x_iconstv (v := 1) dX5_with_1 (by decide) ?_
  refine x_iload_n dX5_with_2 rfl ?_
  refine x_ishl dX5_with_3 ?_
  refine x_ior dX5_with_4 ?_
  exact y_ret dX5_with_5 rfl (rfl) (rfl) (rfl)
theorem y_has {o : Nat} (hk : IsMk o) {M : Mem} {V : Row} (hR : RM M o V) (hV : WF V) {t : Int32} : Y 0 mX2_has 0 (lent 2 [.ref o, .int t]) [] M (some (.int (b2i (hasB V t)))) M := by
  have hs := hR.1.1
  obtain ⟨hn1, hn2⟩ := WF_n hV
  have h7 : V 1 ≤ 7 := by rw [hn2]; exact nI_le hn1 (by decide)
  refine x_iload_n dX2_has_0 rfl ?_
  refine x_if_lt 25 dX2_has_1 (by decide) (fun c_1 => ?_) (fun c_1 => ?_)
  · refine x_iconstv (v := 0) dX2_has_25 (by decide) ?_
    exact y_ret dX2_has_26 rfl (rfl) (by simp [b2i, hasB] <;> grind) (rfl)
  · refine x_iload_n dX2_has_4 rfl ?_
    refine x_aload_n dX2_has_5 rfl ?_
    refine y_getI fkX2_61 dX2_has_6 (hk.1 0 (by decide)) (hk.2 0 (by decide)) rfl ?_
    refine x_icmp_ge 25 dX2_has_9 (by decide) (fun c_9 => ?_) (fun c_9 => ?_)
    · refine x_iconstv (v := 0) dX2_has_25 (by decide) ?_
      exact y_ret dX2_has_26 rfl (rfl) (by simp [b2i, hasB] <;> grind) (rfl)
    · refine x_aload_n dX2_has_12 rfl ?_
      refine y_getI fkX2_61 dX2_has_13 (hk.1 0 (by decide)) (hk.2 0 (by decide)) rfl ?_
      refine x_bipushv (v := 7) dX2_has_16 (by decide) ?_
      refine x_icmp_gt 25 dX2_has_18 (by decide) (fun c_18 => ?_) (fun c_18 => ?_)
      · refine x_iconstv (v := 0) dX2_has_25 (by decide) ?_
        exact y_ret dX2_has_26 rfl (rfl) (by simp [b2i, hasB] <;> grind) (rfl)
      · refine x_iconstv (v := 1) dX2_has_21 (by decide) ?_
        refine x_goto 26 dX2_has_22 (by decide) ?_
        exact y_ret dX2_has_26 rfl (rfl) (by simp [b2i, hasB] <;> grind) (rfl)
end
section
theorem b2i_z {b : Bool} : b2i b = 0 ↔ b = false := by cases b <;> decide
theorem b2i_T {b : Bool} (h : b = true) : b2i b = 1 := by rw [h]; rfl
theorem b2i_F {b : Bool} (h : b = false) : b2i b = 0 := by rw [h]; rfl
def bothB (V : Row) (a b : Int32) : Bool := hasB V a && hasB V b && decide (a ≠ b)
def sumF (f : Nat → Int32) : Nat → Int32
  | 0 => 0
  | n + 1 => sumF f n + f n
def gvm (V : Row) (t : Nat) : Nat → Int32
  | 0 => 0
  | n + 1 => if canV V t n = true then gvm V t n ||| 1 <<< (nI n &&& 31) else gvm V t n
def gv (V : Row) (t : Nat) : Int32 := gvm V t (nT V)
def rsn (V : Row) (a b : Nat) : Int32 := if V 9 = nI a ∨ V 9 = nI b then 1 else if ¬ 0 < dli V a ∨ ¬ 0 < dli V b then 2 else if ¬ wb V a b = 1 then 3 else if ¬ wb V b a = 1 then 4 else 0
theorem and1 (x : Int32) : x &&& 1 = 0 ∨ x &&& 1 = 1 := by
  have h : ∀ y : BitVec 32, y &&& 1#32 = 0#32 ∨ y &&& 1#32 = 1#32 := by
    intro y
    have ey : (y &&& 1#32).toNat = y.toNat % 2 := by
      rw [BitVec.toNat_and]
      exact Nat.and_one_is_mod _
    rcases Nat.mod_two_eq_zero_or_one y.toNat with q | q
    · left
      apply BitVec.eq_of_toNat_eq
      rw [ey, q]
      rfl
    · right
      apply BitVec.eq_of_toNat_eq
      rw [ey, q]
      rfl
  rcases h x.toBitVec with q | q
  · left; exact Int32.toBitVec_inj.mp (by simpa using q)
  · right; exact Int32.toBitVec_inj.mp (by simpa using q)
theorem wb_01 (V : Row) (t g : Nat) : wb V t g = 0 ∨ wb V t g = 1 := and1 _
theorem n31 {V : Row} (h : WF V) {j : Nat} (hj : j ≤ nT V) : j < 2 ^ 31 := by
  have := (WF_n h).1
  omega
theorem lp_lt {V : Row} (h : WF V) {x : Int32} (hx : x = V 1) {i : Nat} (hi : i ≤ nT V) (c : ¬ x ≤ nI i) : i < nT V := by
  obtain ⟨h1, h2⟩ := WF_n h
  rcases Nat.lt_or_ge i (nT V) with q | q
  · exact q
  · exact absurd (by rw [hx, h2]; exact nI_le q (by omega)) c
theorem lp_eq {V : Row} (h : WF V) {x : Int32} (hx : x = V 1) {i : Nat} (hi : i ≤ nT V) (c : x ≤ nI i) : i = nT V := by
  obtain ⟨h1, h2⟩ := WF_n h
  rw [hx, h2] at c
  have := (nI_leI (by omega) (by omega)).mp c
  omega
theorem dl_pos {V : Row} {j : Nat} : (dl V j ≤ 0) ↔ ¬ 0 < dli V j := by
  unfold dl
  split
  · constructor
    · intro h; exact absurd (Int32.lt_of_lt_of_le ‹_› h) (by simp)
    · intro h; contradiction
  · simp [*]
def us (x k : Int32) : Int32 := (x.toUInt32 >>> (k.toUInt32 &&& Int32.toUInt32 31)).toInt32
def bc1 (x : Int32) : Int32 := x - (us x 1 &&& 1431655765)
def bc2 (x : Int32) : Int32 := (x &&& 858993459) + (us x 2 &&& 858993459)
def bc3 (x : Int32) : Int32 := (x + us x 4) &&& 252645135
def bc4 (x : Int32) : Int32 := x + us x 8
def bc5 (x : Int32) : Int32 := x + us x 16
def bc (x : Int32) : Int32 := bc5 (bc4 (bc3 (bc2 (bc1 x)))) &&& 63
theorem m1_nI {j : Nat} (hj : j < 2 ^ 31) : ¬ nI j = -1 := by
  intro h
  have h1 := congrArg Int32.toInt h
  rw [nI_toInt hj] at h1
  have h2 : (-1 : Int32).toInt = -1 := by decide
  omega
theorem m4_nI {j : Nat} (hj : j < 2 ^ 31) : ¬ nI j = -4 := by
  intro h
  have h1 := congrArg Int32.toInt h
  rw [nI_toInt hj] at h1
  have h2 : (-4 : Int32).toInt = -4 := by decide
  omega
theorem sh_eq {M : Mem} {o : Nat} {V : Row} (hR : RM M o V) (hV : WF V) {j : Nat} (hj : j < nT V) : (nI j = M o 11) ↔ (V 9 = nI j) := by
  have hj2 := n31 hV (Nat.le_of_lt hj)
  rcases hR.1.2.2.2.2.1 with ⟨h1, h2⟩ | ⟨h1, h2⟩
  · rw [h1, h2]
    exact ⟨fun q => absurd q (m1_nI hj2), fun q => absurd q.symm (m4_nI hj2)⟩
  · rw [h1]
    exact eq_comm
end
section
theorem y_bitCount {M : Mem} {x : Int32} : Y 0 mJ6_bitCount_0f7a4 0 (lent 1 [.int x]) [] M (some (.int (bc x))) M := by
  refine x_iload_n dJ6_bitCount_0f7a4_0 rfl ?_
  refine x_iload_n dJ6_bitCount_0f7a4_1 rfl ?_
  refine x_iconstv (v := 1) dJ6_bitCount_0f7a4_2 (by decide) ?_
  refine x_iushr dJ6_bitCount_0f7a4_3 ?_
  refine x_ldcw dJ6_bitCount_0f7a4_4 kkJ6_265 ?_
  refine x_iand dJ6_bitCount_0f7a4_7 ?_
  refine x_isub dJ6_bitCount_0f7a4_8 ?_
  refine x_istore_n dJ6_bitCount_0f7a4_9 (by decide) rfl ?_
  refine x_iload_n dJ6_bitCount_0f7a4_10 rfl ?_
  refine x_ldcw dJ6_bitCount_0f7a4_11 kkJ6_266 ?_
  refine x_iand dJ6_bitCount_0f7a4_14 ?_
  refine x_iload_n dJ6_bitCount_0f7a4_15 rfl ?_
  refine x_iconstv (v := 2) dJ6_bitCount_0f7a4_16 (by decide) ?_
  refine x_iushr dJ6_bitCount_0f7a4_17 ?_
  refine x_ldcw dJ6_bitCount_0f7a4_18 kkJ6_266 ?_
  refine x_iand dJ6_bitCount_0f7a4_21 ?_
  refine x_iadd dJ6_bitCount_0f7a4_22 ?_
  refine x_istore_n dJ6_bitCount_0f7a4_23 (by decide) rfl ?_
  refine x_iload_n dJ6_bitCount_0f7a4_24 rfl ?_
  refine x_iload_n dJ6_bitCount_0f7a4_25 rfl ?_
  refine x_iconstv (v := 4) dJ6_bitCount_0f7a4_26 (by decide) ?_
  refine x_iushr dJ6_bitCount_0f7a4_27 ?_
  refine x_iadd dJ6_bitCount_0f7a4_28 ?_
  refine x_ldcw dJ6_bitCount_0f7a4_29 kkJ6_267 ?_
  refine x_iand dJ6_bitCount_0f7a4_32 ?_
  refine x_istore_n dJ6_bitCount_0f7a4_33 (by decide) rfl ?_
  refine x_iload_n dJ6_bitCount_0f7a4_34 rfl ?_
  refine x_iload_n dJ6_bitCount_0f7a4_35 rfl ?_
  refine x_bipushv (v := 8) dJ6_bitCount_0f7a4_36 (by decide) ?_
  refine x_iushr dJ6_bitCount_0f7a4_38 ?_
  refine x_iadd dJ6_bitCount_0f7a4_39 ?_
  refine x_istore_n dJ6_bitCount_0f7a4_40 (by decide) rfl ?_
  refine x_iload_n dJ6_bitCount_0f7a4_41 rfl ?_
  refine x_iload_n dJ6_bitCount_0f7a4_42 rfl ?_
  refine x_bipushv (v := 16) dJ6_bitCount_0f7a4_43 (by decide) ?_
  refine x_iushr dJ6_bitCount_0f7a4_45 ?_
  refine x_iadd dJ6_bitCount_0f7a4_46 ?_
  refine x_istore_n dJ6_bitCount_0f7a4_47 (by decide) rfl ?_
  refine x_iload_n dJ6_bitCount_0f7a4_48 rfl ?_
  refine x_bipushv (v := 63) dJ6_bitCount_0f7a4_49 (by decide) ?_
  refine x_iand dJ6_bitCount_0f7a4_51 ?_
  exact y_ret dJ6_bitCount_0f7a4_52 rfl (rfl) (rfl) (rfl)
theorem y_hasT {o : Nat} (hk : IsMk o) {M : Mem} {V : Row} (hR : RM M o V) (hV : WF V) {j : Nat} (hj : j < nT V) : Y 0 mX2_has 0 (lent 2 [.ref o, .int (nI j)]) [] M (some (.int (1))) M := by
  have h := y_has hk hR hV (t := nI j)
  rw [hasB_nI hV (n31 hV (Nat.le_of_lt hj)), decide_eq_true hj] at h
  exact h
theorem y_isKindT {M : Mem} {x : Int32} (hx : vp_in x 6) : Y 0 mX5_isKind 0 (lent 1 [.int x]) [] M (some (.int (1))) M := by
  have h := y_isKind (M := M) (k := x)
  obtain ⟨j, hj, rfl⟩ := vp_in_of hx (by decide)
  rw [decide_eq_true (nI_pos' (by omega)), decide_eq_true (show nI j < 6 from nI_lt hj (by decide))] at h
  exact h
theorem y_hasBoth {o : Nat} (hk : IsMk o) {M : Mem} {V : Row} (hR : RM M o V) (hV : WF V) {a b : Int32} : Y 1 mX2_hasBoth 0 (lent 3 [.ref o, .int a, .int b]) [] M (some (.int (b2i (bothB V a b)))) M := by
  refine x_aload_n dX2_hasBoth_0 rfl ?_
  refine x_iload_n dX2_hasBoth_1 rfl ?_
  refine y_callV (as := [_]) okX2_has lkX2_79 dX2_hasBoth_2 rfl (hk.1 0 (by decide)) (hk.2 0 (by decide)) (y_has hk hR hV) (by omega) rfl (by simp [Value.category]) (Nat.le_of_ble_eq_true rfl) rfl rfl (cat8 rfl) ?_
  refine x_if_eq 25 dX2_hasBoth_5 (by decide) (fun c_5 => ?_) (fun c_5 => ?_)
  · refine x_iconstv (v := 0) dX2_hasBoth_25 (by decide) ?_
    exact y_ret dX2_hasBoth_26 rfl (rfl) (by simp_all [b2i_z, bothB, b2i]) (rfl)
  · refine x_aload_n dX2_hasBoth_8 rfl ?_
    refine x_iload_n dX2_hasBoth_9 rfl ?_
    refine y_callV (as := [_]) okX2_has lkX2_79 dX2_hasBoth_10 rfl (hk.1 0 (by decide)) (hk.2 0 (by decide)) (y_has hk hR hV) (by omega) rfl (by simp [Value.category]) (Nat.le_of_ble_eq_true rfl) rfl rfl (cat8 rfl) ?_
    refine x_if_eq 25 dX2_hasBoth_13 (by decide) (fun c_13 => ?_) (fun c_13 => ?_)
    · refine x_iconstv (v := 0) dX2_hasBoth_25 (by decide) ?_
      exact y_ret dX2_hasBoth_26 rfl (rfl) (by simp_all [b2i_z, bothB, b2i]) (rfl)
    · refine x_iload_n dX2_hasBoth_16 rfl ?_
      refine x_iload_n dX2_hasBoth_17 rfl ?_
      refine x_icmp_eq 25 dX2_hasBoth_18 (by decide) (fun c_18 => ?_) (fun c_18 => ?_)
      · refine x_iconstv (v := 0) dX2_hasBoth_25 (by decide) ?_
        exact y_ret dX2_hasBoth_26 rfl (rfl) (by simp_all [b2i_z, bothB, b2i]) (rfl)
      · refine x_iconstv (v := 1) dX2_hasBoth_21 (by decide) ?_
        refine x_goto 26 dX2_hasBoth_22 (by decide) ?_
        exact y_ret dX2_hasBoth_26 rfl (rfl) (by simp_all [b2i_z, bothB, b2i]) (rfl)
theorem y_hasWare {o : Nat} (hk : IsMk o) {M : Mem} {V : Row} (hR : RM M o V) (hV : WF V) {j : Nat} (hj : j < nT V) : Y 1 mX2_hasWare 0 (lent 2 [.ref o, .int (nI j)]) [] M (some (.int (1))) M := by
  have hR0 := hR
  obtain ⟨⟨r7, r8, r9, r10, r11, r12, r13, r14, r15, r2⟩, rk, rt⟩ := hR0
  obtain ⟨hn1, hn2⟩ := WF_n hV
  refine x_aload_n dX2_hasWare_0 rfl ?_
  refine x_iload_n dX2_hasWare_1 rfl ?_
  refine y_callV (as := [_]) okX2_has lkX2_79 dX2_hasWare_2 rfl (hk.1 0 (by decide)) (hk.2 0 (by decide)) (y_hasT hk hR hV hj) (by omega) rfl (by simp [Value.category]) (Nat.le_of_ble_eq_true rfl) rfl rfl (cat8 rfl) ?_
  refine x_if_eq 24 dX2_hasWare_5 (by decide) (fun c_5 => ?_) (fun c_5 => ?_)
  · exact absurd c_5 (by decide)
  · refine x_aload_n dX2_hasWare_8 rfl ?_
    refine y_getR fkX2_18 dX2_hasWare_9 (hk.1 0 (by decide)) (hk.2 0 (by decide)) rfl ?_
    refine x_iload_n dX2_hasWare_12 rfl ?_
    refine y_iald dX2_hasWare_13 (hk.1 3 (by decide)) (hk.2 3 (by decide)) (vp_in_nI (n := j) (by omega) (by decide)) ?_
    rw [nI_clamp (n := j) (by omega)]
    rw [(rt j hj).2.2.1]
    refine y_callSN (as := [_]) okX5_isKind nsX2_87 dX2_hasWare_14 rfl (y_isKindT (hV.2.1 j hj).2.2.1) (by omega) rfl (by simp [Value.category]) (Nat.le_of_ble_eq_true rfl) (cat8 rfl) ?_
    refine x_if_eq 24 dX2_hasWare_17 (by decide) (fun c_17 => ?_) (fun c_17 => ?_)
    · exact absurd c_17 (by decide)
    · refine x_iconstv (v := 1) dX2_hasWare_20 (by decide) ?_
      refine x_goto 25 dX2_hasWare_21 (by decide) ?_
      exact y_ret dX2_hasWare_25 rfl (rfl) (rfl) (rfl)
theorem y_daysLeft {o : Nat} (hk : IsMk o) {M : Mem} {V : Row} (hR : RM M o V) (hV : WF V) {j : Nat} (hj : j < nT V) : Y 2 mX2_daysLeft 0 (lent 2 [.ref o, .int (nI j)]) [] M (some (.int (dl V j))) M := by
  have hR0 := hR
  obtain ⟨⟨r7, r8, r9, r10, r11, r12, r13, r14, r15, r2⟩, rk, rt⟩ := hR0
  obtain ⟨hn1, hn2⟩ := WF_n hV
  refine x_aload_n dX2_daysLeft_0 rfl ?_
  refine x_iload_n dX2_daysLeft_1 rfl ?_
  refine y_callV (as := [_]) okX2_hasWare lkX2_94 dX2_daysLeft_2 rfl (hk.1 0 (by decide)) (hk.2 0 (by decide)) (y_hasWare hk hR hV hj) (by omega) rfl (by simp [Value.category]) (Nat.le_of_ble_eq_true rfl) rfl rfl (cat8 rfl) ?_
  refine x_if_eq 33 dX2_daysLeft_5 (by decide) (fun c_5 => ?_) (fun c_5 => ?_)
  · exact absurd c_5 (by decide)
  · refine x_iconstv (v := 0) dX2_daysLeft_8 (by decide) ?_
    refine x_aload_n dX2_daysLeft_9 rfl ?_
    refine y_getR fkX2_27 dX2_daysLeft_10 (hk.1 0 (by decide)) (hk.2 0 (by decide)) rfl ?_
    refine x_aload_n dX2_daysLeft_13 rfl ?_
    refine y_getR fkX2_18 dX2_daysLeft_14 (hk.1 0 (by decide)) (hk.2 0 (by decide)) rfl ?_
    refine x_iload_n dX2_daysLeft_17 rfl ?_
    refine y_iald dX2_daysLeft_18 (hk.1 3 (by decide)) (hk.2 3 (by decide)) (vp_in_nI (n := j) (by omega) (by decide)) ?_
    rw [nI_clamp (n := j) (by omega)]
    rw [(rt j hj).2.2.1]
    refine y_iald dX2_daysLeft_19 (hk.1 6 (by decide)) (hk.2 6 (by decide)) ((hV.2.1 j hj).2.2.1) ?_
    rw [show (V (24 + 5 * j)).toNatClampNeg = kd V j from rfl, (rk (kd V j) (vpin_lt (hV.2.1 j hj).2.2.1)).1]
    refine x_aload_n dX2_daysLeft_20 rfl ?_
    refine y_getR fkX2_21 dX2_daysLeft_21 (hk.1 0 (by decide)) (hk.2 0 (by decide)) rfl ?_
    refine x_iload_n dX2_daysLeft_24 rfl ?_
    refine y_iald dX2_daysLeft_25 (hk.1 4 (by decide)) (hk.2 4 (by decide)) (vp_in_nI (n := j) (by omega) (by decide)) ?_
    rw [nI_clamp (n := j) (by omega)]
    rw [(rt j hj).2.2.2.1]
    refine x_isub dX2_daysLeft_26 ?_
    refine x_mmax lkX2_97 dX2_daysLeft_27 (by omega) (cat8 rfl) ?_
    refine x_goto 34 dX2_daysLeft_30 (by decide) ?_
    exact y_ret dX2_daysLeft_34 rfl (rfl) (rfl) (rfl)
theorem y_hasSound {o : Nat} (hk : IsMk o) {M : Mem} {V : Row} (hR : RM M o V) (hV : WF V) {j : Nat} (hj : j < nT V) : Y 3 mX2_hasSoundWare 0 (lent 2 [.ref o, .int (nI j)]) [] M (some (.int (b2i (decide (0 < dli V j))))) M := by
  refine x_aload_n dX2_hasSoundWare_0 rfl ?_
  refine x_iload_n dX2_hasSoundWare_1 rfl ?_
  refine y_callV (as := [_]) okX2_daysLeft lkX2_90 dX2_hasSoundWare_2 rfl (hk.1 0 (by decide)) (hk.2 0 (by decide)) (y_daysLeft hk hR hV hj) (by omega) rfl (by simp [Value.category]) (Nat.le_of_ble_eq_true rfl) rfl rfl (cat8 rfl) ?_
  refine x_if_le 12 dX2_hasSoundWare_5 (by decide) (fun c_5 => ?_) (fun c_5 => ?_)
  · refine x_iconstv (v := 0) dX2_hasSoundWare_12 (by decide) ?_
    exact y_ret dX2_hasSoundWare_13 rfl (rfl) (by rw [dl_pos] at c_5; simp_all [b2i]) (rfl)
  · refine x_iconstv (v := 1) dX2_hasSoundWare_8 (by decide) ?_
    refine x_goto 13 dX2_hasSoundWare_9 (by decide) ?_
    exact y_ret dX2_hasSoundWare_13 rfl (rfl) (by rw [dl_pos] at c_5; simp_all [b2i]) (rfl)
theorem y_wants {o : Nat} (hk : IsMk o) {M : Mem} {V : Row} (hR : RM M o V) (hV : WF V) {t g : Nat} (ht : t < nT V) (hg : g < nT V) : Y 2 mX2_wantsWareOf 0 (lent 3 [.ref o, .int (nI t), .int (nI g)]) [] M (some (.int (b2i (decide (wb V t g = 1))))) M := by
  have hR0 := hR
  obtain ⟨⟨r7, r8, r9, r10, r11, r12, r13, r14, r15, r2⟩, rk, rt⟩ := hR0
  obtain ⟨hn1, hn2⟩ := WF_n hV
  refine x_aload_n dX2_wantsWareOf_0 rfl ?_
  refine x_iload_n dX2_wantsWareOf_1 rfl ?_
  refine y_callV (as := [_]) okX2_hasWare lkX2_94 dX2_wantsWareOf_2 rfl (hk.1 0 (by decide)) (hk.2 0 (by decide)) (y_hasWare hk hR hV hg) (by omega) rfl (by simp [Value.category]) (Nat.le_of_ble_eq_true rfl) rfl rfl (cat8 rfl) ?_
  refine x_if_eq 38 dX2_wantsWareOf_5 (by decide) (fun c_5 => ?_) (fun c_5 => ?_)
  · exact absurd c_5 (by decide)
  · refine x_aload_n dX2_wantsWareOf_8 rfl ?_
    refine x_iload_n dX2_wantsWareOf_9 rfl ?_
    refine y_callV (as := [_]) okX2_has lkX2_79 dX2_wantsWareOf_10 rfl (hk.1 0 (by decide)) (hk.2 0 (by decide)) (y_hasT hk hR hV ht) (by omega) rfl (by simp [Value.category]) (Nat.le_of_ble_eq_true rfl) rfl rfl (cat8 rfl) ?_
    refine x_if_eq 38 dX2_wantsWareOf_13 (by decide) (fun c_13 => ?_) (fun c_13 => ?_)
    · exact absurd c_13 (by decide)
    · refine x_aload_n dX2_wantsWareOf_16 rfl ?_
      refine y_getR fkX2_15 dX2_wantsWareOf_17 (hk.1 0 (by decide)) (hk.2 0 (by decide)) rfl ?_
      refine x_iload_n dX2_wantsWareOf_20 rfl ?_
      refine y_iald dX2_wantsWareOf_21 (hk.1 2 (by decide)) (hk.2 2 (by decide)) (vp_in_nI (n := t) (by omega) (by decide)) ?_
      rw [nI_clamp (n := t) (by omega)]
      rw [(rt t ht).2.1]
      refine x_aload_n dX2_wantsWareOf_22 rfl ?_
      refine y_getR fkX2_18 dX2_wantsWareOf_23 (hk.1 0 (by decide)) (hk.2 0 (by decide)) rfl ?_
      refine x_iload_n dX2_wantsWareOf_26 rfl ?_
      refine y_iald dX2_wantsWareOf_27 (hk.1 3 (by decide)) (hk.2 3 (by decide)) (vp_in_nI (n := g) (by omega) (by decide)) ?_
      rw [nI_clamp (n := g) (by omega)]
      rw [(rt g hg).2.2.1]
      refine y_callSN (as := [_, _]) okX5_holds nsX2_103 dX2_wantsWareOf_28 rfl (y_holds) (by omega) rfl (by simp [Value.category]) (Nat.le_of_ble_eq_true rfl) (cat8 rfl) ?_
      refine x_if_eq 38 dX2_wantsWareOf_31 (by decide) (fun c_31 => ?_) (fun c_31 => ?_)
      · refine x_iconstv (v := 0) dX2_wantsWareOf_38 (by decide) ?_
        exact y_ret dX2_wantsWareOf_39 rfl (rfl) (by rcases wb_01 V t g with q | q <;> simp_all [b2i_z, b2i, wb]) (rfl)
      · refine x_iconstv (v := 1) dX2_wantsWareOf_34 (by decide) ?_
        refine x_goto 39 dX2_wantsWareOf_35 (by decide) ?_
        exact y_ret dX2_wantsWareOf_39 rfl (rfl) (by rcases wb_01 V t g with q | q <;> simp_all [b2i_z, b2i, wb]) (rfl)
theorem y_mayBarter {o : Nat} (hk : IsMk o) {M : Mem} {V : Row} (hR : RM M o V) (hV : WF V) {j : Nat} (hj : j < nT V) : Y 4 mX2_mayBarter 0 (lent 2 [.ref o, .int (nI j)]) [] M (some (.int (b2i (decide (V 9 ≠ nI j) && decide (0 < dli V j))))) M := by
  have hsh := sh_eq hR hV hj
  refine x_iload_n dX2_mayBarter_0 rfl ?_
  refine x_aload_n dX2_mayBarter_1 rfl ?_
  refine y_getI fkX2_40 dX2_mayBarter_2 (hk.1 0 (by decide)) (hk.2 0 (by decide)) rfl ?_
  refine x_icmp_eq 20 dX2_mayBarter_5 (by decide) (fun c_5 => ?_) (fun c_5 => ?_)
  · refine x_iconstv (v := 0) dX2_mayBarter_20 (by decide) ?_
    exact y_ret dX2_mayBarter_21 rfl (rfl) (by simp_all [b2i_z, b2i]) (rfl)
  · refine x_aload_n dX2_mayBarter_8 rfl ?_
    refine x_iload_n dX2_mayBarter_9 rfl ?_
    refine y_callV (as := [_]) okX2_hasSoundWare lkX2_107 dX2_mayBarter_10 rfl (hk.1 0 (by decide)) (hk.2 0 (by decide)) (y_hasSound hk hR hV hj) (by omega) rfl (by simp [Value.category]) (Nat.le_of_ble_eq_true rfl) rfl rfl (cat8 rfl) ?_
    refine x_if_eq 20 dX2_mayBarter_13 (by decide) (fun c_13 => ?_) (fun c_13 => ?_)
    · refine x_iconstv (v := 0) dX2_mayBarter_20 (by decide) ?_
      exact y_ret dX2_mayBarter_21 rfl (rfl) (by simp_all [b2i_z, b2i]) (rfl)
    · refine x_iconstv (v := 1) dX2_mayBarter_16 (by decide) ?_
      refine x_goto 21 dX2_mayBarter_17 (by decide) ?_
      exact y_ret dX2_mayBarter_21 rfl (rfl) (by simp_all [b2i_z, b2i]) (rfl)
theorem y_canTake {o : Nat} (hk : IsMk o) {M : Mem} {V : Row} (hR : RM M o V) (hV : WF V) {t g : Nat} (ht : t < nT V) (hg : g < nT V) : Y 5 mX2_canTake 0 (lent 3 [.ref o, .int (nI t), .int (nI g)]) [] M (some (.int (b2i (canV V t g)))) M := by
  have htg := nI_eq (n31 hV (Nat.le_of_lt ht)) (n31 hV (Nat.le_of_lt hg))
  refine x_iload_n dX2_canTake_0 rfl ?_
  refine x_iload_n dX2_canTake_1 rfl ?_
  refine x_icmp_eq 34 dX2_canTake_2 (by decide) (fun c_2 => ?_) (fun c_2 => ?_)
  · refine x_iconstv (v := 0) dX2_canTake_34 (by decide) ?_
    exact y_ret dX2_canTake_35 rfl (rfl) (by first | (simp_all [b2i_z, b2i, canV]; done) | (simp_all [b2i_z, b2i, canV] <;> grind) | grind [b2i, canV]) (rfl)
  · refine x_aload_n dX2_canTake_5 rfl ?_
    refine x_iload_n dX2_canTake_6 rfl ?_
    refine y_callV (as := [_]) okX2_mayBarter lkX2_110 dX2_canTake_7 rfl (hk.1 0 (by decide)) (hk.2 0 (by decide)) (y_mayBarter hk hR hV ht) (by omega) rfl (by simp [Value.category]) (Nat.le_of_ble_eq_true rfl) rfl rfl (cat8 rfl) ?_
    refine x_if_eq 34 dX2_canTake_10 (by decide) (fun c_10 => ?_) (fun c_10 => ?_)
    · refine x_iconstv (v := 0) dX2_canTake_34 (by decide) ?_
      exact y_ret dX2_canTake_35 rfl (rfl) (by first | (simp_all [b2i_z, b2i, canV]; done) | (simp_all [b2i_z, b2i, canV] <;> grind) | grind [b2i, canV]) (rfl)
    · refine x_aload_n dX2_canTake_13 rfl ?_
      refine x_iload_n dX2_canTake_14 rfl ?_
      refine y_callV (as := [_]) okX2_mayBarter lkX2_110 dX2_canTake_15 rfl (hk.1 0 (by decide)) (hk.2 0 (by decide)) (y_mayBarter hk hR hV hg) (by omega) rfl (by simp [Value.category]) (Nat.le_of_ble_eq_true rfl) rfl rfl (cat8 rfl) ?_
      refine x_if_eq 34 dX2_canTake_18 (by decide) (fun c_18 => ?_) (fun c_18 => ?_)
      · refine x_iconstv (v := 0) dX2_canTake_34 (by decide) ?_
        exact y_ret dX2_canTake_35 rfl (rfl) (by first | (simp_all [b2i_z, b2i, canV]; done) | (simp_all [b2i_z, b2i, canV] <;> grind) | grind [b2i, canV]) (rfl)
      · refine x_aload_n dX2_canTake_21 rfl ?_
        refine x_iload_n dX2_canTake_22 rfl ?_
        refine x_iload_n dX2_canTake_23 rfl ?_
        refine y_callV (as := [_, _]) okX2_wantsWareOf lkX2_113 dX2_canTake_24 rfl (hk.1 0 (by decide)) (hk.2 0 (by decide)) (y_wants hk hR hV ht hg) (by omega) rfl (by simp [Value.category]) (Nat.le_of_ble_eq_true rfl) rfl rfl (cat8 rfl) ?_
        refine x_if_eq 34 dX2_canTake_27 (by decide) (fun c_27 => ?_) (fun c_27 => ?_)
        · refine x_iconstv (v := 0) dX2_canTake_34 (by decide) ?_
          exact y_ret dX2_canTake_35 rfl (rfl) (by first | (simp_all [b2i_z, b2i, canV]; done) | (simp_all [b2i_z, b2i, canV] <;> grind) | grind [b2i, canV]) (rfl)
        · refine x_iconstv (v := 1) dX2_canTake_30 (by decide) ?_
          refine x_goto 35 dX2_canTake_31 (by decide) ?_
          exact y_ret dX2_canTake_35 rfl (rfl) (by first | (simp_all [b2i_z, b2i, canV]; done) | (simp_all [b2i_z, b2i, canV] <;> grind) | grind [b2i, canV]) (rfl)
theorem y_refusal {o : Nat} (hk : IsMk o) {M : Mem} {V : Row} (hR : RM M o V) (hV : WF V) {a b : Nat} (ha : a < nT V) (hb : b < nT V) : Y 4 mX2_refusal 0 (lent 3 [.ref o, .int (nI a), .int (nI b)]) [] M (some (.int (rsn V a b))) M := by
  have hsa := sh_eq hR hV ha
  have hsb := sh_eq hR hV hb
  refine x_iload_n dX2_refusal_0 rfl ?_
  refine x_aload_n dX2_refusal_1 rfl ?_
  refine y_getI fkX2_40 dX2_refusal_2 (hk.1 0 (by decide)) (hk.2 0 (by decide)) rfl ?_
  refine x_icmp_eq 16 dX2_refusal_5 (by decide) (fun c_5 => ?_) (fun c_5 => ?_)
  · refine x_iconstv (v := 1) dX2_refusal_16 (by decide) ?_
    exact y_ret dX2_refusal_17 rfl (rfl) (by simp_all [b2i_z, b2i, rsn]) (rfl)
  · refine x_iload_n dX2_refusal_8 rfl ?_
    refine x_aload_n dX2_refusal_9 rfl ?_
    refine y_getI fkX2_40 dX2_refusal_10 (hk.1 0 (by decide)) (hk.2 0 (by decide)) rfl ?_
    refine x_icmp_ne 18 dX2_refusal_13 (by decide) (fun c_13 => ?_) (fun c_13 => ?_)
    · refine x_aload_n dX2_refusal_18 rfl ?_
      refine x_iload_n dX2_refusal_19 rfl ?_
      refine y_callV (as := [_]) okX2_hasSoundWare lkX2_107 dX2_refusal_20 rfl (hk.1 0 (by decide)) (hk.2 0 (by decide)) (y_hasSound hk hR hV ha) (by omega) rfl (by simp [Value.category]) (Nat.le_of_ble_eq_true rfl) rfl rfl (cat8 rfl) ?_
      refine x_if_eq 34 dX2_refusal_23 (by decide) (fun c_23 => ?_) (fun c_23 => ?_)
      · refine x_iconstv (v := 2) dX2_refusal_34 (by decide) ?_
        exact y_ret dX2_refusal_35 rfl (rfl) (by simp_all [b2i_z, b2i, rsn]) (rfl)
      · refine x_aload_n dX2_refusal_26 rfl ?_
        refine x_iload_n dX2_refusal_27 rfl ?_
        refine y_callV (as := [_]) okX2_hasSoundWare lkX2_107 dX2_refusal_28 rfl (hk.1 0 (by decide)) (hk.2 0 (by decide)) (y_hasSound hk hR hV hb) (by omega) rfl (by simp [Value.category]) (Nat.le_of_ble_eq_true rfl) rfl rfl (cat8 rfl) ?_
        refine x_if_ne 36 dX2_refusal_31 (by decide) (fun c_31 => ?_) (fun c_31 => ?_)
        · refine x_aload_n dX2_refusal_36 rfl ?_
          refine x_iload_n dX2_refusal_37 rfl ?_
          refine x_iload_n dX2_refusal_38 rfl ?_
          refine y_callV (as := [_, _]) okX2_wantsWareOf lkX2_113 dX2_refusal_39 rfl (hk.1 0 (by decide)) (hk.2 0 (by decide)) (y_wants hk hR hV ha hb) (by omega) rfl (by simp [Value.category]) (Nat.le_of_ble_eq_true rfl) rfl rfl (cat8 rfl) ?_
          refine x_if_ne 47 dX2_refusal_42 (by decide) (fun c_42 => ?_) (fun c_42 => ?_)
          · refine x_aload_n dX2_refusal_47 rfl ?_
            refine x_iload_n dX2_refusal_48 rfl ?_
            refine x_iload_n dX2_refusal_49 rfl ?_
            refine y_callV (as := [_, _]) okX2_wantsWareOf lkX2_113 dX2_refusal_50 rfl (hk.1 0 (by decide)) (hk.2 0 (by decide)) (y_wants hk hR hV hb ha) (by omega) rfl (by simp [Value.category]) (Nat.le_of_ble_eq_true rfl) rfl rfl (cat8 rfl) ?_
            refine x_if_eq 60 dX2_refusal_53 (by decide) (fun c_53 => ?_) (fun c_53 => ?_)
            · refine x_iconstv (v := 4) dX2_refusal_60 (by decide) ?_
              exact y_ret dX2_refusal_61 rfl (rfl) (by simp_all [b2i_z, b2i, rsn]) (rfl)
            · refine x_iconstv (v := 0) dX2_refusal_56 (by decide) ?_
              refine x_goto 61 dX2_refusal_57 (by decide) ?_
              exact y_ret dX2_refusal_61 rfl (rfl) (by simp_all [b2i_z, b2i, rsn]) (rfl)
          · refine x_iconstv (v := 3) dX2_refusal_45 (by decide) ?_
            exact y_ret dX2_refusal_46 rfl (rfl) (by simp_all [b2i_z, b2i, rsn]) (rfl)
        · refine x_iconstv (v := 2) dX2_refusal_34 (by decide) ?_
          exact y_ret dX2_refusal_35 rfl (rfl) (by simp_all [b2i_z, b2i, rsn]) (rfl)
    · refine x_iconstv (v := 1) dX2_refusal_16 (by decide) ?_
      exact y_ret dX2_refusal_17 rfl (rfl) (by simp_all [b2i_z, b2i, rsn]) (rfl)
theorem y_giversOf_loop {o : Nat} (hk : IsMk o) {M : Mem} {V : Row} (hR : RM M o V) (hV : WF V) {t : Nat} (ht : t < nT V) : ∀ (fu i : Nat) (acc x : Int32), i ≤ nT V → nT V - i < fu → x = nI i → acc = gvm V t i → Y 6 mX2_giversOf 4 [some (.ref o), some (.int (nI t)), some (.int acc), some (.int x)] [] M (some (.int (gv V t))) M := by
  have hR0 := hR
  obtain ⟨⟨r7, r8, r9, r10, r11, r12, r13, r14, r15, r2⟩, rk, rt⟩ := hR0
  obtain ⟨hn1, hn2⟩ := WF_n hV
  intro fu
  induction fu with
  | zero => intro i acc x h1 h2; omega
  | succ fu ih =>
    intro i acc x h1 h2 hx ha9
    subst hx
    refine x_iload_n dX2_giversOf_4 rfl ?_
    refine x_aload_n dX2_giversOf_5 rfl ?_
    refine y_getI fkX2_61 dX2_giversOf_6 (hk.1 0 (by decide)) (hk.2 0 (by decide)) rfl ?_
    refine x_icmp_ge 33 dX2_giversOf_9 (by decide) (fun c_9 => ?_) (fun c_9 => ?_)
    · have he := lp_eq hV r7 h1 c_9
      subst he
      refine x_iload_n dX2_giversOf_33 rfl ?_
      exact y_ret dX2_giversOf_34 rfl (rfl) (ha9) (rfl)
    · have hlt := lp_lt hV r7 h1 c_9
      refine x_aload_n dX2_giversOf_12 rfl ?_
      refine x_iload_n dX2_giversOf_13 rfl ?_
      refine x_iload_n dX2_giversOf_14 rfl ?_
      refine y_callV (as := [_, _]) okX2_canTake lkX2_116 dX2_giversOf_15 rfl (hk.1 0 (by decide)) (hk.2 0 (by decide)) (y_canTake hk hR hV ht hlt) (by omega) rfl (by simp [Value.category]) (Nat.le_of_ble_eq_true rfl) rfl rfl (cat8 rfl) ?_
      refine x_if_eq 27 dX2_giversOf_18 (by decide) (fun c_18 => ?_) (fun c_18 => ?_)
      · refine x_iincv (v := 1) dX2_giversOf_27 rfl (by decide) rfl (by decide) ?_
        refine x_goto 4 dX2_giversOf_30 (by decide) ?_
        exact ih (i + 1) _ _ (by omega) (by omega) (by rw [nI_1]) (by simp_all [gvm, b2i_z])
      · refine x_iload_n dX2_giversOf_21 rfl ?_
        refine x_iload_n dX2_giversOf_22 rfl ?_
        refine y_callSN (as := [_, _]) okX5_with nsX2_119 dX2_giversOf_23 rfl (y_with) (by omega) rfl (by simp [Value.category]) (Nat.le_of_ble_eq_true rfl) (cat8 rfl) ?_
        refine x_istore_n dX2_giversOf_26 (by decide) rfl ?_
        refine x_iincv (v := 1) dX2_giversOf_27 rfl (by decide) rfl (by decide) ?_
        refine x_goto 4 dX2_giversOf_30 (by decide) ?_
        exact ih (i + 1) _ _ (by omega) (by omega) (by rw [nI_1]) (by simp_all [gvm, b2i_z])
theorem y_giversOf {o : Nat} (hk : IsMk o) {M : Mem} {V : Row} (hR : RM M o V) (hV : WF V) {t : Nat} (ht : t < nT V) : Y 6 mX2_giversOf 0 (lent 4 [.ref o, .int (nI t)]) [] M (some (.int (gv V t))) M := by
  refine x_iconstv (v := 0) dX2_giversOf_0 (by decide) ?_
  refine x_istore_n dX2_giversOf_1 (by decide) rfl ?_
  refine x_iconstv (v := 0) dX2_giversOf_2 (by decide) ?_
  refine x_istore_n dX2_giversOf_3 (by decide) rfl ?_
  exact y_giversOf_loop hk hR hV ht (nT V + 1) 0 0 0 (Nat.zero_le _) (by omega) rfl rfl
theorem y_nTakers_loop {o : Nat} (hk : IsMk o) {M : Mem} {V : Row} (hR : RM M o V) (hV : WF V) {g : Nat} (hg : g < nT V) : ∀ (fu i : Nat) (acc x : Int32), i ≤ nT V → nT V - i < fu → x = nI i → acc = sumF (fun t => b2i (canV V t g)) i → Y 6 mX2_numberOfTakers 4 [some (.ref o), some (.int (nI g)), some (.int acc), some (.int x)] [] M (some (.int (sumF (fun t => b2i (canV V t g)) (nT V)))) M := by
  have hR0 := hR
  obtain ⟨⟨r7, r8, r9, r10, r11, r12, r13, r14, r15, r2⟩, rk, rt⟩ := hR0
  obtain ⟨hn1, hn2⟩ := WF_n hV
  intro fu
  induction fu with
  | zero => intro i acc x h1 h2; omega
  | succ fu ih =>
    intro i acc x h1 h2 hx ha9
    subst hx
    refine x_iload_n dX2_numberOfTakers_4 rfl ?_
    refine x_aload_n dX2_numberOfTakers_5 rfl ?_
    refine y_getI fkX2_61 dX2_numberOfTakers_6 (hk.1 0 (by decide)) (hk.2 0 (by decide)) rfl ?_
    refine x_icmp_ge 30 dX2_numberOfTakers_9 (by decide) (fun c_9 => ?_) (fun c_9 => ?_)
    · have he := lp_eq hV r7 h1 c_9
      subst he
      refine x_iload_n dX2_numberOfTakers_30 rfl ?_
      exact y_ret dX2_numberOfTakers_31 rfl (rfl) (ha9) (rfl)
    · have hlt := lp_lt hV r7 h1 c_9
      refine x_aload_n dX2_numberOfTakers_12 rfl ?_
      refine x_iload_n dX2_numberOfTakers_13 rfl ?_
      refine x_iload_n dX2_numberOfTakers_14 rfl ?_
      refine y_callV (as := [_, _]) okX2_canTake lkX2_116 dX2_numberOfTakers_15 rfl (hk.1 0 (by decide)) (hk.2 0 (by decide)) (y_canTake hk hR hV hlt hg) (by omega) rfl (by simp [Value.category]) (Nat.le_of_ble_eq_true rfl) rfl rfl (cat8 rfl) ?_
      refine x_if_eq 24 dX2_numberOfTakers_18 (by decide) (fun c_18 => ?_) (fun c_18 => ?_)
      · refine x_iincv (v := 1) dX2_numberOfTakers_24 rfl (by decide) rfl (by decide) ?_
        refine x_goto 4 dX2_numberOfTakers_27 (by decide) ?_
        exact ih (i + 1) _ _ (by omega) (by omega) (by rw [nI_1]) (by simp_all [sumF, b2i_z, b2i])
      · refine x_iincv (v := 1) dX2_numberOfTakers_21 rfl (by decide) rfl (by decide) ?_
        refine x_iincv (v := 1) dX2_numberOfTakers_24 rfl (by decide) rfl (by decide) ?_
        refine x_goto 4 dX2_numberOfTakers_27 (by decide) ?_
        exact ih (i + 1) _ _ (by omega) (by omega) (by rw [nI_1]) (by simp_all [sumF, b2i_z, b2i])
theorem y_nTakers {o : Nat} (hk : IsMk o) {M : Mem} {V : Row} (hR : RM M o V) (hV : WF V) {g : Nat} (hg : g < nT V) : Y 6 mX2_numberOfTakers 0 (lent 4 [.ref o, .int (nI g)]) [] M (some (.int (sumF (fun t => b2i (canV V t g)) (nT V)))) M := by
  refine x_iconstv (v := 0) dX2_numberOfTakers_0 (by decide) ?_
  refine x_istore_n dX2_numberOfTakers_1 (by decide) rfl ?_
  refine x_iconstv (v := 0) dX2_numberOfTakers_2 (by decide) ?_
  refine x_istore_n dX2_numberOfTakers_3 (by decide) rfl ?_
  exact y_nTakers_loop hk hR hV hg (nT V + 1) 0 0 0 (Nat.zero_le _) (by omega) rfl rfl
end
section
def ind (p : Prop) [Decidable p] : Int32 := if p then 1 else 0
def bits7 (x : Int32) : Int32 := sumF (fun k => x >>> (nI k &&& 31) &&& 1) 7
theorem bc_bits {x : Int32} (h : vp_in x 128) : bc x = bits7 x := by
  obtain ⟨j, hj, rfl⟩ := vp_in_of h (by decide)
  have h1 : ∀ j : Fin 128, bc (nI j.val) = bits7 (nI j.val) := by decide +kernel
  exact h1 ⟨j, hj⟩
def needsV (V : Row) : Int32 := sumF (fun t => bits7 (V (23 + 5 * t))) (nT V)
def waresV (V : Row) (k : Int32) : Int32 := sumF (fun t => ind (V (24 + 5 * t) = k)) (nT V)
def swaresV (V : Row) (k : Int32) : Int32 := sumF (fun t => ind (V (24 + 5 * t) = k ∧ 0 < dli V t)) (nT V)
def soundV (V : Row) : Int32 := sumF (fun t => ind (0 < dli V t)) (nT V)
def spoiltV (V : Row) : Int32 := sumF (fun t => ind (¬ 0 < dli V t)) (nT V)
def daysV (V : Row) : Int32 := sumF (fun t => dl V t) (nT V)
def wantV (V : Row) (k : Int32) : Int32 := sumF (fun t => ind (V (23 + 5 * t) >>> (k &&& 31) &&& 1 = 1)) (nT V)
def makeV (V : Row) (k : Int32) : Int32 := sumF (fun t => ind (V (22 + 5 * t) = k)) (nT V)
def stuckV (V : Row) : Int32 := sumF (fun t => ind (¬ V (23 + 5 * t) = 0 ∧ gv V t = 0)) (nT V)
end
section
theorem y_needs_loop {o : Nat} (hk : IsMk o) {M : Mem} {V : Row} (hR : RM M o V) (hV : WF V)  : ∀ (fu i : Nat) (acc x : Int32), i ≤ nT V → nT V - i < fu → x = nI i → acc = sumF (fun t => bits7 (V (23 + 5 * t))) i → Y 1 mX2_needs 4 [some (.ref o), some (.int acc), some (.int x)] [] M (some (.int (needsV V))) M := by
  have hR0 := hR
  obtain ⟨⟨r7, r8, r9, r10, r11, r12, r13, r14, r15, r2⟩, rk, rt⟩ := hR0
  obtain ⟨hn1, hn2⟩ := WF_n hV
  intro fu
  induction fu with
  | zero => intro i acc x h1 h2; omega
  | succ fu ih =>
    intro i acc x h1 h2 hx ha9
    subst hx
    refine x_iload_n dX2_needs_4 rfl ?_
    refine x_aload_n dX2_needs_5 rfl ?_
    refine y_getI fkX2_61 dX2_needs_6 (hk.1 0 (by decide)) (hk.2 0 (by decide)) rfl ?_
    refine x_icmp_ge 30 dX2_needs_9 (by decide) (fun c_9 => ?_) (fun c_9 => ?_)
    · have he := lp_eq hV r7 h1 c_9
      subst he
      refine x_iload_n dX2_needs_30 rfl ?_
      exact y_ret dX2_needs_31 rfl (rfl) (ha9) (rfl)
    · have hlt := lp_lt hV r7 h1 c_9
      refine x_iload_n dX2_needs_12 rfl ?_
      refine x_aload_n dX2_needs_13 rfl ?_
      refine y_getR fkX2_15 dX2_needs_14 (hk.1 0 (by decide)) (hk.2 0 (by decide)) rfl ?_
      refine x_iload_n dX2_needs_17 rfl ?_
      refine y_iald dX2_needs_18 (hk.1 2 (by decide)) (hk.2 2 (by decide)) (vp_in_nI (n := i) (by omega) (by decide)) ?_
      rw [nI_clamp (n := i) (by omega)]
      rw [(rt i hlt).2.1]
      refine y_callS (as := [_]) okJ6_bitCount_0f7a4 lkX2_138 dX2_needs_19 rfl (y_bitCount) (by omega) rfl (by simp [Value.category]) (Nat.le_of_ble_eq_true rfl) (cat8 rfl) ?_
      rw [bc_bits (vpin_le (hV.2.1 i hlt).2.1 (by decide))]
      refine x_iadd dX2_needs_22 ?_
      refine x_istore_n dX2_needs_23 (by decide) rfl ?_
      refine x_iincv (v := 1) dX2_needs_24 rfl (by decide) rfl (by decide) ?_
      refine x_goto 4 dX2_needs_27 (by decide) ?_
      exact ih (i + 1) _ _ (by omega) (by omega) (by rw [nI_1]) (by first | (simp_all [sumF, ind, b2i_z, b2i]; done) | (simp_all [sumF, ind, b2i_z, b2i] <;> grind))
theorem y_needs {o : Nat} (hk : IsMk o) {M : Mem} {V : Row} (hR : RM M o V) (hV : WF V)  : Y 1 mX2_needs 0 (lent 3 [.ref o]) [] M (some (.int (needsV V))) M := by
  refine x_iconstv (v := 0) dX2_needs_0 (by decide) ?_
  refine x_istore_n dX2_needs_1 (by decide) rfl ?_
  refine x_iconstv (v := 0) dX2_needs_2 (by decide) ?_
  refine x_istore_n dX2_needs_3 (by decide) rfl ?_
  exact y_needs_loop hk hR hV (nT V + 1) 0 0 0 (Nat.zero_le _) (by omega) rfl rfl
theorem y_soundWares_loop {o : Nat} (hk : IsMk o) {M : Mem} {V : Row} (hR : RM M o V) (hV : WF V)  : ∀ (fu i : Nat) (acc x : Int32), i ≤ nT V → nT V - i < fu → x = nI i → acc = sumF (fun t => ind (0 < dli V t)) i → Y 4 mX2_soundWares 4 [some (.ref o), some (.int acc), some (.int x)] [] M (some (.int (soundV V))) M := by
  have hR0 := hR
  obtain ⟨⟨r7, r8, r9, r10, r11, r12, r13, r14, r15, r2⟩, rk, rt⟩ := hR0
  obtain ⟨hn1, hn2⟩ := WF_n hV
  intro fu
  induction fu with
  | zero => intro i acc x h1 h2; omega
  | succ fu ih =>
    intro i acc x h1 h2 hx ha9
    subst hx
    refine x_iload_n dX2_soundWares_4 rfl ?_
    refine x_aload_n dX2_soundWares_5 rfl ?_
    refine y_getI fkX2_61 dX2_soundWares_6 (hk.1 0 (by decide)) (hk.2 0 (by decide)) rfl ?_
    refine x_icmp_ge 29 dX2_soundWares_9 (by decide) (fun c_9 => ?_) (fun c_9 => ?_)
    · have he := lp_eq hV r7 h1 c_9
      subst he
      refine x_iload_n dX2_soundWares_29 rfl ?_
      exact y_ret dX2_soundWares_30 rfl (rfl) (ha9) (rfl)
    · have hlt := lp_lt hV r7 h1 c_9
      refine x_aload_n dX2_soundWares_12 rfl ?_
      refine x_iload_n dX2_soundWares_13 rfl ?_
      refine y_callV (as := [_]) okX2_hasSoundWare lkX2_107 dX2_soundWares_14 rfl (hk.1 0 (by decide)) (hk.2 0 (by decide)) (y_hasSound hk hR hV hlt) (by omega) rfl (by simp [Value.category]) (Nat.le_of_ble_eq_true rfl) rfl rfl (cat8 rfl) ?_
      refine x_if_eq 23 dX2_soundWares_17 (by decide) (fun c_17 => ?_) (fun c_17 => ?_)
      · refine x_iincv (v := 1) dX2_soundWares_23 rfl (by decide) rfl (by decide) ?_
        refine x_goto 4 dX2_soundWares_26 (by decide) ?_
        exact ih (i + 1) _ _ (by omega) (by omega) (by rw [nI_1]) (by first | (simp_all [sumF, ind, b2i_z, b2i]; done) | (simp_all [sumF, ind, b2i_z, b2i] <;> grind))
      · refine x_iincv (v := 1) dX2_soundWares_20 rfl (by decide) rfl (by decide) ?_
        refine x_iincv (v := 1) dX2_soundWares_23 rfl (by decide) rfl (by decide) ?_
        refine x_goto 4 dX2_soundWares_26 (by decide) ?_
        exact ih (i + 1) _ _ (by omega) (by omega) (by rw [nI_1]) (by first | (simp_all [sumF, ind, b2i_z, b2i]; done) | (simp_all [sumF, ind, b2i_z, b2i] <;> grind))
theorem y_soundWares {o : Nat} (hk : IsMk o) {M : Mem} {V : Row} (hR : RM M o V) (hV : WF V)  : Y 4 mX2_soundWares 0 (lent 3 [.ref o]) [] M (some (.int (soundV V))) M := by
  refine x_iconstv (v := 0) dX2_soundWares_0 (by decide) ?_
  refine x_istore_n dX2_soundWares_1 (by decide) rfl ?_
  refine x_iconstv (v := 0) dX2_soundWares_2 (by decide) ?_
  refine x_istore_n dX2_soundWares_3 (by decide) rfl ?_
  exact y_soundWares_loop hk hR hV (nT V + 1) 0 0 0 (Nat.zero_le _) (by omega) rfl rfl
theorem y_spoiltWares_loop {o : Nat} (hk : IsMk o) {M : Mem} {V : Row} (hR : RM M o V) (hV : WF V)  : ∀ (fu i : Nat) (acc x : Int32), i ≤ nT V → nT V - i < fu → x = nI i → acc = sumF (fun t => ind (¬ 0 < dli V t)) i → Y 4 mX2_spoiltWares 4 [some (.ref o), some (.int acc), some (.int x)] [] M (some (.int (spoiltV V))) M := by
  have hR0 := hR
  obtain ⟨⟨r7, r8, r9, r10, r11, r12, r13, r14, r15, r2⟩, rk, rt⟩ := hR0
  obtain ⟨hn1, hn2⟩ := WF_n hV
  intro fu
  induction fu with
  | zero => intro i acc x h1 h2; omega
  | succ fu ih =>
    intro i acc x h1 h2 hx ha9
    subst hx
    refine x_iload_n dX2_spoiltWares_4 rfl ?_
    refine x_aload_n dX2_spoiltWares_5 rfl ?_
    refine y_getI fkX2_61 dX2_spoiltWares_6 (hk.1 0 (by decide)) (hk.2 0 (by decide)) rfl ?_
    refine x_icmp_ge 37 dX2_spoiltWares_9 (by decide) (fun c_9 => ?_) (fun c_9 => ?_)
    · have he := lp_eq hV r7 h1 c_9
      subst he
      refine x_iload_n dX2_spoiltWares_37 rfl ?_
      exact y_ret dX2_spoiltWares_38 rfl (rfl) (ha9) (rfl)
    · have hlt := lp_lt hV r7 h1 c_9
      refine x_aload_n dX2_spoiltWares_12 rfl ?_
      refine x_iload_n dX2_spoiltWares_13 rfl ?_
      refine y_callV (as := [_]) okX2_hasWare lkX2_94 dX2_spoiltWares_14 rfl (hk.1 0 (by decide)) (hk.2 0 (by decide)) (y_hasWare hk hR hV hlt) (by omega) rfl (by simp [Value.category]) (Nat.le_of_ble_eq_true rfl) rfl rfl (cat8 rfl) ?_
      refine x_if_eq 31 dX2_spoiltWares_17 (by decide) (fun c_17 => ?_) (fun c_17 => ?_)
      · exact absurd c_17 (by decide)
      · refine x_aload_n dX2_spoiltWares_20 rfl ?_
        refine x_iload_n dX2_spoiltWares_21 rfl ?_
        refine y_callV (as := [_]) okX2_hasSoundWare lkX2_107 dX2_spoiltWares_22 rfl (hk.1 0 (by decide)) (hk.2 0 (by decide)) (y_hasSound hk hR hV hlt) (by omega) rfl (by simp [Value.category]) (Nat.le_of_ble_eq_true rfl) rfl rfl (cat8 rfl) ?_
        refine x_if_ne 31 dX2_spoiltWares_25 (by decide) (fun c_25 => ?_) (fun c_25 => ?_)
        · refine x_iincv (v := 1) dX2_spoiltWares_31 rfl (by decide) rfl (by decide) ?_
          refine x_goto 4 dX2_spoiltWares_34 (by decide) ?_
          exact ih (i + 1) _ _ (by omega) (by omega) (by rw [nI_1]) (by first | (simp_all [sumF, ind, b2i_z, b2i]; done) | (simp_all [sumF, ind, b2i_z, b2i] <;> grind))
        · refine x_iincv (v := 1) dX2_spoiltWares_28 rfl (by decide) rfl (by decide) ?_
          refine x_iincv (v := 1) dX2_spoiltWares_31 rfl (by decide) rfl (by decide) ?_
          refine x_goto 4 dX2_spoiltWares_34 (by decide) ?_
          exact ih (i + 1) _ _ (by omega) (by omega) (by rw [nI_1]) (by first | (simp_all [sumF, ind, b2i_z, b2i]; done) | (simp_all [sumF, ind, b2i_z, b2i] <;> grind))
theorem y_spoiltWares {o : Nat} (hk : IsMk o) {M : Mem} {V : Row} (hR : RM M o V) (hV : WF V)  : Y 4 mX2_spoiltWares 0 (lent 3 [.ref o]) [] M (some (.int (spoiltV V))) M := by
  refine x_iconstv (v := 0) dX2_spoiltWares_0 (by decide) ?_
  refine x_istore_n dX2_spoiltWares_1 (by decide) rfl ?_
  refine x_iconstv (v := 0) dX2_spoiltWares_2 (by decide) ?_
  refine x_istore_n dX2_spoiltWares_3 (by decide) rfl ?_
  exact y_spoiltWares_loop hk hR hV (nT V + 1) 0 0 0 (Nat.zero_le _) (by omega) rfl rfl
theorem y_daysAll_loop {o : Nat} (hk : IsMk o) {M : Mem} {V : Row} (hR : RM M o V) (hV : WF V)  : ∀ (fu i : Nat) (acc x : Int32), i ≤ nT V → nT V - i < fu → x = nI i → acc = sumF (fun t => dl V t) i → Y 3 mX2_daysLeftOfAll 4 [some (.ref o), some (.int acc), some (.int x)] [] M (some (.int (daysV V))) M := by
  have hR0 := hR
  obtain ⟨⟨r7, r8, r9, r10, r11, r12, r13, r14, r15, r2⟩, rk, rt⟩ := hR0
  obtain ⟨hn1, hn2⟩ := WF_n hV
  intro fu
  induction fu with
  | zero => intro i acc x h1 h2; omega
  | succ fu ih =>
    intro i acc x h1 h2 hx ha9
    subst hx
    refine x_iload_n dX2_daysLeftOfAll_4 rfl ?_
    refine x_aload_n dX2_daysLeftOfAll_5 rfl ?_
    refine y_getI fkX2_61 dX2_daysLeftOfAll_6 (hk.1 0 (by decide)) (hk.2 0 (by decide)) rfl ?_
    refine x_icmp_ge 26 dX2_daysLeftOfAll_9 (by decide) (fun c_9 => ?_) (fun c_9 => ?_)
    · have he := lp_eq hV r7 h1 c_9
      subst he
      refine x_iload_n dX2_daysLeftOfAll_26 rfl ?_
      exact y_ret dX2_daysLeftOfAll_27 rfl (rfl) (ha9) (rfl)
    · have hlt := lp_lt hV r7 h1 c_9
      refine x_iload_n dX2_daysLeftOfAll_12 rfl ?_
      refine x_aload_n dX2_daysLeftOfAll_13 rfl ?_
      refine x_iload_n dX2_daysLeftOfAll_14 rfl ?_
      refine y_callV (as := [_]) okX2_daysLeft lkX2_90 dX2_daysLeftOfAll_15 rfl (hk.1 0 (by decide)) (hk.2 0 (by decide)) (y_daysLeft hk hR hV hlt) (by omega) rfl (by simp [Value.category]) (Nat.le_of_ble_eq_true rfl) rfl rfl (cat8 rfl) ?_
      refine x_iadd dX2_daysLeftOfAll_18 ?_
      refine x_istore_n dX2_daysLeftOfAll_19 (by decide) rfl ?_
      refine x_iincv (v := 1) dX2_daysLeftOfAll_20 rfl (by decide) rfl (by decide) ?_
      refine x_goto 4 dX2_daysLeftOfAll_23 (by decide) ?_
      exact ih (i + 1) _ _ (by omega) (by omega) (by rw [nI_1]) (by first | (simp_all [sumF, ind, b2i_z, b2i]; done) | (simp_all [sumF, ind, b2i_z, b2i] <;> grind))
theorem y_daysAll {o : Nat} (hk : IsMk o) {M : Mem} {V : Row} (hR : RM M o V) (hV : WF V)  : Y 3 mX2_daysLeftOfAll 0 (lent 3 [.ref o]) [] M (some (.int (daysV V))) M := by
  refine x_iconstv (v := 0) dX2_daysLeftOfAll_0 (by decide) ?_
  refine x_istore_n dX2_daysLeftOfAll_1 (by decide) rfl ?_
  refine x_iconstv (v := 0) dX2_daysLeftOfAll_2 (by decide) ?_
  refine x_istore_n dX2_daysLeftOfAll_3 (by decide) rfl ?_
  exact y_daysAll_loop hk hR hV (nT V + 1) 0 0 0 (Nat.zero_le _) (by omega) rfl rfl
theorem y_stuck_loop {o : Nat} (hk : IsMk o) {M : Mem} {V : Row} (hR : RM M o V) (hV : WF V)  : ∀ (fu i : Nat) (acc x : Int32), i ≤ nT V → nT V - i < fu → x = nI i → acc = sumF (fun t => ind (¬ V (23 + 5 * t) = 0 ∧ gv V t = 0)) i → Y 7 mX2_stuckTraders 4 [some (.ref o), some (.int acc), some (.int x)] [] M (some (.int (stuckV V))) M := by
  have hR0 := hR
  obtain ⟨⟨r7, r8, r9, r10, r11, r12, r13, r14, r15, r2⟩, rk, rt⟩ := hR0
  obtain ⟨hn1, hn2⟩ := WF_n hV
  intro fu
  induction fu with
  | zero => intro i acc x h1 h2; omega
  | succ fu ih =>
    intro i acc x h1 h2 hx ha9
    subst hx
    refine x_iload_n dX2_stuckTraders_4 rfl ?_
    refine x_aload_n dX2_stuckTraders_5 rfl ?_
    refine y_getI fkX2_61 dX2_stuckTraders_6 (hk.1 0 (by decide)) (hk.2 0 (by decide)) rfl ?_
    refine x_icmp_ge 38 dX2_stuckTraders_9 (by decide) (fun c_9 => ?_) (fun c_9 => ?_)
    · have he := lp_eq hV r7 h1 c_9
      subst he
      refine x_iload_n dX2_stuckTraders_38 rfl ?_
      exact y_ret dX2_stuckTraders_39 rfl (rfl) (ha9) (rfl)
    · have hlt := lp_lt hV r7 h1 c_9
      refine x_aload_n dX2_stuckTraders_12 rfl ?_
      refine y_getR fkX2_15 dX2_stuckTraders_13 (hk.1 0 (by decide)) (hk.2 0 (by decide)) rfl ?_
      refine x_iload_n dX2_stuckTraders_16 rfl ?_
      refine y_iald dX2_stuckTraders_17 (hk.1 2 (by decide)) (hk.2 2 (by decide)) (vp_in_nI (n := i) (by omega) (by decide)) ?_
      rw [nI_clamp (n := i) (by omega)]
      rw [(rt i hlt).2.1]
      refine x_if_eq 32 dX2_stuckTraders_18 (by decide) (fun c_18 => ?_) (fun c_18 => ?_)
      · refine x_iincv (v := 1) dX2_stuckTraders_32 rfl (by decide) rfl (by decide) ?_
        refine x_goto 4 dX2_stuckTraders_35 (by decide) ?_
        exact ih (i + 1) _ _ (by omega) (by omega) (by rw [nI_1]) (by first | (simp_all [sumF, ind, b2i_z, b2i]; done) | (simp_all [sumF, ind, b2i_z, b2i] <;> grind))
      · refine x_aload_n dX2_stuckTraders_21 rfl ?_
        refine x_iload_n dX2_stuckTraders_22 rfl ?_
        refine y_callV (as := [_]) okX2_giversOf lkX2_143 dX2_stuckTraders_23 rfl (hk.1 0 (by decide)) (hk.2 0 (by decide)) (y_giversOf hk hR hV hlt) (by omega) rfl (by simp [Value.category]) (Nat.le_of_ble_eq_true rfl) rfl rfl (cat8 rfl) ?_
        refine x_if_ne 32 dX2_stuckTraders_26 (by decide) (fun c_26 => ?_) (fun c_26 => ?_)
        · refine x_iincv (v := 1) dX2_stuckTraders_32 rfl (by decide) rfl (by decide) ?_
          refine x_goto 4 dX2_stuckTraders_35 (by decide) ?_
          exact ih (i + 1) _ _ (by omega) (by omega) (by rw [nI_1]) (by first | (simp_all [sumF, ind, b2i_z, b2i]; done) | (simp_all [sumF, ind, b2i_z, b2i] <;> grind))
        · refine x_iincv (v := 1) dX2_stuckTraders_29 rfl (by decide) rfl (by decide) ?_
          refine x_iincv (v := 1) dX2_stuckTraders_32 rfl (by decide) rfl (by decide) ?_
          refine x_goto 4 dX2_stuckTraders_35 (by decide) ?_
          exact ih (i + 1) _ _ (by omega) (by omega) (by rw [nI_1]) (by first | (simp_all [sumF, ind, b2i_z, b2i]; done) | (simp_all [sumF, ind, b2i_z, b2i] <;> grind))
theorem y_stuck {o : Nat} (hk : IsMk o) {M : Mem} {V : Row} (hR : RM M o V) (hV : WF V)  : Y 7 mX2_stuckTraders 0 (lent 3 [.ref o]) [] M (some (.int (stuckV V))) M := by
  refine x_iconstv (v := 0) dX2_stuckTraders_0 (by decide) ?_
  refine x_istore_n dX2_stuckTraders_1 (by decide) rfl ?_
  refine x_iconstv (v := 0) dX2_stuckTraders_2 (by decide) ?_
  refine x_istore_n dX2_stuckTraders_3 (by decide) rfl ?_
  exact y_stuck_loop hk hR hV (nT V + 1) 0 0 0 (Nat.zero_le _) (by omega) rfl rfl
theorem y_waresOfKind_loop {o : Nat} (hk : IsMk o) {M : Mem} {V : Row} (hR : RM M o V) (hV : WF V) {k : Int32}  : ∀ (fu i : Nat) (acc x : Int32), i ≤ nT V → nT V - i < fu → x = nI i → acc = sumF (fun t => ind (V (24 + 5 * t) = k)) i → Y 0 mX2_waresOfKind 4 [some (.ref o), some (.int k), some (.int acc), some (.int x)] [] M (some (.int (waresV V k))) M := by
  have hR0 := hR
  obtain ⟨⟨r7, r8, r9, r10, r11, r12, r13, r14, r15, r2⟩, rk, rt⟩ := hR0
  obtain ⟨hn1, hn2⟩ := WF_n hV
  intro fu
  induction fu with
  | zero => intro i acc x h1 h2; omega
  | succ fu ih =>
    intro i acc x h1 h2 hx ha9
    subst hx
    refine x_iload_n dX2_waresOfKind_4 rfl ?_
    refine x_aload_n dX2_waresOfKind_5 rfl ?_
    refine y_getI fkX2_61 dX2_waresOfKind_6 (hk.1 0 (by decide)) (hk.2 0 (by decide)) rfl ?_
    refine x_icmp_ge 31 dX2_waresOfKind_9 (by decide) (fun c_9 => ?_) (fun c_9 => ?_)
    · have he := lp_eq hV r7 h1 c_9
      subst he
      refine x_iload_n dX2_waresOfKind_31 rfl ?_
      exact y_ret dX2_waresOfKind_32 rfl (rfl) (ha9) (rfl)
    · have hlt := lp_lt hV r7 h1 c_9
      refine x_aload_n dX2_waresOfKind_12 rfl ?_
      refine y_getR fkX2_18 dX2_waresOfKind_13 (hk.1 0 (by decide)) (hk.2 0 (by decide)) rfl ?_
      refine x_iload_n dX2_waresOfKind_16 rfl ?_
      refine y_iald dX2_waresOfKind_17 (hk.1 3 (by decide)) (hk.2 3 (by decide)) (vp_in_nI (n := i) (by omega) (by decide)) ?_
      rw [nI_clamp (n := i) (by omega)]
      rw [(rt i hlt).2.2.1]
      refine x_iload_n dX2_waresOfKind_18 rfl ?_
      refine x_icmp_ne 25 dX2_waresOfKind_19 (by decide) (fun c_19 => ?_) (fun c_19 => ?_)
      · refine x_iincv (v := 1) dX2_waresOfKind_25 rfl (by decide) rfl (by decide) ?_
        refine x_goto 4 dX2_waresOfKind_28 (by decide) ?_
        exact ih (i + 1) _ _ (by omega) (by omega) (by rw [nI_1]) (by first | (simp_all [sumF, ind, b2i_z, b2i]; done) | (simp_all [sumF, ind, b2i_z, b2i] <;> grind))
      · refine x_iincv (v := 1) dX2_waresOfKind_22 rfl (by decide) rfl (by decide) ?_
        refine x_iincv (v := 1) dX2_waresOfKind_25 rfl (by decide) rfl (by decide) ?_
        refine x_goto 4 dX2_waresOfKind_28 (by decide) ?_
        exact ih (i + 1) _ _ (by omega) (by omega) (by rw [nI_1]) (by first | (simp_all [sumF, ind, b2i_z, b2i]; done) | (simp_all [sumF, ind, b2i_z, b2i] <;> grind))
theorem y_waresOfKind {o : Nat} (hk : IsMk o) {M : Mem} {V : Row} (hR : RM M o V) (hV : WF V) {k : Int32}  : Y 0 mX2_waresOfKind 0 (lent 4 [.ref o, .int k]) [] M (some (.int (waresV V k))) M := by
  refine x_iconstv (v := 0) dX2_waresOfKind_0 (by decide) ?_
  refine x_istore_n dX2_waresOfKind_1 (by decide) rfl ?_
  refine x_iconstv (v := 0) dX2_waresOfKind_2 (by decide) ?_
  refine x_istore_n dX2_waresOfKind_3 (by decide) rfl ?_
  exact y_waresOfKind_loop hk hR hV (k := k) (nT V + 1) 0 0 0 (Nat.zero_le _) (by omega) rfl rfl
theorem y_soundWaresOfKind_loop {o : Nat} (hk : IsMk o) {M : Mem} {V : Row} (hR : RM M o V) (hV : WF V) {k : Int32}  : ∀ (fu i : Nat) (acc x : Int32), i ≤ nT V → nT V - i < fu → x = nI i → acc = sumF (fun t => ind (V (24 + 5 * t) = k ∧ 0 < dli V t)) i → Y 4 mX2_soundWaresOfKind 4 [some (.ref o), some (.int k), some (.int acc), some (.int x)] [] M (some (.int (swaresV V k))) M := by
  have hR0 := hR
  obtain ⟨⟨r7, r8, r9, r10, r11, r12, r13, r14, r15, r2⟩, rk, rt⟩ := hR0
  obtain ⟨hn1, hn2⟩ := WF_n hV
  intro fu
  induction fu with
  | zero => intro i acc x h1 h2; omega
  | succ fu ih =>
    intro i acc x h1 h2 hx ha9
    subst hx
    refine x_iload_n dX2_soundWaresOfKind_4 rfl ?_
    refine x_aload_n dX2_soundWaresOfKind_5 rfl ?_
    refine y_getI fkX2_61 dX2_soundWaresOfKind_6 (hk.1 0 (by decide)) (hk.2 0 (by decide)) rfl ?_
    refine x_icmp_ge 39 dX2_soundWaresOfKind_9 (by decide) (fun c_9 => ?_) (fun c_9 => ?_)
    · have he := lp_eq hV r7 h1 c_9
      subst he
      refine x_iload_n dX2_soundWaresOfKind_39 rfl ?_
      exact y_ret dX2_soundWaresOfKind_40 rfl (rfl) (ha9) (rfl)
    · have hlt := lp_lt hV r7 h1 c_9
      refine x_aload_n dX2_soundWaresOfKind_12 rfl ?_
      refine y_getR fkX2_18 dX2_soundWaresOfKind_13 (hk.1 0 (by decide)) (hk.2 0 (by decide)) rfl ?_
      refine x_iload_n dX2_soundWaresOfKind_16 rfl ?_
      refine y_iald dX2_soundWaresOfKind_17 (hk.1 3 (by decide)) (hk.2 3 (by decide)) (vp_in_nI (n := i) (by omega) (by decide)) ?_
      rw [nI_clamp (n := i) (by omega)]
      rw [(rt i hlt).2.2.1]
      refine x_iload_n dX2_soundWaresOfKind_18 rfl ?_
      refine x_icmp_ne 33 dX2_soundWaresOfKind_19 (by decide) (fun c_19 => ?_) (fun c_19 => ?_)
      · refine x_iincv (v := 1) dX2_soundWaresOfKind_33 rfl (by decide) rfl (by decide) ?_
        refine x_goto 4 dX2_soundWaresOfKind_36 (by decide) ?_
        exact ih (i + 1) _ _ (by omega) (by omega) (by rw [nI_1]) (by first | (simp_all [sumF, ind, b2i_z, b2i]; done) | (simp_all [sumF, ind, b2i_z, b2i] <;> grind))
      · refine x_aload_n dX2_soundWaresOfKind_22 rfl ?_
        refine x_iload_n dX2_soundWaresOfKind_23 rfl ?_
        refine y_callV (as := [_]) okX2_hasSoundWare lkX2_107 dX2_soundWaresOfKind_24 rfl (hk.1 0 (by decide)) (hk.2 0 (by decide)) (y_hasSound hk hR hV hlt) (by omega) rfl (by simp [Value.category]) (Nat.le_of_ble_eq_true rfl) rfl rfl (cat8 rfl) ?_
        refine x_if_eq 33 dX2_soundWaresOfKind_27 (by decide) (fun c_27 => ?_) (fun c_27 => ?_)
        · refine x_iincv (v := 1) dX2_soundWaresOfKind_33 rfl (by decide) rfl (by decide) ?_
          refine x_goto 4 dX2_soundWaresOfKind_36 (by decide) ?_
          exact ih (i + 1) _ _ (by omega) (by omega) (by rw [nI_1]) (by first | (simp_all [sumF, ind, b2i_z, b2i]; done) | (simp_all [sumF, ind, b2i_z, b2i] <;> grind))
        · refine x_iincv (v := 1) dX2_soundWaresOfKind_30 rfl (by decide) rfl (by decide) ?_
          refine x_iincv (v := 1) dX2_soundWaresOfKind_33 rfl (by decide) rfl (by decide) ?_
          refine x_goto 4 dX2_soundWaresOfKind_36 (by decide) ?_
          exact ih (i + 1) _ _ (by omega) (by omega) (by rw [nI_1]) (by first | (simp_all [sumF, ind, b2i_z, b2i]; done) | (simp_all [sumF, ind, b2i_z, b2i] <;> grind))
theorem y_soundWaresOfKind {o : Nat} (hk : IsMk o) {M : Mem} {V : Row} (hR : RM M o V) (hV : WF V) {k : Int32}  : Y 4 mX2_soundWaresOfKind 0 (lent 4 [.ref o, .int k]) [] M (some (.int (swaresV V k))) M := by
  refine x_iconstv (v := 0) dX2_soundWaresOfKind_0 (by decide) ?_
  refine x_istore_n dX2_soundWaresOfKind_1 (by decide) rfl ?_
  refine x_iconstv (v := 0) dX2_soundWaresOfKind_2 (by decide) ?_
  refine x_istore_n dX2_soundWaresOfKind_3 (by decide) rfl ?_
  exact y_soundWaresOfKind_loop hk hR hV (k := k) (nT V + 1) 0 0 0 (Nat.zero_le _) (by omega) rfl rfl
theorem y_tradersWhoMake_loop {o : Nat} (hk : IsMk o) {M : Mem} {V : Row} (hR : RM M o V) (hV : WF V) {k : Int32}  : ∀ (fu i : Nat) (acc x : Int32), i ≤ nT V → nT V - i < fu → x = nI i → acc = sumF (fun t => ind (V (22 + 5 * t) = k)) i → Y 0 mX2_tradersWhoMake 4 [some (.ref o), some (.int k), some (.int acc), some (.int x)] [] M (some (.int (makeV V k))) M := by
  have hR0 := hR
  obtain ⟨⟨r7, r8, r9, r10, r11, r12, r13, r14, r15, r2⟩, rk, rt⟩ := hR0
  obtain ⟨hn1, hn2⟩ := WF_n hV
  intro fu
  induction fu with
  | zero => intro i acc x h1 h2; omega
  | succ fu ih =>
    intro i acc x h1 h2 hx ha9
    subst hx
    refine x_iload_n dX2_tradersWhoMake_4 rfl ?_
    refine x_aload_n dX2_tradersWhoMake_5 rfl ?_
    refine y_getI fkX2_61 dX2_tradersWhoMake_6 (hk.1 0 (by decide)) (hk.2 0 (by decide)) rfl ?_
    refine x_icmp_ge 31 dX2_tradersWhoMake_9 (by decide) (fun c_9 => ?_) (fun c_9 => ?_)
    · have he := lp_eq hV r7 h1 c_9
      subst he
      refine x_iload_n dX2_tradersWhoMake_31 rfl ?_
      exact y_ret dX2_tradersWhoMake_32 rfl (rfl) (ha9) (rfl)
    · have hlt := lp_lt hV r7 h1 c_9
      refine x_aload_n dX2_tradersWhoMake_12 rfl ?_
      refine y_getR fkX2_9 dX2_tradersWhoMake_13 (hk.1 0 (by decide)) (hk.2 0 (by decide)) rfl ?_
      refine x_iload_n dX2_tradersWhoMake_16 rfl ?_
      refine y_iald dX2_tradersWhoMake_17 (hk.1 1 (by decide)) (hk.2 1 (by decide)) (vp_in_nI (n := i) (by omega) (by decide)) ?_
      rw [nI_clamp (n := i) (by omega)]
      rw [(rt i hlt).1]
      refine x_iload_n dX2_tradersWhoMake_18 rfl ?_
      refine x_icmp_ne 25 dX2_tradersWhoMake_19 (by decide) (fun c_19 => ?_) (fun c_19 => ?_)
      · refine x_iincv (v := 1) dX2_tradersWhoMake_25 rfl (by decide) rfl (by decide) ?_
        refine x_goto 4 dX2_tradersWhoMake_28 (by decide) ?_
        exact ih (i + 1) _ _ (by omega) (by omega) (by rw [nI_1]) (by first | (simp_all [sumF, ind, b2i_z, b2i]; done) | (simp_all [sumF, ind, b2i_z, b2i] <;> grind))
      · refine x_iincv (v := 1) dX2_tradersWhoMake_22 rfl (by decide) rfl (by decide) ?_
        refine x_iincv (v := 1) dX2_tradersWhoMake_25 rfl (by decide) rfl (by decide) ?_
        refine x_goto 4 dX2_tradersWhoMake_28 (by decide) ?_
        exact ih (i + 1) _ _ (by omega) (by omega) (by rw [nI_1]) (by first | (simp_all [sumF, ind, b2i_z, b2i]; done) | (simp_all [sumF, ind, b2i_z, b2i] <;> grind))
theorem y_tradersWhoMake {o : Nat} (hk : IsMk o) {M : Mem} {V : Row} (hR : RM M o V) (hV : WF V) {k : Int32}  : Y 0 mX2_tradersWhoMake 0 (lent 4 [.ref o, .int k]) [] M (some (.int (makeV V k))) M := by
  refine x_iconstv (v := 0) dX2_tradersWhoMake_0 (by decide) ?_
  refine x_istore_n dX2_tradersWhoMake_1 (by decide) rfl ?_
  refine x_iconstv (v := 0) dX2_tradersWhoMake_2 (by decide) ?_
  refine x_istore_n dX2_tradersWhoMake_3 (by decide) rfl ?_
  exact y_tradersWhoMake_loop hk hR hV (k := k) (nT V + 1) 0 0 0 (Nat.zero_le _) (by omega) rfl rfl
theorem y_tradersWhoWant_loop {o : Nat} (hk : IsMk o) {M : Mem} {V : Row} (hR : RM M o V) (hV : WF V) {k : Int32}  : ∀ (fu i : Nat) (acc x : Int32), i ≤ nT V → nT V - i < fu → x = nI i → acc = sumF (fun t => ind (V (23 + 5 * t) >>> (k &&& 31) &&& 1 = 1)) i → Y 1 mX2_tradersWhoWant 4 [some (.ref o), some (.int k), some (.int acc), some (.int x)] [] M (some (.int (wantV V k))) M := by
  have hR0 := hR
  obtain ⟨⟨r7, r8, r9, r10, r11, r12, r13, r14, r15, r2⟩, rk, rt⟩ := hR0
  obtain ⟨hn1, hn2⟩ := WF_n hV
  intro fu
  induction fu with
  | zero => intro i acc x h1 h2; omega
  | succ fu ih =>
    intro i acc x h1 h2 hx ha9
    subst hx
    refine x_iload_n dX2_tradersWhoWant_4 rfl ?_
    refine x_aload_n dX2_tradersWhoWant_5 rfl ?_
    refine y_getI fkX2_61 dX2_tradersWhoWant_6 (hk.1 0 (by decide)) (hk.2 0 (by decide)) rfl ?_
    refine x_icmp_ge 34 dX2_tradersWhoWant_9 (by decide) (fun c_9 => ?_) (fun c_9 => ?_)
    · have he := lp_eq hV r7 h1 c_9
      subst he
      refine x_iload_n dX2_tradersWhoWant_34 rfl ?_
      exact y_ret dX2_tradersWhoWant_35 rfl (rfl) (ha9) (rfl)
    · have hlt := lp_lt hV r7 h1 c_9
      refine x_aload_n dX2_tradersWhoWant_12 rfl ?_
      refine y_getR fkX2_15 dX2_tradersWhoWant_13 (hk.1 0 (by decide)) (hk.2 0 (by decide)) rfl ?_
      refine x_iload_n dX2_tradersWhoWant_16 rfl ?_
      refine y_iald dX2_tradersWhoWant_17 (hk.1 2 (by decide)) (hk.2 2 (by decide)) (vp_in_nI (n := i) (by omega) (by decide)) ?_
      rw [nI_clamp (n := i) (by omega)]
      rw [(rt i hlt).2.1]
      refine x_iload_n dX2_tradersWhoWant_18 rfl ?_
      refine y_callSN (as := [_, _]) okX5_holds nsX2_103 dX2_tradersWhoWant_19 rfl (y_holds) (by omega) rfl (by simp [Value.category]) (Nat.le_of_ble_eq_true rfl) (cat8 rfl) ?_
      refine x_if_eq 28 dX2_tradersWhoWant_22 (by decide) (fun c_22 => ?_) (fun c_22 => ?_)
      · refine x_iincv (v := 1) dX2_tradersWhoWant_28 rfl (by decide) rfl (by decide) ?_
        refine x_goto 4 dX2_tradersWhoWant_31 (by decide) ?_
        have h01 := and1 (V (23 + 5 * i) >>> (k &&& 31))
        exact ih (i + 1) _ _ (by omega) (by omega) (by rw [nI_1]) (by rcases h01 with q | q <;> simp_all [sumF, ind, b2i_z, b2i])
      · refine x_iincv (v := 1) dX2_tradersWhoWant_25 rfl (by decide) rfl (by decide) ?_
        refine x_iincv (v := 1) dX2_tradersWhoWant_28 rfl (by decide) rfl (by decide) ?_
        refine x_goto 4 dX2_tradersWhoWant_31 (by decide) ?_
        have h01 := and1 (V (23 + 5 * i) >>> (k &&& 31))
        exact ih (i + 1) _ _ (by omega) (by omega) (by rw [nI_1]) (by rcases h01 with q | q <;> simp_all [sumF, ind, b2i_z, b2i])
theorem y_tradersWhoWant {o : Nat} (hk : IsMk o) {M : Mem} {V : Row} (hR : RM M o V) (hV : WF V) {k : Int32}  : Y 1 mX2_tradersWhoWant 0 (lent 4 [.ref o, .int k]) [] M (some (.int (wantV V k))) M := by
  refine x_iconstv (v := 0) dX2_tradersWhoWant_0 (by decide) ?_
  refine x_istore_n dX2_tradersWhoWant_1 (by decide) rfl ?_
  refine x_iconstv (v := 0) dX2_tradersWhoWant_2 (by decide) ?_
  refine x_istore_n dX2_tradersWhoWant_3 (by decide) rfl ?_
  exact y_tradersWhoWant_loop hk hR hV (k := k) (nT V + 1) 0 0 0 (Nat.zero_le _) (by omega) rfl rfl
theorem y_needsMet_loop {o : Nat} (hk : IsMk o) {M : Mem} {V : Row} (hR : RM M o V) (hV : WF V) : ∀ (fu i : Nat) (acc x : Int32), i ≤ 6 → 6 - i < fu → x = nI i → acc = sumF (fun k => V (11 + 2 * k)) i → Y 0 mX2_needsMet 4 [some (.ref o), some (.int acc), some (.int x)] [] M (some (.int (V 2))) M := by
  have hR0 := hR
  obtain ⟨⟨r7, r8, r9, r10, r11, r12, r13, r14, r15, r2⟩, rk, rt⟩ := hR0
  obtain ⟨hn1, hn2⟩ := WF_n hV
  have h6 : ∀ i : Nat, i ≤ 6 → (6 : Int32) ≤ nI i → i = 6 := by
    intro i h1 h2
    have := (nI_leI (a := 6) (b := i) (by decide) (by omega)).mp h2
    omega
  have h6l : ∀ i : Nat, i ≤ 6 → ¬ (6 : Int32) ≤ nI i → i < 6 := by
    intro i h1 h2
    rcases Nat.lt_or_ge i 6 with q | q
    · exact q
    · exact absurd (nI_le (a := 6) (b := i) q (by omega)) h2
  intro fu
  induction fu with
  | zero => intro i acc x h1 h2; omega
  | succ fu ih =>
    intro i acc x h1 h2 hx ha9
    subst hx
    refine x_iload_n dX2_needsMet_4 rfl ?_
    refine x_bipushv (v := 6) dX2_needsMet_5 (by decide) ?_
    refine x_icmp_ge 25 dX2_needsMet_7 (by decide) (fun c_7 => ?_) (fun c_7 => ?_)
    · have he := h6 i h1 c_7
      subst he
      refine x_iload_n dX2_needsMet_25 rfl ?_
      exact y_ret dX2_needsMet_26 rfl (rfl) (by rw [ha9, r2]; simp [sumF, mSum]) (rfl)
    · have hlt := h6l i h1 c_7
      refine x_iload_n dX2_needsMet_10 rfl ?_
      refine x_aload_n dX2_needsMet_11 rfl ?_
      refine y_getR fkX2_30 dX2_needsMet_12 (hk.1 0 (by decide)) (hk.2 0 (by decide)) rfl ?_
      refine x_iload_n dX2_needsMet_15 rfl ?_
      refine y_iald dX2_needsMet_16 (hk.1 7 (by decide)) (hk.2 7 (by decide)) (vp_in_nI (n := i) (by omega) (by decide)) ?_
      rw [nI_clamp (n := i) (by omega)]
      rw [(rk i hlt).2]
      refine x_iadd dX2_needsMet_17 ?_
      refine x_istore_n dX2_needsMet_18 (by decide) rfl ?_
      refine x_iincv (v := 1) dX2_needsMet_19 rfl (by decide) rfl (by decide) ?_
      refine x_goto 4 dX2_needsMet_22 (by decide) ?_
      exact ih (i + 1) _ _ (by omega) (by omega) (by rw [nI_1]) (by simp_all [sumF])
theorem y_needsMet {o : Nat} (hk : IsMk o) {M : Mem} {V : Row} (hR : RM M o V) (hV : WF V) : Y 0 mX2_needsMet 0 (lent 3 [.ref o]) [] M (some (.int (V 2))) M := by
  refine x_iconstv (v := 0) dX2_needsMet_0 (by decide) ?_
  refine x_istore_n dX2_needsMet_1 (by decide) rfl ?_
  refine x_iconstv (v := 0) dX2_needsMet_2 (by decide) ?_
  refine x_istore_n dX2_needsMet_3 (by decide) rfl ?_
  exact y_needsMet_loop hk hR hV 7 0 0 0 (by omega) (by omega) rfl rfl
end
section
theorem ixN {j : Nat} (h : j < 2 ^ 31) : (nI j).toNatClampNeg = j ∧ ¬ nI j < 0 := ⟨nI_clamp h, nI_pos h⟩
theorem vpin_of {i : Int32} {j n : Nat} (hi : i.toNatClampNeg = j ∧ ¬ i < 0) (hj : j < n) : vp_in i n := fun q => q.elim hi.2 (fun z => by rw [hi.1] at z; omega)
section YN
variable {d : Nat} {μ : Md} {pc : Nat} {ls : List (Option Value)} {st : List Value} {M M' : Mem} {r : Option Value}
theorem y_ialdn {a n j : Nat} {i : Int32} (hd : decode μ.1 pc = .ok (.iaload, 1)) (ha : a < NC) (hs : SH a = .inr (.inl (0, n))) (hi : i.toNatClampNeg = j ∧ ¬ i < 0) (hj : j < n) (k : Y d μ (pc + 1) ls (.int (M a j) :: st) M r M') : Y d μ pc ls (.int i :: .ref a :: st) M r M' :=
  y_iald hd ha hs (vpin_of hi hj) (by rw [hi.1]; exact k)
theorem y_baldn {a n j : Nat} {i : Int32} (hd : decode μ.1 pc = .ok (.baload, 1)) (ha : a < NC) (hs : SH a = .inr (.inl (1, n))) (hi : i.toNatClampNeg = j ∧ ¬ i < 0) (hj : j < n) (k : Y d μ (pc + 1) ls (.int (M a j) :: st) M r M') : Y d μ pc ls (.int i :: .ref a :: st) M r M' :=
  y_bald hd ha hs (vpin_of hi hj) (by rw [hi.1]; exact k)
theorem y_caldn {a n j : Nat} {i : Int32} (hd : decode μ.1 pc = .ok (.caload, 1)) (ha : a < NC) (hs : SH a = .inr (.inl (2, n))) (hi : i.toNatClampNeg = j ∧ ¬ i < 0) (hj : j < n) (k : Y d μ (pc + 1) ls (.int (M a j) :: st) M r M') : Y d μ pc ls (.int i :: .ref a :: st) M r M' :=
  y_cald hd ha hs (vpin_of hi hj) (by rw [hi.1]; exact k)
theorem y_iastn {a n j : Nat} {i x : Int32} (hd : decode μ.1 pc = .ok (.iastore, 1)) (ha : a < NC) (hs : SH a = .inr (.inl (0, n))) (hi : i.toNatClampNeg = j ∧ ¬ i < 0) (hj : j < n) (k : Y d μ (pc + 1) ls st (updM M a j x) r M') : Y d μ pc ls (.int x :: .int i :: .ref a :: st) M r M' :=
  y_iast hd ha hs (vpin_of hi hj) (by rw [hi.1]; exact k)
theorem y_bastn {a n j : Nat} {i x : Int32} (hd : decode μ.1 pc = .ok (.bastore, 1)) (ha : a < NC) (hs : SH a = .inr (.inl (1, n))) (hi : i.toNatClampNeg = j ∧ ¬ i < 0) (hj : j < n) (k : Y d μ (pc + 1) ls st (updM M a j (x &&& 1)) r M') : Y d μ pc ls (.int x :: .int i :: .ref a :: st) M r M' :=
  y_bast hd ha hs (vpin_of hi hj) (by rw [hi.1]; exact k)
theorem y_castn {a n j : Nat} {i x : Int32} (hd : decode μ.1 pc = .ok (.castore, 1)) (ha : a < NC) (hs : SH a = .inr (.inl (2, n))) (hi : i.toNatClampNeg = j ∧ ¬ i < 0) (hj : j < n) (k : Y d μ (pc + 1) ls st (updM M a j (vp_nar .char x)) r M') : Y d μ pc ls (.int x :: .int i :: .ref a :: st) M r M' :=
  y_cast hd ha hs (vpin_of hi hj) (by rw [hi.1]; exact k)
end YN
end
section
theorem r_in {M : Mem} {v a b : Int32} : Y 0 mX6_in 0 (lent 3 [.int v, .int a, .int b]) [] M (some (.int (b2i (decide (a ≤ v) && decide (v ≤ b))))) M := by
  refine x_iload_n dX6_in_0 rfl ?_
  refine x_iload_n dX6_in_1 rfl ?_
  refine x_icmp_lt 14 dX6_in_2 (by decide) (fun c_2 => ?_) (fun c_2 => ?_)
  · refine x_iconstv (v := 0) dX6_in_14 (by decide) ?_
    exact y_ret dX6_in_15 rfl (rfl) (by simp [b2i, *] <;> grind) (rfl)
  · refine x_iload_n dX6_in_5 rfl ?_
    refine x_iload_n dX6_in_6 rfl ?_
    refine x_icmp_gt 14 dX6_in_7 (by decide) (fun c_7 => ?_) (fun c_7 => ?_)
    · refine x_iconstv (v := 0) dX6_in_14 (by decide) ?_
      exact y_ret dX6_in_15 rfl (rfl) (by simp [b2i, *] <;> grind) (rfl)
    · refine x_iconstv (v := 1) dX6_in_10 (by decide) ?_
      refine x_goto 15 dX6_in_11 (by decide) ?_
      exact y_ret dX6_in_15 rfl (rfl) (by simp [b2i, *] <;> grind) (rfl)
theorem r_isKind {M : Mem} {k : Int32} : Y 1 mX6_isKind 0 (lent 1 [.int k]) [] M (some (.int (b2i (decide (0 ≤ k) && decide (k < 6))))) M := by
  refine x_iload_n dX6_isKind_0 rfl ?_
  refine x_iconstv (v := 0) dX6_isKind_1 (by decide) ?_
  refine x_iconstv (v := 5) dX6_isKind_2 (by decide) ?_
  refine y_callS (as := [_, _, _]) okX6_in lkX6_51 dX6_isKind_3 rfl (r_in) (by omega) rfl (by simp [Value.category]) (Nat.le_of_ble_eq_true rfl) (cat8 rfl) ?_
  exact y_ret dX6_isKind_6 rfl (b2i_nar _) (by congr 2; grind) (rfl)
theorem r_isTrader {M : Mem} (hV : WF (M 85)) {t : Int32} : Y 1 mX6_isTrader 0 (lent 2 [.ref 84, .int t]) [] M (some (.int (b2i (hasB (M 85) t)))) M := by
  obtain ⟨hn1, hn2⟩ := WF_n hV
  have h7 : M 85 1 ≤ 7 := by rw [hn2]; exact nI_le hn1 (by decide)
  have h0 : 0 ≤ M 85 1 := by rw [hn2]; exact nI_pos' (by omega)
  refine x_iload_n dX6_isTrader_0 rfl ?_
  refine x_iconstv (v := 0) dX6_isTrader_1 (by decide) ?_
  refine x_aload_n dX6_isTrader_2 rfl ?_
  refine y_getR fkX6_7 dX6_isTrader_3 (by decide) rfl rfl ?_
  refine x_iconstv (v := 1) dX6_isTrader_6 (by decide) ?_
  refine y_ialdn (j := 1) dX6_isTrader_7 (by decide) rfl (by decide) (by decide) ?_
  refine x_iconstv (v := 1) dX6_isTrader_8 (by decide) ?_
  refine x_isub dX6_isTrader_9 ?_
  refine y_callS (as := [_, _, _]) okX6_in lkX6_51 dX6_isTrader_10 rfl (r_in) (by omega) rfl (by simp [Value.category]) (Nat.le_of_ble_eq_true rfl) (cat8 rfl) ?_
  exact y_ret dX6_isTrader_13 rfl (b2i_nar _) (by unfold hasB; congr 2; grind) (rfl)
theorem r_arePair {M : Mem} (hV : WF (M 85)) {a b : Int32} : Y 2 mX6_arePair 0 (lent 3 [.ref 84, .int a, .int b]) [] M (some (.int (b2i (bothB (M 85) a b)))) M := by
  refine x_aload_n dX6_arePair_0 rfl ?_
  refine x_iload_n dX6_arePair_1 rfl ?_
  refine y_callV (as := [_]) okX6_isTrader lkX6_55 dX6_arePair_2 rfl (by decide) rfl (r_isTrader hV) (by omega) rfl (by simp [Value.category]) (Nat.le_of_ble_eq_true rfl) rfl rfl (cat8 rfl) ?_
  refine x_if_eq 25 dX6_arePair_5 (by decide) (fun c_5 => ?_) (fun c_5 => ?_)
  · refine x_iconstv (v := 0) dX6_arePair_25 (by decide) ?_
    exact y_ret dX6_arePair_26 rfl (rfl) (by simp_all [b2i_z, bothB, b2i]) (rfl)
  · refine x_aload_n dX6_arePair_8 rfl ?_
    refine x_iload_n dX6_arePair_9 rfl ?_
    refine y_callV (as := [_]) okX6_isTrader lkX6_55 dX6_arePair_10 rfl (by decide) rfl (r_isTrader hV) (by omega) rfl (by simp [Value.category]) (Nat.le_of_ble_eq_true rfl) rfl rfl (cat8 rfl) ?_
    refine x_if_eq 25 dX6_arePair_13 (by decide) (fun c_13 => ?_) (fun c_13 => ?_)
    · refine x_iconstv (v := 0) dX6_arePair_25 (by decide) ?_
      exact y_ret dX6_arePair_26 rfl (rfl) (by simp_all [b2i_z, bothB, b2i]) (rfl)
    · refine x_iload_n dX6_arePair_16 rfl ?_
      refine x_iload_n dX6_arePair_17 rfl ?_
      refine x_icmp_eq 25 dX6_arePair_18 (by decide) (fun c_18 => ?_) (fun c_18 => ?_)
      · refine x_iconstv (v := 0) dX6_arePair_25 (by decide) ?_
        exact y_ret dX6_arePair_26 rfl (rfl) (by simp_all [b2i_z, bothB, b2i]) (rfl)
      · refine x_iconstv (v := 1) dX6_arePair_21 (by decide) ?_
        refine x_goto 26 dX6_arePair_22 (by decide) ?_
        exact y_ret dX6_arePair_26 rfl (rfl) (by simp_all [b2i_z, bothB, b2i]) (rfl)
theorem r_ofKind0 {M : Mem} {k w : Int32} : Y 0 mX6_ofKind 0 (lent 2 [.int k, .int w]) [] M (some (.int (10 + 2 * k + w))) M := by
  refine x_bipushv (v := 10) dX6_ofKind_0 (by decide) ?_
  refine x_iconstv (v := 2) dX6_ofKind_2 (by decide) ?_
  refine x_iload_n dX6_ofKind_3 rfl ?_
  refine x_imul dX6_ofKind_4 ?_
  refine x_iadd dX6_ofKind_5 ?_
  refine x_iload_n dX6_ofKind_6 rfl ?_
  refine x_iadd dX6_ofKind_7 ?_
  exact y_ret dX6_ofKind_8 rfl (rfl) (rfl) (rfl)
theorem r_at0 {M : Mem} {k w : Int32} : Y 0 mX6_at 0 (lent 2 [.int k, .int w]) [] M (some (.int (22 + 5 * k + w))) M := by
  refine x_bipushv (v := 22) dX6_at_0 (by decide) ?_
  refine x_iconstv (v := 5) dX6_at_2 (by decide) ?_
  refine x_iload_n dX6_at_3 rfl ?_
  refine x_imul dX6_at_4 ?_
  refine x_iadd dX6_at_5 ?_
  refine x_iload_n dX6_at_6 rfl ?_
  refine x_iadd dX6_at_7 ?_
  exact y_ret dX6_at_8 rfl (rfl) (rfl) (rfl)
theorem at_nI {k w : Nat} : 22 + 5 * nI k + nI w = nI (22 + 5 * k + w) := by
  rw [show (22 : Int32) = nI 22 from rfl, show (5 : Int32) = nI 5 from rfl, pk_mul, nI_add, nI_add]
theorem ofk_nI {k w : Nat} : 10 + 2 * nI k + nI w = nI (10 + 2 * k + w) := by
  rw [show (10 : Int32) = nI 10 from rfl, show (2 : Int32) = nI 2 from rfl, pk_mul, nI_add, nI_add]
theorem r_at {M : Mem} {k w : Nat} : Y 0 mX6_at 0 (lent 2 [.int (nI k), .int (nI w)]) [] M (some (.int (nI (22 + 5 * k + w)))) M := by
  have h := r_at0 (M := M) (k := nI k) (w := nI w)
  rw [at_nI] at h
  exact h
theorem r_ofKind {M : Mem} {k w : Nat} : Y 0 mX6_ofKind 0 (lent 2 [.int (nI k), .int (nI w)]) [] M (some (.int (nI (10 + 2 * k + w)))) M := by
  have h := r_ofKind0 (M := M) (k := nI k) (w := nI w)
  rw [ofk_nI] at h
  exact h
theorem r_of {M : Mem} {k w : Nat} (h : 22 + 5 * k + w < 57) : Y 1 mX6_of 0 (lent 3 [.ref 84, .int (nI k), .int (nI w)]) [] M (some (.int (M 85 (22 + 5 * k + w)))) M := by
  refine x_aload_n dX6_of_0 rfl ?_
  refine y_getR fkX6_7 dX6_of_1 (by decide) rfl rfl ?_
  refine x_iload_n dX6_of_4 rfl ?_
  refine x_iload_n dX6_of_5 rfl ?_
  refine y_callS (as := [_, _]) okX6_at lkX6_59 dX6_of_6 rfl (r_at) (by omega) rfl (by simp [Value.category]) (Nat.le_of_ble_eq_true rfl) (cat8 rfl) ?_
  refine y_ialdn (j := 22 + 5 * k + w) dX6_of_9 (by decide) rfl (ixN (by omega)) (by omega) ?_
  exact y_ret dX6_of_10 rfl (rfl) (rfl) (rfl)
theorem r_of0 {M : Mem} {k : Nat} (h : k < 7) : Y 1 mX6_of 0 (lent 3 [.ref 84, .int (nI k), .int 0]) [] M (some (.int (M 85 (22 + 5 * k)))) M := by
  have h1 := r_of (M := M) (k := k) (w := 0) (by omega)
  rw [show 22 + 5 * k + 0 = 22 + 5 * k by omega] at h1
  exact h1
theorem r_of1 {M : Mem} {k : Nat} (h : k < 7) : Y 1 mX6_of 0 (lent 3 [.ref 84, .int (nI k), .int 1]) [] M (some (.int (M 85 (23 + 5 * k)))) M := by
  have h1 := r_of (M := M) (k := k) (w := 1) (by omega)
  rw [show 22 + 5 * k + 1 = 23 + 5 * k by omega] at h1
  exact h1
theorem r_of2 {M : Mem} {k : Nat} (h : k < 7) : Y 1 mX6_of 0 (lent 3 [.ref 84, .int (nI k), .int 2]) [] M (some (.int (M 85 (24 + 5 * k)))) M := by
  have h1 := r_of (M := M) (k := k) (w := 2) (by omega)
  rw [show 22 + 5 * k + 2 = 24 + 5 * k by omega] at h1
  exact h1
theorem r_of3 {M : Mem} {k : Nat} (h : k < 7) : Y 1 mX6_of 0 (lent 3 [.ref 84, .int (nI k), .int 3]) [] M (some (.int (M 85 (25 + 5 * k)))) M := by
  have h1 := r_of (M := M) (k := k) (w := 3) (by omega)
  rw [show 22 + 5 * k + 3 = 25 + 5 * k by omega] at h1
  exact h1
theorem r_of4 {M : Mem} {k : Nat} (h : k < 7) : Y 1 mX6_of 0 (lent 3 [.ref 84, .int (nI k), .int 4]) [] M (some (.int (M 85 (26 + 5 * k)))) M := by
  have h1 := r_of (M := M) (k := k) (w := 4) (by omega)
  rw [show 22 + 5 * k + 4 = 26 + 5 * k by omega] at h1
  exact h1
theorem b6 {V : Row} (hV : WF V) {j : Nat} (hj : j < nT V) : j < 7 := by
  have := (WF_n hV).1
  omega
theorem kd_nI {V : Row} (hV : WF V) {j : Nat} (hj : j < nT V) : V (24 + 5 * j) = nI (kd V j) := vpin_nI (hV.2.1 j hj).2.2.1
theorem kd_lt {V : Row} (hV : WF V) {j : Nat} (hj : j < nT V) : kd V j < 6 := vpin_lt (hV.2.1 j hj).2.2.1
theorem r_daysLeft {M : Mem} (hV : WF (M 85)) {j : Nat} (hj : j < nT (M 85)) : Y 2 mX6_daysLeft 0 (lent 3 [.ref 84, .int (nI j)]) [] M (some (.int (dl (M 85) j))) M := by
  have h6 := kd_lt hV hj
  refine x_aload_n dX6_daysLeft_0 rfl ?_
  refine y_getR fkX6_7 dX6_daysLeft_1 (by decide) rfl rfl ?_
  refine x_aload_n dX6_daysLeft_4 rfl ?_
  refine x_iload_n dX6_daysLeft_5 rfl ?_
  refine x_iconstv (v := 2) dX6_daysLeft_6 (by decide) ?_
  refine y_callV (as := [_, _]) okX6_of lkX6_65 dX6_daysLeft_7 rfl (by decide) rfl (r_of2 (b6 hV hj)) (by omega) rfl (by simp [Value.category]) (Nat.le_of_ble_eq_true rfl) rfl rfl (cat8 rfl) ?_
  rw [kd_nI hV hj]
  refine x_iconstv (v := 0) dX6_daysLeft_10 (by decide) ?_
  refine y_callS (as := [_, _]) okX6_ofKind lkX6_47 dX6_daysLeft_11 rfl (r_ofKind (k := kd (M 85) j) (w := 0)) (by omega) rfl (by simp [Value.category]) (Nat.le_of_ble_eq_true rfl) (cat8 rfl) ?_
  refine y_ialdn (j := 10 + 2 * kd (M 85) j) dX6_daysLeft_14 (by decide) rfl (ixN (by omega)) (by omega) ?_
  refine x_aload_n dX6_daysLeft_15 rfl ?_
  refine x_iload_n dX6_daysLeft_16 rfl ?_
  refine x_iconstv (v := 3) dX6_daysLeft_17 (by decide) ?_
  refine y_callV (as := [_, _]) okX6_of lkX6_65 dX6_daysLeft_18 rfl (by decide) rfl (r_of3 (b6 hV hj)) (by omega) rfl (by simp [Value.category]) (Nat.le_of_ble_eq_true rfl) rfl rfl (cat8 rfl) ?_
  refine x_isub dX6_daysLeft_21 ?_
  refine x_istore_n dX6_daysLeft_22 (by decide) rfl ?_
  refine x_iload_n dX6_daysLeft_23 rfl ?_
  refine x_if_le 31 dX6_daysLeft_24 (by decide) (fun c_24 => ?_) (fun c_24 => ?_)
  · refine x_iconstv (v := 0) dX6_daysLeft_31 (by decide) ?_
    exact y_ret dX6_daysLeft_32 rfl (rfl) (by unfold dl dli; grind) (rfl)
  · refine x_iload_n dX6_daysLeft_27 rfl ?_
    refine x_goto 32 dX6_daysLeft_28 (by decide) ?_
    exact y_ret dX6_daysLeft_32 rfl (rfl) (by unfold dl dli; grind) (rfl)
theorem r_wants {M : Mem} (hV : WF (M 85)) {t g : Nat} (ht : t < nT (M 85)) (hg : g < nT (M 85)) : Y 2 mX6_wants 0 (lent 3 [.ref 84, .int (nI t), .int (nI g)]) [] M (some (.int (b2i (decide (wb (M 85) t g = 1))))) M := by
  refine x_aload_n dX6_wants_0 rfl ?_
  refine x_iload_n dX6_wants_1 rfl ?_
  refine x_iconstv (v := 1) dX6_wants_2 (by decide) ?_
  refine y_callV (as := [_, _]) okX6_of lkX6_65 dX6_wants_3 rfl (by decide) rfl (r_of1 (b6 hV ht)) (by omega) rfl (by simp [Value.category]) (Nat.le_of_ble_eq_true rfl) rfl rfl (cat8 rfl) ?_
  refine x_aload_n dX6_wants_6 rfl ?_
  refine x_iload_n dX6_wants_7 rfl ?_
  refine x_iconstv (v := 2) dX6_wants_8 (by decide) ?_
  refine y_callV (as := [_, _]) okX6_of lkX6_65 dX6_wants_9 rfl (by decide) rfl (r_of2 (b6 hV hg)) (by omega) rfl (by simp [Value.category]) (Nat.le_of_ble_eq_true rfl) rfl rfl (cat8 rfl) ?_
  refine x_ishr dX6_wants_12 ?_
  refine x_iconstv (v := 1) dX6_wants_13 (by decide) ?_
  refine x_iand dX6_wants_14 ?_
  refine x_iconstv (v := 1) dX6_wants_15 (by decide) ?_
  refine x_icmp_ne 23 dX6_wants_16 (by decide) (fun c_16 => ?_) (fun c_16 => ?_)
  · refine x_iconstv (v := 0) dX6_wants_23 (by decide) ?_
    exact y_ret dX6_wants_24 rfl (rfl) (by simp_all [b2i, wb]) (rfl)
  · refine x_iconstv (v := 1) dX6_wants_19 (by decide) ?_
    refine x_goto 24 dX6_wants_20 (by decide) ?_
    exact y_ret dX6_wants_24 rfl (rfl) (by simp_all [b2i, wb]) (rfl)
theorem r_takes {M : Mem} (hV : WF (M 85)) {t g : Nat} (ht : t < nT (M 85)) (hg : g < nT (M 85)) : Y 3 mX6_takes 0 (lent 4 [.ref 84, .int (nI t), .int (nI g)]) [] M (some (.int (b2i (canV (M 85) t g)))) M := by
  have htg := nI_eq (n31 hV (Nat.le_of_lt ht)) (n31 hV (Nat.le_of_lt hg))
  refine x_aload_n dX6_takes_0 rfl ?_
  refine y_getR fkX6_7 dX6_takes_1 (by decide) rfl rfl ?_
  refine x_bipushv (v := 9) dX6_takes_4 (by decide) ?_
  refine y_ialdn (j := 9) dX6_takes_6 (by decide) rfl (by decide) (by decide) ?_
  refine x_iload_n dX6_takes_7 rfl ?_
  refine x_icmp_eq 26 dX6_takes_8 (by decide) (fun c_8 => ?_) (fun c_8 => ?_)
  · refine x_iconstv (v := 0) dX6_takes_26 (by decide) ?_
    refine x_istore_n dX6_takes_27 (by decide) rfl ?_
    refine x_iload_n dX6_takes_28 rfl ?_
    refine x_iload_n dX6_takes_29 rfl ?_
    refine x_icmp_eq 66 dX6_takes_30 (by decide) (fun c_30 => ?_) (fun c_30 => ?_)
    · refine x_iconstv (v := 0) dX6_takes_66 (by decide) ?_
      exact y_ret dX6_takes_67 rfl (rfl) (by first | (simp_all [b2i_z, b2i, canV, dl_pos]; done) | (simp_all [b2i_z, b2i, canV, dl_pos] <;> grind)) (rfl)
    · refine x_iload_n dX6_takes_33 rfl ?_
      refine x_if_eq 66 dX6_takes_34 (by decide) (fun c_34 => ?_) (fun c_34 => ?_)
      · refine x_iconstv (v := 0) dX6_takes_66 (by decide) ?_
        exact y_ret dX6_takes_67 rfl (rfl) (by first | (simp_all [b2i_z, b2i, canV, dl_pos]; done) | (simp_all [b2i_z, b2i, canV, dl_pos] <;> grind)) (rfl)
      · exact absurd c_34 (by decide)
  · refine x_aload_n dX6_takes_11 rfl ?_
    refine y_getR fkX6_7 dX6_takes_12 (by decide) rfl rfl ?_
    refine x_bipushv (v := 9) dX6_takes_15 (by decide) ?_
    refine y_ialdn (j := 9) dX6_takes_17 (by decide) rfl (by decide) (by decide) ?_
    refine x_iload_n dX6_takes_18 rfl ?_
    refine x_icmp_eq 26 dX6_takes_19 (by decide) (fun c_19 => ?_) (fun c_19 => ?_)
    · refine x_iconstv (v := 0) dX6_takes_26 (by decide) ?_
      refine x_istore_n dX6_takes_27 (by decide) rfl ?_
      refine x_iload_n dX6_takes_28 rfl ?_
      refine x_iload_n dX6_takes_29 rfl ?_
      refine x_icmp_eq 66 dX6_takes_30 (by decide) (fun c_30 => ?_) (fun c_30 => ?_)
      · refine x_iconstv (v := 0) dX6_takes_66 (by decide) ?_
        exact y_ret dX6_takes_67 rfl (rfl) (by first | (simp_all [b2i_z, b2i, canV, dl_pos]; done) | (simp_all [b2i_z, b2i, canV, dl_pos] <;> grind)) (rfl)
      · refine x_iload_n dX6_takes_33 rfl ?_
        refine x_if_eq 66 dX6_takes_34 (by decide) (fun c_34 => ?_) (fun c_34 => ?_)
        · refine x_iconstv (v := 0) dX6_takes_66 (by decide) ?_
          exact y_ret dX6_takes_67 rfl (rfl) (by first | (simp_all [b2i_z, b2i, canV, dl_pos]; done) | (simp_all [b2i_z, b2i, canV, dl_pos] <;> grind)) (rfl)
        · exact absurd c_34 (by decide)
    · refine x_iconstv (v := 1) dX6_takes_22 (by decide) ?_
      refine x_goto 27 dX6_takes_23 (by decide) ?_
      refine x_istore_n dX6_takes_27 (by decide) rfl ?_
      refine x_iload_n dX6_takes_28 rfl ?_
      refine x_iload_n dX6_takes_29 rfl ?_
      refine x_icmp_eq 66 dX6_takes_30 (by decide) (fun c_30 => ?_) (fun c_30 => ?_)
      · refine x_iconstv (v := 0) dX6_takes_66 (by decide) ?_
        exact y_ret dX6_takes_67 rfl (rfl) (by first | (simp_all [b2i_z, b2i, canV, dl_pos]; done) | (simp_all [b2i_z, b2i, canV, dl_pos] <;> grind)) (rfl)
      · refine x_iload_n dX6_takes_33 rfl ?_
        refine x_if_eq 66 dX6_takes_34 (by decide) (fun c_34 => ?_) (fun c_34 => ?_)
        · exact absurd c_34 (by decide)
        · refine x_aload_n dX6_takes_37 rfl ?_
          refine x_iload_n dX6_takes_38 rfl ?_
          refine y_callV (as := [_]) okX6_daysLeft lkX6_68 dX6_takes_39 rfl (by decide) rfl (r_daysLeft hV ht) (by omega) rfl (by simp [Value.category]) (Nat.le_of_ble_eq_true rfl) rfl rfl (cat8 rfl) ?_
          refine x_if_le 66 dX6_takes_42 (by decide) (fun c_42 => ?_) (fun c_42 => ?_)
          · refine x_iconstv (v := 0) dX6_takes_66 (by decide) ?_
            exact y_ret dX6_takes_67 rfl (rfl) (by first | (simp_all [b2i_z, b2i, canV, dl_pos]; done) | (simp_all [b2i_z, b2i, canV, dl_pos] <;> grind)) (rfl)
          · refine x_aload_n dX6_takes_45 rfl ?_
            refine x_iload_n dX6_takes_46 rfl ?_
            refine y_callV (as := [_]) okX6_daysLeft lkX6_68 dX6_takes_47 rfl (by decide) rfl (r_daysLeft hV hg) (by omega) rfl (by simp [Value.category]) (Nat.le_of_ble_eq_true rfl) rfl rfl (cat8 rfl) ?_
            refine x_if_le 66 dX6_takes_50 (by decide) (fun c_50 => ?_) (fun c_50 => ?_)
            · refine x_iconstv (v := 0) dX6_takes_66 (by decide) ?_
              exact y_ret dX6_takes_67 rfl (rfl) (by first | (simp_all [b2i_z, b2i, canV, dl_pos]; done) | (simp_all [b2i_z, b2i, canV, dl_pos] <;> grind)) (rfl)
            · refine x_aload_n dX6_takes_53 rfl ?_
              refine x_iload_n dX6_takes_54 rfl ?_
              refine x_iload_n dX6_takes_55 rfl ?_
              refine y_callV (as := [_, _]) okX6_wants lkX6_72 dX6_takes_56 rfl (by decide) rfl (r_wants hV ht hg) (by omega) rfl (by simp [Value.category]) (Nat.le_of_ble_eq_true rfl) rfl rfl (cat8 rfl) ?_
              refine x_if_eq 66 dX6_takes_59 (by decide) (fun c_59 => ?_) (fun c_59 => ?_)
              · refine x_iconstv (v := 0) dX6_takes_66 (by decide) ?_
                exact y_ret dX6_takes_67 rfl (rfl) (by first | (simp_all [b2i_z, b2i, canV, dl_pos]; done) | (simp_all [b2i_z, b2i, canV, dl_pos] <;> grind)) (rfl)
              · refine x_iconstv (v := 1) dX6_takes_62 (by decide) ?_
                refine x_goto 67 dX6_takes_63 (by decide) ?_
                exact y_ret dX6_takes_67 rfl (rfl) (by first | (simp_all [b2i_z, b2i, canV, dl_pos]; done) | (simp_all [b2i_z, b2i, canV, dl_pos] <;> grind)) (rfl)
theorem dl_z {V : Row} {j : Nat} : dl V j = 0 ↔ ¬ 0 < dli V j := by
  unfold dl
  split
  · constructor
    · intro h; rw [h] at *; simp_all
    · intro h; contradiction
  · simp [*]
theorem r_reason {M : Mem} (hV : WF (M 85)) {a b : Nat} (ha : a < nT (M 85)) (hb : b < nT (M 85)) : Y 3 mX6_reason 0 (lent 3 [.ref 84, .int (nI a), .int (nI b)]) [] M (some (.int (rsn (M 85) a b))) M := by
  refine x_aload_n dX6_reason_0 rfl ?_
  refine y_getR fkX6_7 dX6_reason_1 (by decide) rfl rfl ?_
  refine x_bipushv (v := 9) dX6_reason_4 (by decide) ?_
  refine y_ialdn (j := 9) dX6_reason_6 (by decide) rfl (by decide) (by decide) ?_
  refine x_iload_n dX6_reason_7 rfl ?_
  refine x_icmp_eq 22 dX6_reason_8 (by decide) (fun c_8 => ?_) (fun c_8 => ?_)
  · refine x_iconstv (v := 1) dX6_reason_22 (by decide) ?_
    exact y_ret dX6_reason_23 rfl (rfl) (by simp_all [b2i_z, b2i, rsn, dl_z]) (rfl)
  · refine x_aload_n dX6_reason_11 rfl ?_
    refine y_getR fkX6_7 dX6_reason_12 (by decide) rfl rfl ?_
    refine x_bipushv (v := 9) dX6_reason_15 (by decide) ?_
    refine y_ialdn (j := 9) dX6_reason_17 (by decide) rfl (by decide) (by decide) ?_
    refine x_iload_n dX6_reason_18 rfl ?_
    refine x_icmp_ne 24 dX6_reason_19 (by decide) (fun c_19 => ?_) (fun c_19 => ?_)
    · refine x_aload_n dX6_reason_24 rfl ?_
      refine x_iload_n dX6_reason_25 rfl ?_
      refine y_callV (as := [_]) okX6_daysLeft lkX6_68 dX6_reason_26 rfl (by decide) rfl (r_daysLeft hV ha) (by omega) rfl (by simp [Value.category]) (Nat.le_of_ble_eq_true rfl) rfl rfl (cat8 rfl) ?_
      refine x_if_eq 40 dX6_reason_29 (by decide) (fun c_29 => ?_) (fun c_29 => ?_)
      · refine x_iconstv (v := 2) dX6_reason_40 (by decide) ?_
        exact y_ret dX6_reason_41 rfl (rfl) (by simp_all [b2i_z, b2i, rsn, dl_z]) (rfl)
      · refine x_aload_n dX6_reason_32 rfl ?_
        refine x_iload_n dX6_reason_33 rfl ?_
        refine y_callV (as := [_]) okX6_daysLeft lkX6_68 dX6_reason_34 rfl (by decide) rfl (r_daysLeft hV hb) (by omega) rfl (by simp [Value.category]) (Nat.le_of_ble_eq_true rfl) rfl rfl (cat8 rfl) ?_
        refine x_if_ne 42 dX6_reason_37 (by decide) (fun c_37 => ?_) (fun c_37 => ?_)
        · refine x_aload_n dX6_reason_42 rfl ?_
          refine x_iload_n dX6_reason_43 rfl ?_
          refine x_iload_n dX6_reason_44 rfl ?_
          refine y_callV (as := [_, _]) okX6_wants lkX6_72 dX6_reason_45 rfl (by decide) rfl (r_wants hV ha hb) (by omega) rfl (by simp [Value.category]) (Nat.le_of_ble_eq_true rfl) rfl rfl (cat8 rfl) ?_
          refine x_if_ne 55 dX6_reason_48 (by decide) (fun c_48 => ?_) (fun c_48 => ?_)
          · refine x_aload_n dX6_reason_55 rfl ?_
            refine x_iload_n dX6_reason_56 rfl ?_
            refine x_iload_n dX6_reason_57 rfl ?_
            refine y_callV (as := [_, _]) okX6_wants lkX6_72 dX6_reason_58 rfl (by decide) rfl (r_wants hV hb ha) (by omega) rfl (by simp [Value.category]) (Nat.le_of_ble_eq_true rfl) rfl rfl (cat8 rfl) ?_
            refine x_if_ne 68 dX6_reason_61 (by decide) (fun c_61 => ?_) (fun c_61 => ?_)
            · refine x_iconstv (v := 0) dX6_reason_68 (by decide) ?_
              exact y_ret dX6_reason_69 rfl (rfl) (by simp_all [b2i_z, b2i, rsn, dl_z]) (rfl)
            · refine x_iconstv (v := 4) dX6_reason_64 (by decide) ?_
              refine x_goto 69 dX6_reason_65 (by decide) ?_
              exact y_ret dX6_reason_69 rfl (rfl) (by simp_all [b2i_z, b2i, rsn, dl_z]) (rfl)
          · refine x_iconstv (v := 3) dX6_reason_51 (by decide) ?_
            refine x_goto 69 dX6_reason_52 (by decide) ?_
            exact y_ret dX6_reason_69 rfl (rfl) (by simp_all [b2i_z, b2i, rsn, dl_z]) (rfl)
        · refine x_iconstv (v := 2) dX6_reason_40 (by decide) ?_
          exact y_ret dX6_reason_41 rfl (rfl) (by simp_all [b2i_z, b2i, rsn, dl_z]) (rfl)
    · refine x_iconstv (v := 1) dX6_reason_22 (by decide) ?_
      exact y_ret dX6_reason_23 rfl (rfl) (by simp_all [b2i_z, b2i, rsn, dl_z]) (rfl)
theorem r_takesFrom_loop {M : Mem} (hV : WF (M 85)) {t : Nat} (ht : t < nT (M 85)) : ∀ (fu i : Nat) (acc x : Int32), i ≤ nT (M 85) → nT (M 85) - i < fu → x = nI i → acc = sumF (fun g => b2i (canV (M 85) t g)) i → Y 4 mX6_takesFrom 4 [some (.ref 84), some (.int (nI t)), some (.int acc), some (.int x)] [] M (some (.int (sumF (fun g => b2i (canV (M 85) t g)) (nT (M 85))))) M := by
  obtain ⟨hn1, hn2⟩ := WF_n hV
  intro fu
  induction fu with
  | zero => intro i acc x h1 h2; omega
  | succ fu ih =>
    intro i acc x h1 h2 hx ha9
    subst hx
    refine x_iload_n dX6_takesFrom_4 rfl ?_
    refine x_aload_n dX6_takesFrom_5 rfl ?_
    refine y_getR fkX6_7 dX6_takesFrom_6 (by decide) rfl rfl ?_
    refine x_iconstv (v := 1) dX6_takesFrom_9 (by decide) ?_
    refine y_ialdn (j := 1) dX6_takesFrom_10 (by decide) rfl (by decide) (by decide) ?_
    refine x_icmp_ge 37 dX6_takesFrom_11 (by decide) (fun c_11 => ?_) (fun c_11 => ?_)
    · have he := lp_eq hV rfl h1 c_11
      subst he
      refine x_iload_n dX6_takesFrom_37 rfl ?_
      exact y_ret dX6_takesFrom_38 rfl (rfl) (ha9) (rfl)
    · have hlt := lp_lt hV rfl h1 c_11
      refine x_iload_n dX6_takesFrom_14 rfl ?_
      refine x_aload_n dX6_takesFrom_15 rfl ?_
      refine x_iload_n dX6_takesFrom_16 rfl ?_
      refine x_iload_n dX6_takesFrom_17 rfl ?_
      refine y_callV (as := [_, _]) okX6_takes lkX6_79 dX6_takesFrom_18 rfl (by decide) rfl (r_takes hV ht hlt) (by omega) rfl (by simp [Value.category]) (Nat.le_of_ble_eq_true rfl) rfl rfl (cat8 rfl) ?_
      refine x_if_eq 28 dX6_takesFrom_21 (by decide) (fun c_21 => ?_) (fun c_21 => ?_)
      · refine x_iconstv (v := 0) dX6_takesFrom_28 (by decide) ?_
        refine x_iadd dX6_takesFrom_29 ?_
        refine x_istore_n dX6_takesFrom_30 (by decide) rfl ?_
        refine x_iincv (v := 1) dX6_takesFrom_31 rfl (by decide) rfl (by decide) ?_
        refine x_goto 4 dX6_takesFrom_34 (by decide) ?_
        exact ih (i + 1) _ _ (by omega) (by omega) (by rw [nI_1]) (by first | (simp_all [sumF, ind, b2i_z, b2i, dl_z]; done) | (simp_all [sumF, ind, b2i_z, b2i, dl_z] <;> grind))
      · refine x_iconstv (v := 1) dX6_takesFrom_24 (by decide) ?_
        refine x_goto 29 dX6_takesFrom_25 (by decide) ?_
        refine x_iadd dX6_takesFrom_29 ?_
        refine x_istore_n dX6_takesFrom_30 (by decide) rfl ?_
        refine x_iincv (v := 1) dX6_takesFrom_31 rfl (by decide) rfl (by decide) ?_
        refine x_goto 4 dX6_takesFrom_34 (by decide) ?_
        exact ih (i + 1) _ _ (by omega) (by omega) (by rw [nI_1]) (by first | (simp_all [sumF, ind, b2i_z, b2i, dl_z]; done) | (simp_all [sumF, ind, b2i_z, b2i, dl_z] <;> grind))
theorem r_takesFrom {M : Mem} (hV : WF (M 85)) {t : Nat} (ht : t < nT (M 85)) : Y 4 mX6_takesFrom 0 (lent 4 [.ref 84, .int (nI t)]) [] M (some (.int (sumF (fun g => b2i (canV (M 85) t g)) (nT (M 85))))) M := by
  refine x_iconstv (v := 0) dX6_takesFrom_0 (by decide) ?_
  refine x_istore_n dX6_takesFrom_1 (by decide) rfl ?_
  refine x_iconstv (v := 0) dX6_takesFrom_2 (by decide) ?_
  refine x_istore_n dX6_takesFrom_3 (by decide) rfl ?_
  exact r_takesFrom_loop hV ht (nT (M 85) + 1) 0 0 0 (Nat.zero_le _) (by omega) rfl rfl
theorem r_givesTo_loop {M : Mem} (hV : WF (M 85)) {g : Nat} (hg : g < nT (M 85)) : ∀ (fu i : Nat) (acc x : Int32), i ≤ nT (M 85) → nT (M 85) - i < fu → x = nI i → acc = sumF (fun t => b2i (canV (M 85) t g)) i → Y 4 mX6_givesTo 4 [some (.ref 84), some (.int (nI g)), some (.int acc), some (.int x)] [] M (some (.int (sumF (fun t => b2i (canV (M 85) t g)) (nT (M 85))))) M := by
  obtain ⟨hn1, hn2⟩ := WF_n hV
  intro fu
  induction fu with
  | zero => intro i acc x h1 h2; omega
  | succ fu ih =>
    intro i acc x h1 h2 hx ha9
    subst hx
    refine x_iload_n dX6_givesTo_4 rfl ?_
    refine x_aload_n dX6_givesTo_5 rfl ?_
    refine y_getR fkX6_7 dX6_givesTo_6 (by decide) rfl rfl ?_
    refine x_iconstv (v := 1) dX6_givesTo_9 (by decide) ?_
    refine y_ialdn (j := 1) dX6_givesTo_10 (by decide) rfl (by decide) (by decide) ?_
    refine x_icmp_ge 37 dX6_givesTo_11 (by decide) (fun c_11 => ?_) (fun c_11 => ?_)
    · have he := lp_eq hV rfl h1 c_11
      subst he
      refine x_iload_n dX6_givesTo_37 rfl ?_
      exact y_ret dX6_givesTo_38 rfl (rfl) (ha9) (rfl)
    · have hlt := lp_lt hV rfl h1 c_11
      refine x_iload_n dX6_givesTo_14 rfl ?_
      refine x_aload_n dX6_givesTo_15 rfl ?_
      refine x_iload_n dX6_givesTo_16 rfl ?_
      refine x_iload_n dX6_givesTo_17 rfl ?_
      refine y_callV (as := [_, _]) okX6_takes lkX6_79 dX6_givesTo_18 rfl (by decide) rfl (r_takes hV hlt hg) (by omega) rfl (by simp [Value.category]) (Nat.le_of_ble_eq_true rfl) rfl rfl (cat8 rfl) ?_
      refine x_if_eq 28 dX6_givesTo_21 (by decide) (fun c_21 => ?_) (fun c_21 => ?_)
      · refine x_iconstv (v := 0) dX6_givesTo_28 (by decide) ?_
        refine x_iadd dX6_givesTo_29 ?_
        refine x_istore_n dX6_givesTo_30 (by decide) rfl ?_
        refine x_iincv (v := 1) dX6_givesTo_31 rfl (by decide) rfl (by decide) ?_
        refine x_goto 4 dX6_givesTo_34 (by decide) ?_
        exact ih (i + 1) _ _ (by omega) (by omega) (by rw [nI_1]) (by first | (simp_all [sumF, ind, b2i_z, b2i, dl_z]; done) | (simp_all [sumF, ind, b2i_z, b2i, dl_z] <;> grind))
      · refine x_iconstv (v := 1) dX6_givesTo_24 (by decide) ?_
        refine x_goto 29 dX6_givesTo_25 (by decide) ?_
        refine x_iadd dX6_givesTo_29 ?_
        refine x_istore_n dX6_givesTo_30 (by decide) rfl ?_
        refine x_iincv (v := 1) dX6_givesTo_31 rfl (by decide) rfl (by decide) ?_
        refine x_goto 4 dX6_givesTo_34 (by decide) ?_
        exact ih (i + 1) _ _ (by omega) (by omega) (by rw [nI_1]) (by first | (simp_all [sumF, ind, b2i_z, b2i, dl_z]; done) | (simp_all [sumF, ind, b2i_z, b2i, dl_z] <;> grind))
theorem r_givesTo {M : Mem} (hV : WF (M 85)) {g : Nat} (hg : g < nT (M 85)) : Y 4 mX6_givesTo 0 (lent 4 [.ref 84, .int (nI g)]) [] M (some (.int (sumF (fun t => b2i (canV (M 85) t g)) (nT (M 85))))) M := by
  refine x_iconstv (v := 0) dX6_givesTo_0 (by decide) ?_
  refine x_istore_n dX6_givesTo_1 (by decide) rfl ?_
  refine x_iconstv (v := 0) dX6_givesTo_2 (by decide) ?_
  refine x_istore_n dX6_givesTo_3 (by decide) rfl ?_
  exact r_givesTo_loop hV hg (nT (M 85) + 1) 0 0 0 (Nat.zero_le _) (by omega) rfl rfl
theorem r_spoilt_loop {M : Mem} (hV : WF (M 85))  : ∀ (fu i : Nat) (acc x : Int32), i ≤ nT (M 85) → nT (M 85) - i < fu → x = nI i → acc = sumF (fun t => ind (¬ 0 < dli (M 85) t)) i → Y 3 mX6_spoilt 4 [some (.ref 84), some (.int acc), some (.int x)] [] M (some (.int (spoiltV (M 85)))) M := by
  obtain ⟨hn1, hn2⟩ := WF_n hV
  intro fu
  induction fu with
  | zero => intro i acc x h1 h2; omega
  | succ fu ih =>
    intro i acc x h1 h2 hx ha9
    subst hx
    refine x_iload_n dX6_spoilt_4 rfl ?_
    refine x_aload_n dX6_spoilt_5 rfl ?_
    refine y_getR fkX6_7 dX6_spoilt_6 (by decide) rfl rfl ?_
    refine x_iconstv (v := 1) dX6_spoilt_9 (by decide) ?_
    refine y_ialdn (j := 1) dX6_spoilt_10 (by decide) rfl (by decide) (by decide) ?_
    refine x_icmp_ge 36 dX6_spoilt_11 (by decide) (fun c_11 => ?_) (fun c_11 => ?_)
    · have he := lp_eq hV rfl h1 c_11
      subst he
      refine x_iload_n dX6_spoilt_36 rfl ?_
      exact y_ret dX6_spoilt_37 rfl (rfl) (ha9) (rfl)
    · have hlt := lp_lt hV rfl h1 c_11
      refine x_iload_n dX6_spoilt_14 rfl ?_
      refine x_aload_n dX6_spoilt_15 rfl ?_
      refine x_iload_n dX6_spoilt_16 rfl ?_
      refine y_callV (as := [_]) okX6_daysLeft lkX6_68 dX6_spoilt_17 rfl (by decide) rfl (r_daysLeft hV hlt) (by omega) rfl (by simp [Value.category]) (Nat.le_of_ble_eq_true rfl) rfl rfl (cat8 rfl) ?_
      refine x_if_ne 27 dX6_spoilt_20 (by decide) (fun c_20 => ?_) (fun c_20 => ?_)
      · refine x_iconstv (v := 0) dX6_spoilt_27 (by decide) ?_
        refine x_iadd dX6_spoilt_28 ?_
        refine x_istore_n dX6_spoilt_29 (by decide) rfl ?_
        refine x_iincv (v := 1) dX6_spoilt_30 rfl (by decide) rfl (by decide) ?_
        refine x_goto 4 dX6_spoilt_33 (by decide) ?_
        exact ih (i + 1) _ _ (by omega) (by omega) (by rw [nI_1]) (by first | (simp_all [sumF, ind, b2i_z, b2i, dl_z]; done) | (simp_all [sumF, ind, b2i_z, b2i, dl_z] <;> grind))
      · refine x_iconstv (v := 1) dX6_spoilt_23 (by decide) ?_
        refine x_goto 28 dX6_spoilt_24 (by decide) ?_
        refine x_iadd dX6_spoilt_28 ?_
        refine x_istore_n dX6_spoilt_29 (by decide) rfl ?_
        refine x_iincv (v := 1) dX6_spoilt_30 rfl (by decide) rfl (by decide) ?_
        refine x_goto 4 dX6_spoilt_33 (by decide) ?_
        exact ih (i + 1) _ _ (by omega) (by omega) (by rw [nI_1]) (by first | (simp_all [sumF, ind, b2i_z, b2i, dl_z]; done) | (simp_all [sumF, ind, b2i_z, b2i, dl_z] <;> grind))
theorem r_spoilt {M : Mem} (hV : WF (M 85))  : Y 3 mX6_spoilt 0 (lent 3 [.ref 84]) [] M (some (.int (spoiltV (M 85)))) M := by
  refine x_iconstv (v := 0) dX6_spoilt_0 (by decide) ?_
  refine x_istore_n dX6_spoilt_1 (by decide) rfl ?_
  refine x_iconstv (v := 0) dX6_spoilt_2 (by decide) ?_
  refine x_istore_n dX6_spoilt_3 (by decide) rfl ?_
  exact r_spoilt_loop hV (nT (M 85) + 1) 0 0 0 (Nat.zero_le _) (by omega) rfl rfl
theorem r_bits_loop {M : Mem} {s : Int32} : ∀ (fu i : Nat) (acc x : Int32), i ≤ 7 → 7 - i < fu → x = nI i → acc = sumF (fun k => s >>> (nI k &&& 31) &&& 1) i → Y 0 mX6_bits 4 [some (.int s), some (.int acc), some (.int x)] [] M (some (.int (bits7 s))) M := by
  have h6 : ∀ i : Nat, i ≤ 7 → (7 : Int32) ≤ nI i → i = 7 := by
    intro i h1 h2
    have := (nI_leI (a := 7) (b := i) (by decide) (by omega)).mp h2
    omega
  have h6l : ∀ i : Nat, i ≤ 7 → ¬ (7 : Int32) ≤ nI i → i < 7 := by
    intro i h1 h2
    rcases Nat.lt_or_ge i 7 with q | q
    · exact q
    · exact absurd (nI_le (a := 7) (b := i) q (by omega)) h2
  intro fu
  induction fu with
  | zero => intro i acc x h1 h2; omega
  | succ fu ih =>
    intro i acc x h1 h2 hx ha9
    subst hx
    refine x_iload_n dX6_bits_4 rfl ?_
    refine x_bipushv (v := 7) dX6_bits_5 (by decide) ?_
    refine x_icmp_ge 24 dX6_bits_7 (by decide) (fun c_7 => ?_) (fun c_7 => ?_)
    · have he := h6 i h1 c_7
      subst he
      refine x_iload_n dX6_bits_24 rfl ?_
      exact y_ret dX6_bits_25 rfl (rfl) (ha9) (rfl)
    · have hlt := h6l i h1 c_7
      refine x_iload_n dX6_bits_10 rfl ?_
      refine x_iload_n dX6_bits_11 rfl ?_
      refine x_iload_n dX6_bits_12 rfl ?_
      refine x_ishr dX6_bits_13 ?_
      refine x_iconstv (v := 1) dX6_bits_14 (by decide) ?_
      refine x_iand dX6_bits_15 ?_
      refine x_iadd dX6_bits_16 ?_
      refine x_istore_n dX6_bits_17 (by decide) rfl ?_
      refine x_iincv (v := 1) dX6_bits_18 rfl (by decide) rfl (by decide) ?_
      refine x_goto 4 dX6_bits_21 (by decide) ?_
      exact ih (i + 1) _ _ (by omega) (by omega) (by rw [nI_1]) (by simp_all [sumF])
theorem r_bits {M : Mem} {s : Int32} : Y 0 mX6_bits 0 (lent 3 [.int s]) [] M (some (.int (bits7 s))) M := by
  refine x_iconstv (v := 0) dX6_bits_0 (by decide) ?_
  refine x_istore_n dX6_bits_1 (by decide) rfl ?_
  refine x_iconstv (v := 0) dX6_bits_2 (by decide) ?_
  refine x_istore_n dX6_bits_3 (by decide) rfl ?_
  exact r_bits_loop 8 0 0 0 (by omega) (by omega) rfl rfl
theorem r_needs_loop {M : Mem} (hV : WF (M 85))  : ∀ (fu i : Nat) (acc x : Int32), i ≤ nT (M 85) → nT (M 85) - i < fu → x = nI i → acc = sumF (fun t => bits7 (M 85 (23 + 5 * t))) i → Y 2 mX6_needs 4 [some (.ref 84), some (.int acc), some (.int x)] [] M (some (.int (needsV (M 85)))) M := by
  obtain ⟨hn1, hn2⟩ := WF_n hV
  intro fu
  induction fu with
  | zero => intro i acc x h1 h2; omega
  | succ fu ih =>
    intro i acc x h1 h2 hx ha9
    subst hx
    refine x_iload_n dX6_needs_4 rfl ?_
    refine x_aload_n dX6_needs_5 rfl ?_
    refine y_getR fkX6_7 dX6_needs_6 (by decide) rfl rfl ?_
    refine x_iconstv (v := 1) dX6_needs_9 (by decide) ?_
    refine y_ialdn (j := 1) dX6_needs_10 (by decide) rfl (by decide) (by decide) ?_
    refine x_icmp_ge 32 dX6_needs_11 (by decide) (fun c_11 => ?_) (fun c_11 => ?_)
    · have he := lp_eq hV rfl h1 c_11
      subst he
      refine x_iload_n dX6_needs_32 rfl ?_
      exact y_ret dX6_needs_33 rfl (rfl) (ha9) (rfl)
    · have hlt := lp_lt hV rfl h1 c_11
      refine x_iload_n dX6_needs_14 rfl ?_
      refine x_aload_n dX6_needs_15 rfl ?_
      refine x_iload_n dX6_needs_16 rfl ?_
      refine x_iconstv (v := 1) dX6_needs_17 (by decide) ?_
      refine y_callV (as := [_, _]) okX6_of lkX6_65 dX6_needs_18 rfl (by decide) rfl (r_of1 (b6 hV hlt)) (by omega) rfl (by simp [Value.category]) (Nat.le_of_ble_eq_true rfl) rfl rfl (cat8 rfl) ?_
      refine y_callS (as := [_]) okX6_bits lkX6_166 dX6_needs_21 rfl (r_bits) (by omega) rfl (by simp [Value.category]) (Nat.le_of_ble_eq_true rfl) (cat8 rfl) ?_
      refine x_iadd dX6_needs_24 ?_
      refine x_istore_n dX6_needs_25 (by decide) rfl ?_
      refine x_iincv (v := 1) dX6_needs_26 rfl (by decide) rfl (by decide) ?_
      refine x_goto 4 dX6_needs_29 (by decide) ?_
      exact ih (i + 1) _ _ (by omega) (by omega) (by rw [nI_1]) (by first | (simp_all [sumF, ind, b2i_z, b2i, dl_z]; done) | (simp_all [sumF, ind, b2i_z, b2i, dl_z] <;> grind))
theorem r_needs {M : Mem} (hV : WF (M 85))  : Y 2 mX6_needs 0 (lent 3 [.ref 84]) [] M (some (.int (needsV (M 85)))) M := by
  refine x_iconstv (v := 0) dX6_needs_0 (by decide) ?_
  refine x_istore_n dX6_needs_1 (by decide) rfl ?_
  refine x_iconstv (v := 0) dX6_needs_2 (by decide) ?_
  refine x_istore_n dX6_needs_3 (by decide) rfl ?_
  exact r_needs_loop hV (nT (M 85) + 1) 0 0 0 (Nat.zero_le _) (by omega) rfl rfl
theorem r_stuck_loop {M : Mem} (hV : WF (M 85))  : ∀ (fu i : Nat) (acc x : Int32), i ≤ nT (M 85) → nT (M 85) - i < fu → x = nI i → acc = sumF (fun t => ind (0 < M 85 (23 + 5 * t) ∧ sumF (fun g => b2i (canV (M 85) t g)) (nT (M 85)) = 0)) i → Y 5 mX6_stuck 4 [some (.ref 84), some (.int acc), some (.int x)] [] M (some (.int (sumF (fun t => ind (0 < M 85 (23 + 5 * t) ∧ sumF (fun g => b2i (canV (M 85) t g)) (nT (M 85)) = 0)) (nT (M 85))))) M := by
  obtain ⟨hn1, hn2⟩ := WF_n hV
  intro fu
  induction fu with
  | zero => intro i acc x h1 h2; omega
  | succ fu ih =>
    intro i acc x h1 h2 hx ha9
    subst hx
    refine x_iload_n dX6_stuck_4 rfl ?_
    refine x_aload_n dX6_stuck_5 rfl ?_
    refine y_getR fkX6_7 dX6_stuck_6 (by decide) rfl rfl ?_
    refine x_iconstv (v := 1) dX6_stuck_9 (by decide) ?_
    refine y_ialdn (j := 1) dX6_stuck_10 (by decide) rfl (by decide) (by decide) ?_
    refine x_icmp_ge 45 dX6_stuck_11 (by decide) (fun c_11 => ?_) (fun c_11 => ?_)
    · have he := lp_eq hV rfl h1 c_11
      subst he
      refine x_iload_n dX6_stuck_45 rfl ?_
      exact y_ret dX6_stuck_46 rfl (rfl) (ha9) (rfl)
    · have hlt := lp_lt hV rfl h1 c_11
      refine x_iload_n dX6_stuck_14 rfl ?_
      refine x_aload_n dX6_stuck_15 rfl ?_
      refine x_iload_n dX6_stuck_16 rfl ?_
      refine x_iconstv (v := 1) dX6_stuck_17 (by decide) ?_
      refine y_callV (as := [_, _]) okX6_of lkX6_65 dX6_stuck_18 rfl (by decide) rfl (r_of1 (b6 hV hlt)) (by omega) rfl (by simp [Value.category]) (Nat.le_of_ble_eq_true rfl) rfl rfl (cat8 rfl) ?_
      refine x_if_le 36 dX6_stuck_21 (by decide) (fun c_21 => ?_) (fun c_21 => ?_)
      · refine x_iconstv (v := 0) dX6_stuck_36 (by decide) ?_
        refine x_iadd dX6_stuck_37 ?_
        refine x_istore_n dX6_stuck_38 (by decide) rfl ?_
        refine x_iincv (v := 1) dX6_stuck_39 rfl (by decide) rfl (by decide) ?_
        refine x_goto 4 dX6_stuck_42 (by decide) ?_
        exact ih (i + 1) _ _ (by omega) (by omega) (by rw [nI_1]) (by first | (simp_all [sumF, ind, b2i_z, b2i, dl_z]; done) | (simp_all [sumF, ind, b2i_z, b2i, dl_z] <;> grind))
      · refine x_aload_n dX6_stuck_24 rfl ?_
        refine x_iload_n dX6_stuck_25 rfl ?_
        refine y_callV (as := [_]) okX6_takesFrom lkX6_151 dX6_stuck_26 rfl (by decide) rfl (r_takesFrom hV hlt) (by omega) rfl (by simp [Value.category]) (Nat.le_of_ble_eq_true rfl) rfl rfl (cat8 rfl) ?_
        refine x_if_ne 36 dX6_stuck_29 (by decide) (fun c_29 => ?_) (fun c_29 => ?_)
        · refine x_iconstv (v := 0) dX6_stuck_36 (by decide) ?_
          refine x_iadd dX6_stuck_37 ?_
          refine x_istore_n dX6_stuck_38 (by decide) rfl ?_
          refine x_iincv (v := 1) dX6_stuck_39 rfl (by decide) rfl (by decide) ?_
          refine x_goto 4 dX6_stuck_42 (by decide) ?_
          exact ih (i + 1) _ _ (by omega) (by omega) (by rw [nI_1]) (by first | (simp_all [sumF, ind, b2i_z, b2i, dl_z]; done) | (simp_all [sumF, ind, b2i_z, b2i, dl_z] <;> grind))
        · refine x_iconstv (v := 1) dX6_stuck_32 (by decide) ?_
          refine x_goto 37 dX6_stuck_33 (by decide) ?_
          refine x_iadd dX6_stuck_37 ?_
          refine x_istore_n dX6_stuck_38 (by decide) rfl ?_
          refine x_iincv (v := 1) dX6_stuck_39 rfl (by decide) rfl (by decide) ?_
          refine x_goto 4 dX6_stuck_42 (by decide) ?_
          exact ih (i + 1) _ _ (by omega) (by omega) (by rw [nI_1]) (by first | (simp_all [sumF, ind, b2i_z, b2i, dl_z]; done) | (simp_all [sumF, ind, b2i_z, b2i, dl_z] <;> grind))
theorem r_stuck {M : Mem} (hV : WF (M 85))  : Y 5 mX6_stuck 0 (lent 3 [.ref 84]) [] M (some (.int (sumF (fun t => ind (0 < M 85 (23 + 5 * t) ∧ sumF (fun g => b2i (canV (M 85) t g)) (nT (M 85)) = 0)) (nT (M 85))))) M := by
  refine x_iconstv (v := 0) dX6_stuck_0 (by decide) ?_
  refine x_istore_n dX6_stuck_1 (by decide) rfl ?_
  refine x_iconstv (v := 0) dX6_stuck_2 (by decide) ?_
  refine x_istore_n dX6_stuck_3 (by decide) rfl ?_
  exact r_stuck_loop hV (nT (M 85) + 1) 0 0 0 (Nat.zero_le _) (by omega) rfl rfl
end
section
def WFa (V : Row) : Prop := ∀ j, j < nT V → vp_in (V (25 + 5 * j)) 10
def setR (M : Mem) (a : Nat) (V : Row) : Mem := fun k => if k = a then V else M k
theorem updM_row {M : Mem} {a i : Nat} {x : Int32} : updM M a i x = setR M a (upd (M a) i x) := by
  funext k j
  by_cases hk : k = a
  · subst hk; simp [updM, setR, upd]
  · simp [updM, setR, hk]
theorem row_at {M : Mem} {a : Nat} {V : Row} : setR M a V a = V := by simp [setR]
theorem row_row {M : Mem} {a : Nat} {V W : Row} : setR (setR M a V) a W = setR M a W := by
  funext k
  by_cases hk : k = a <;> simp [setR, hk]
theorem row_self {M : Mem} {a : Nat} : setR M a (M a) = M := by
  funext k
  by_cases hk : k = a <;> simp [setR, hk]
theorem row_ne {M : Mem} {a k : Nat} {V : Row} (h : k ≠ a) : setR M a V k = M k := by simp [setR, h]
/-- a trader has the ware k of the age a -/
def gets1 (V : Row) (t k : Nat) (a : Int32) : Row := upd (upd V (24 + 5 * t) (nI k)) (25 + 5 * t) a
def gets2 (V : Row) (t k : Nat) : Row := upd V (23 + 5 * t) (V (23 + 5 * t) &&& (1 <<< (nI k &&& 31) ^^^ -1))
def gets3 (V : Row) (t : Nat) : Row := upd V (26 + 5 * t) (V (26 + 5 * t) + 1)
def gets4 (V : Row) (k : Nat) : Row := upd V (11 + 2 * k) (V (11 + 2 * k) + 1)
def gets5 (V : Row) : Row := upd V 2 (V 2 + 1)
def getsV (V : Row) (t k : Nat) (a : Int32) : Row := gets5 (gets4 (gets3 (gets2 (gets1 V t k a) t k) t) k)
def come1 (V : Row) (n : Nat) (mk w : Int32) : Row := upd (upd (upd (upd (upd V (22 + 5 * n) mk) (23 + 5 * n) w) (24 + 5 * n) mk) (25 + 5 * n) 0) (26 + 5 * n) 0
def come2 (V : Row) : Row := upd V 4 (V 4 + 1)
def comeV (V : Row) (mk w : Int32) : Row := come2 (come1 (upd V 1 (V 1 + 1)) (nT V) mk w)
/-- a day passes for the first traders: the row, and how many wares are thrown away -/
def ps1 (W : Row) (i : Nat) : Row := upd W (25 + 5 * i) (W (25 + 5 * i) + 1)
def ps2 (W : Row) (i : Nat) : Row := upd (upd W (24 + 5 * i) (W (22 + 5 * i))) (25 + 5 * i) 0
def pl (V : Row) : Nat → Row × Int32
  | 0 => (upd V 0 (V 0 + 1), 0)
  | i + 1 => if dl (ps1 (pl V i).1 i) i = 0 then (ps2 (ps1 (pl V i).1 i) i, (pl V i).2 + 1) else (ps1 (pl V i).1 i, (pl V i).2)
def lotx (x : Int32) : Int32 := (421 * x + 1663) - (421 * x + 1663) / 10000 * 10000
def rem32 (x y : Int32) : Int32 := x - x / y * y
def pd1 (W : Row) (c : Int32) : Row := upd W 3 (W 3 + c)
def pd2 (W : Row) (c : Int32) : Row := upd W 4 (W 4 + c)
def pd3 (W : Row) : Row := upd W 8 (lotx (W 8))
def pd4 (W : Row) : Row := upd W 9 (if rem32 (W 8) (W 1 + 1) < W 1 then rem32 (W 8) (W 1 + 1) else -4)
def passV (V : Row) : Row := pd4 (pd3 (pd2 (pd1 (pl V (nT V)).1 (pl V (nT V)).2) (pl V (nT V)).2))
def thrV (V : Row) : Int32 := (pl V (nT V)).2
def rowN (V : Row) (n : Nat) (W : Row) : Row := fun j => if j < n then V j else W j
end
section
theorem r_at0k {M : Mem} {k : Nat} : Y 0 mX6_at 0 (lent 2 [.int (nI k), .int 0]) [] M (some (.int (nI (22 + 5 * k)))) M := by
  have h1 := r_at (M := M) (k := k) (w := 0)
  rw [show 22 + 5 * k + 0 = 22 + 5 * k by omega] at h1
  exact h1
theorem r_at1k {M : Mem} {k : Nat} : Y 0 mX6_at 0 (lent 2 [.int (nI k), .int 1]) [] M (some (.int (nI (23 + 5 * k)))) M := by
  have h1 := r_at (M := M) (k := k) (w := 1)
  rw [show 22 + 5 * k + 1 = 23 + 5 * k by omega] at h1
  exact h1
theorem r_at2k {M : Mem} {k : Nat} : Y 0 mX6_at 0 (lent 2 [.int (nI k), .int 2]) [] M (some (.int (nI (24 + 5 * k)))) M := by
  have h1 := r_at (M := M) (k := k) (w := 2)
  rw [show 22 + 5 * k + 2 = 24 + 5 * k by omega] at h1
  exact h1
theorem r_at3k {M : Mem} {k : Nat} : Y 0 mX6_at 0 (lent 2 [.int (nI k), .int 3]) [] M (some (.int (nI (25 + 5 * k)))) M := by
  have h1 := r_at (M := M) (k := k) (w := 3)
  rw [show 22 + 5 * k + 3 = 25 + 5 * k by omega] at h1
  exact h1
theorem r_at4k {M : Mem} {k : Nat} : Y 0 mX6_at 0 (lent 2 [.int (nI k), .int 4]) [] M (some (.int (nI (26 + 5 * k)))) M := by
  have h1 := r_at (M := M) (k := k) (w := 4)
  rw [show 22 + 5 * k + 4 = 26 + 5 * k by omega] at h1
  exact h1
theorem r_ofKind0k {M : Mem} {k : Nat} : Y 0 mX6_ofKind 0 (lent 2 [.int (nI k), .int 0]) [] M (some (.int (nI (10 + 2 * k)))) M := by
  have h1 := r_ofKind (M := M) (k := k) (w := 0)
  rw [show 10 + 2 * k + 0 = 10 + 2 * k by omega] at h1
  exact h1
theorem r_ofKind1k {M : Mem} {k : Nat} : Y 0 mX6_ofKind 0 (lent 2 [.int (nI k), .int 1]) [] M (some (.int (nI (11 + 2 * k)))) M := by
  have h1 := r_ofKind (M := M) (k := k) (w := 1)
  rw [show 10 + 2 * k + 1 = 11 + 2 * k by omega] at h1
  exact h1
theorem r_gets {M : Mem} {t k : Nat} {a : Int32} (ht : t < 7) (hk : k < 6) : Y 1 mX6_gets 0 (lent 4 [.ref 84, .int (nI t), .int (nI k), .int a]) [] M none (setR M 85 (getsV (M 85) t k a)) := by
  refine x_aload_n dX6_gets_0 rfl ?_
  refine y_getR fkX6_7 dX6_gets_1 (by decide) rfl rfl ?_
  refine x_iload_n dX6_gets_4 rfl ?_
  refine x_iconstv (v := 2) dX6_gets_5 (by decide) ?_
  refine y_callS (as := [_, _]) okX6_at lkX6_59 dX6_gets_6 rfl (r_at2k (k := t)) (by omega) rfl (by simp [Value.category]) (Nat.le_of_ble_eq_true rfl) (cat8 rfl) ?_
  refine x_iload_n dX6_gets_9 rfl ?_
  refine y_iastn (j := 24 + 5 * t) dX6_gets_10 (by decide) rfl (ixN (by omega)) (by omega) ?_
  refine x_aload_n dX6_gets_11 rfl ?_
  refine y_getR fkX6_7 dX6_gets_12 (by decide) rfl rfl ?_
  refine x_iload_n dX6_gets_15 rfl ?_
  refine x_iconstv (v := 3) dX6_gets_16 (by decide) ?_
  refine y_callS (as := [_, _]) okX6_at lkX6_59 dX6_gets_17 rfl (r_at3k (k := t)) (by omega) rfl (by simp [Value.category]) (Nat.le_of_ble_eq_true rfl) (cat8 rfl) ?_
  refine x_iload_n dX6_gets_20 rfl ?_
  refine y_iastn (j := 25 + 5 * t) dX6_gets_21 (by decide) rfl (ixN (by omega)) (by omega) ?_
  refine x_aload_n dX6_gets_22 rfl ?_
  refine y_getR fkX6_7 dX6_gets_23 (by decide) rfl rfl ?_
  refine x_iload_n dX6_gets_26 rfl ?_
  refine x_iconstv (v := 1) dX6_gets_27 (by decide) ?_
  refine y_callS (as := [_, _]) okX6_at lkX6_59 dX6_gets_28 rfl (r_at1k (k := t)) (by omega) rfl (by simp [Value.category]) (Nat.le_of_ble_eq_true rfl) (cat8 rfl) ?_
  refine x_dup2_ir dX6_gets_31 ?_
  refine y_ialdn (j := 23 + 5 * t) dX6_gets_32 (by decide) rfl (ixN (by omega)) (by omega) ?_
  refine x_iconstv (v := 1) dX6_gets_33 (by decide) ?_
  refine x_iload_n dX6_gets_34 rfl ?_
  refine x_ishl dX6_gets_35 ?_
  refine x_iconstv (v := -1) dX6_gets_36 (by decide) ?_
  refine x_ixor dX6_gets_37 ?_
  refine x_iand dX6_gets_38 ?_
  refine y_iastn (j := 23 + 5 * t) dX6_gets_39 (by decide) rfl (ixN (by omega)) (by omega) ?_
  refine x_aload_n dX6_gets_40 rfl ?_
  refine y_getR fkX6_7 dX6_gets_41 (by decide) rfl rfl ?_
  refine x_iload_n dX6_gets_44 rfl ?_
  refine x_iconstv (v := 4) dX6_gets_45 (by decide) ?_
  refine y_callS (as := [_, _]) okX6_at lkX6_59 dX6_gets_46 rfl (r_at4k (k := t)) (by omega) rfl (by simp [Value.category]) (Nat.le_of_ble_eq_true rfl) (cat8 rfl) ?_
  refine x_dup2_ir dX6_gets_49 ?_
  refine y_ialdn (j := 26 + 5 * t) dX6_gets_50 (by decide) rfl (ixN (by omega)) (by omega) ?_
  refine x_iconstv (v := 1) dX6_gets_51 (by decide) ?_
  refine x_iadd dX6_gets_52 ?_
  refine y_iastn (j := 26 + 5 * t) dX6_gets_53 (by decide) rfl (ixN (by omega)) (by omega) ?_
  refine x_aload_n dX6_gets_54 rfl ?_
  refine y_getR fkX6_7 dX6_gets_55 (by decide) rfl rfl ?_
  refine x_iload_n dX6_gets_58 rfl ?_
  refine x_iconstv (v := 1) dX6_gets_59 (by decide) ?_
  refine y_callS (as := [_, _]) okX6_ofKind lkX6_47 dX6_gets_60 rfl (r_ofKind1k (k := k)) (by omega) rfl (by simp [Value.category]) (Nat.le_of_ble_eq_true rfl) (cat8 rfl) ?_
  refine x_dup2_ir dX6_gets_63 ?_
  refine y_ialdn (j := 11 + 2 * k) dX6_gets_64 (by decide) rfl (ixN (by omega)) (by omega) ?_
  refine x_iconstv (v := 1) dX6_gets_65 (by decide) ?_
  refine x_iadd dX6_gets_66 ?_
  refine y_iastn (j := 11 + 2 * k) dX6_gets_67 (by decide) rfl (ixN (by omega)) (by omega) ?_
  refine x_aload_n dX6_gets_68 rfl ?_
  refine y_getR fkX6_7 dX6_gets_69 (by decide) rfl rfl ?_
  refine x_iconstv (v := 2) dX6_gets_72 (by decide) ?_
  refine x_dup2_ir dX6_gets_73 ?_
  refine y_ialdn (j := 2) dX6_gets_74 (by decide) rfl (by decide) (by decide) ?_
  refine x_iconstv (v := 1) dX6_gets_75 (by decide) ?_
  refine x_iadd dX6_gets_76 ?_
  refine y_iastn (j := 2) dX6_gets_77 (by decide) rfl (by decide) (by decide) ?_
  exact y_vret dX6_gets_78 rfl (by simp only [updM_row, row_at, row_row]; rfl)
theorem r_comes {M : Mem} {mk w : Int32} (hn : M 85 1 = nI (nT (M 85))) (h6 : nT (M 85) < 7) : Y 1 mX6_comes 0 (lent 4 [.ref 84, .int mk, .int w]) [] M (some (.int (M 85 1))) (setR M 85 (comeV (M 85) mk w)) := by
  refine x_aload_n dX6_comes_0 rfl ?_
  refine y_getR fkX6_7 dX6_comes_1 (by decide) rfl rfl ?_
  refine x_iconstv (v := 1) dX6_comes_4 (by decide) ?_
  refine y_ialdn (j := 1) dX6_comes_5 (by decide) rfl (by decide) (by decide) ?_
  rw [hn]
  refine x_istore_n dX6_comes_6 (by decide) rfl ?_
  refine x_aload_n dX6_comes_7 rfl ?_
  refine y_getR fkX6_7 dX6_comes_8 (by decide) rfl rfl ?_
  refine x_iconstv (v := 1) dX6_comes_11 (by decide) ?_
  refine x_dup2_ir dX6_comes_12 ?_
  refine y_ialdn (j := 1) dX6_comes_13 (by decide) rfl (by decide) (by decide) ?_
  refine x_iconstv (v := 1) dX6_comes_14 (by decide) ?_
  refine x_iadd dX6_comes_15 ?_
  refine y_iastn (j := 1) dX6_comes_16 (by decide) rfl (by decide) (by decide) ?_
  refine x_aload_n dX6_comes_17 rfl ?_
  refine y_getR fkX6_7 dX6_comes_18 (by decide) rfl rfl ?_
  refine x_iload_n dX6_comes_21 rfl ?_
  refine x_iconstv (v := 0) dX6_comes_22 (by decide) ?_
  refine y_callS (as := [_, _]) okX6_at lkX6_59 dX6_comes_23 rfl (r_at0k (k := nT (M 85))) (by omega) rfl (by simp [Value.category]) (Nat.le_of_ble_eq_true rfl) (cat8 rfl) ?_
  refine x_iload_n dX6_comes_26 rfl ?_
  refine y_iastn (j := 22 + 5 * nT (M 85)) dX6_comes_27 (by decide) rfl (ixN (by omega)) (by omega) ?_
  refine x_aload_n dX6_comes_28 rfl ?_
  refine y_getR fkX6_7 dX6_comes_29 (by decide) rfl rfl ?_
  refine x_iload_n dX6_comes_32 rfl ?_
  refine x_iconstv (v := 1) dX6_comes_33 (by decide) ?_
  refine y_callS (as := [_, _]) okX6_at lkX6_59 dX6_comes_34 rfl (r_at1k (k := nT (M 85))) (by omega) rfl (by simp [Value.category]) (Nat.le_of_ble_eq_true rfl) (cat8 rfl) ?_
  refine x_iload_n dX6_comes_37 rfl ?_
  refine y_iastn (j := 23 + 5 * nT (M 85)) dX6_comes_38 (by decide) rfl (ixN (by omega)) (by omega) ?_
  refine x_aload_n dX6_comes_39 rfl ?_
  refine y_getR fkX6_7 dX6_comes_40 (by decide) rfl rfl ?_
  refine x_iload_n dX6_comes_43 rfl ?_
  refine x_iconstv (v := 2) dX6_comes_44 (by decide) ?_
  refine y_callS (as := [_, _]) okX6_at lkX6_59 dX6_comes_45 rfl (r_at2k (k := nT (M 85))) (by omega) rfl (by simp [Value.category]) (Nat.le_of_ble_eq_true rfl) (cat8 rfl) ?_
  refine x_iload_n dX6_comes_48 rfl ?_
  refine y_iastn (j := 24 + 5 * nT (M 85)) dX6_comes_49 (by decide) rfl (ixN (by omega)) (by omega) ?_
  refine x_aload_n dX6_comes_50 rfl ?_
  refine y_getR fkX6_7 dX6_comes_51 (by decide) rfl rfl ?_
  refine x_iload_n dX6_comes_54 rfl ?_
  refine x_iconstv (v := 3) dX6_comes_55 (by decide) ?_
  refine y_callS (as := [_, _]) okX6_at lkX6_59 dX6_comes_56 rfl (r_at3k (k := nT (M 85))) (by omega) rfl (by simp [Value.category]) (Nat.le_of_ble_eq_true rfl) (cat8 rfl) ?_
  refine x_iconstv (v := 0) dX6_comes_59 (by decide) ?_
  refine y_iastn (j := 25 + 5 * nT (M 85)) dX6_comes_60 (by decide) rfl (ixN (by omega)) (by omega) ?_
  refine x_aload_n dX6_comes_61 rfl ?_
  refine y_getR fkX6_7 dX6_comes_62 (by decide) rfl rfl ?_
  refine x_iload_n dX6_comes_65 rfl ?_
  refine x_iconstv (v := 4) dX6_comes_66 (by decide) ?_
  refine y_callS (as := [_, _]) okX6_at lkX6_59 dX6_comes_67 rfl (r_at4k (k := nT (M 85))) (by omega) rfl (by simp [Value.category]) (Nat.le_of_ble_eq_true rfl) (cat8 rfl) ?_
  refine x_iconstv (v := 0) dX6_comes_70 (by decide) ?_
  refine y_iastn (j := 26 + 5 * nT (M 85)) dX6_comes_71 (by decide) rfl (ixN (by omega)) (by omega) ?_
  refine x_aload_n dX6_comes_72 rfl ?_
  refine y_getR fkX6_7 dX6_comes_73 (by decide) rfl rfl ?_
  refine x_iconstv (v := 4) dX6_comes_76 (by decide) ?_
  refine x_dup2_ir dX6_comes_77 ?_
  refine y_ialdn (j := 4) dX6_comes_78 (by decide) rfl (by decide) (by decide) ?_
  refine x_iconstv (v := 1) dX6_comes_79 (by decide) ?_
  refine x_iadd dX6_comes_80 ?_
  refine y_iastn (j := 4) dX6_comes_81 (by decide) rfl (by decide) (by decide) ?_
  refine x_iload_n dX6_comes_82 rfl ?_
  exact y_ret dX6_comes_83 rfl (rfl) (rfl) (by simp only [updM_row, row_at, row_row]; rfl)
end
section
/-- the class' market: copies, takes, makes -/
def cf7 (M : Mem) (o p : Nat) : Mem := cpyM (cpyM (cpyM (cpyM (cpyM (cpyM (cpyM M (p + 1) (o + 1) 7) (p + 2) (o + 2) 7) (p + 3) (o + 3) 7) (p + 4) (o + 4) 7) (p + 5) (o + 5) 7) (p + 6) (o + 6) 6) (p + 7) (o + 7) 6
def cf1 (M : Mem) (o p j : Nat) : Mem := updM M o j (M p j)
def cfM (M : Mem) (o p : Nat) : Mem := cf1 (cf1 (cf1 (cf1 (cf1 (cf1 (cf1 (cf1 (cf1 (cf7 M o p) o p 7) o p 8) o p 9) o p 10) o p 11) o p 12) o p 13) o p 14) o p 15
def kwM (M : Mem) (o : Nat) : Mem := cpyM (cpyM M (o + 3) (o + 8) 7) (o + 4) (o + 9) 7
def inc (M : Mem) (a j : Nat) : Mem := updM M a j (M a j + 1)
def mwM (M : Mem) (o j : Nat) : Mem := inc (updM (updM M (o + 3) j (M (o + 1) j)) (o + 4) j 0) o 13
def tw1 (M : Mem) (o t k : Nat) (a : Int32) : Mem := updM (updM M (o + 3) t (nI k)) (o + 4) t a
def tw2 (M : Mem) (o t k : Nat) : Mem := updM M (o + 2) t (M (o + 2) t &&& (1 <<< (nI k &&& 31) ^^^ -1))
def twM (M : Mem) (o t k : Nat) (a : Int32) : Mem := inc (inc (tw2 (tw1 M o t k a) o t k) (o + 5) t) (o + 7) k
theorem vpin_T {x : Int32} {n : Nat} (h : vp_in x n) (hn : n < 2 ^ 31) : ∃ j, j < n ∧ x = nI j := vp_in_of h hn
theorem want_msk {x : Int32} {k : Nat} (h : vp_in x 64) (hk : k < 6) : vp_in (x &&& (1 <<< (nI k &&& 31) ^^^ -1)) 64 := by
  obtain ⟨j, hj, rfl⟩ := vp_in_of h (by decide)
  have h1 : ∀ (j : Fin 64) (k : Fin 6), ¬ ((nI j.val &&& (1 <<< (nI k.val &&& 31) ^^^ -1)) < 0 ∨ 64 ≤ (nI j.val &&& (1 <<< (nI k.val &&& 31) ^^^ -1)).toNatClampNeg) := by decide +kernel
  exact h1 ⟨j, hj⟩ ⟨k, hk⟩
theorem nT_upd {V : Row} {i : Nat} {x : Int32} (h : i ≠ 1) : nT (upd V i x) = nT V := by
  unfold nT
  rw [pk_un (Ne.symm h)]
theorem nT_gets {V : Row} {t k : Nat} {a : Int32} : nT (getsV V t k a) = nT V := by
  simp only [getsV, gets5, gets4, gets3, gets2, gets1]
  rw [nT_upd (by omega), nT_upd (by omega), nT_upd (by omega), nT_upd (by omega), nT_upd (by omega), nT_upd (by omega)]
theorem gets_lo {V : Row} {t k i : Nat} {a : Int32} (h : i < 22) (hk : k < 6) : getsV V t k a i = if i = 2 then V 2 + 1 else if i = 11 + 2 * k then V i + 1 else V i := by
  simp only [getsV, gets5, gets4, gets3, gets2, gets1, upd]
  rw [if_neg (show ¬ i = 26 + 5 * t by omega), if_neg (show ¬ 2 = 11 + 2 * k by omega)]
  grind (splits := 20)
theorem gets_0 {V : Row} {t k j : Nat} {a : Int32} (hk : k < 6) : getsV V t k a (22 + 5 * j) = V (22 + 5 * j) := by
  simp only [getsV, gets5, gets4, gets3, gets2, gets1, upd]
  grind (splits := 20)
theorem gets_1 {V : Row} {t k j : Nat} {a : Int32} (hk : k < 6) : getsV V t k a (23 + 5 * j) = if j = t then V (23 + 5 * t) &&& (1 <<< (nI k &&& 31) ^^^ -1) else V (23 + 5 * j) := by
  simp only [getsV, gets5, gets4, gets3, gets2, gets1, upd]
  grind (splits := 20)
theorem gets_2 {V : Row} {t k j : Nat} {a : Int32} (hk : k < 6) : getsV V t k a (24 + 5 * j) = if j = t then nI k else V (24 + 5 * j) := by
  simp only [getsV, gets5, gets4, gets3, gets2, gets1, upd]
  grind (splits := 20)
theorem gets_3 {V : Row} {t k j : Nat} {a : Int32} (hk : k < 6) : getsV V t k a (25 + 5 * j) = if j = t then a else V (25 + 5 * j) := by
  simp only [getsV, gets5, gets4, gets3, gets2, gets1, upd]
  grind (splits := 20)
theorem gets_4 {V : Row} {t k j : Nat} {a : Int32} (hk : k < 6) : getsV V t k a (26 + 5 * j) = if j = t then V (26 + 5 * t) + 1 else V (26 + 5 * j) := by
  simp only [getsV, gets5, gets4, gets3, gets2, gets1, upd]
  grind (splits := 20)
theorem gets_sum {V : Row} {t k : Nat} {a : Int32} (hk : k < 6) : mSum (getsV V t k a) = mSum V + 1 := by
  simp only [mSum, gets_lo (show 11 < 22 by omega) hk, gets_lo (show 13 < 22 by omega) hk, gets_lo (show 15 < 22 by omega) hk, gets_lo (show 17 < 22 by omega) hk, gets_lo (show 19 < 22 by omega) hk, gets_lo (show 21 < 22 by omega) hk]
  rcases (show k = 0 ∨ k = 1 ∨ k = 2 ∨ k = 3 ∨ k = 4 ∨ k = 5 by omega) with rfl | rfl | rfl | rfl | rfl | rfl <;> simp <;> grind
theorem tw_ne {M : Mem} {o t k c : Nat} {a : Int32} (h : c ≠ o + 2 ∧ c ≠ o + 3 ∧ c ≠ o + 4 ∧ c ≠ o + 5 ∧ c ≠ o + 7) : twM M o t k a c = M c := by
  unfold twM inc tw2 tw1
  rw [updM_ne h.2.2.2.2, updM_ne h.2.2.2.1, updM_ne h.1, updM_ne h.2.2.1, updM_ne h.2.1]
theorem RM_tw {M : Mem} {o : Nat} {V : Row} (hR : RM M o V) (hV : WF V) {t k : Nat} {a : Int32} (ht : t < nT V) (hk : k < 6) : RM (twM M o t k a) o (getsV V t k a) := by
  obtain ⟨⟨r7, r8, r9, r10, r11, r12, r13, r14, r15, r2⟩, rk, rt⟩ := hR
  have hn := (WF_n hV).1
  refine ⟨?_, fun i hi => ?_, fun j hj => ?_⟩
  · rw [nT_gets, tw_ne (by omega), gets_sum hk]
    simp only [gets_lo (show 1 < 22 by omega) hk, gets_lo (show 7 < 22 by omega) hk, gets_lo (show 0 < 22 by omega) hk, gets_lo (show 8 < 22 by omega) hk, gets_lo (show 9 < 22 by omega) hk, gets_lo (show 3 < 22 by omega) hk, gets_lo (show 4 < 22 by omega) hk, gets_lo (show 5 < 22 by omega) hk, gets_lo (show 6 < 22 by omega) hk, gets_lo (show 2 < 22 by omega) hk]
    grind
  · obtain ⟨h1, h2⟩ := rk i hi
    rw [tw_ne (c := o + 6) (by omega), gets_lo (by omega) hk, gets_lo (by omega) hk]
    simp only [twM, inc, tw2, tw1, updM]
    refine ⟨?_, ?_⟩ <;> grind (splits := 20)
  · rw [nT_gets] at hj
    obtain ⟨h1, h2, h3, h4, h5⟩ := rt j hj
    rw [tw_ne (c := o + 1) (by omega), gets_0 hk, gets_1 hk, gets_2 hk, gets_3 hk, gets_4 hk]
    simp only [twM, inc, tw2, tw1, updM]
    refine ⟨h1, ?_, ?_, ?_, ?_⟩ <;> grind (splits := 20)
theorem WF_gets {V : Row} (hV : WF V) {t k : Nat} {a : Int32} (ht : t < nT V) (hk : k < 6) : WF (getsV V t k a) := by
  obtain ⟨w1, w2, w3, w4, w5, w6⟩ := hV
  refine ⟨?_, fun j hj => ?_, fun i hi => ?_, ?_, ?_, ?_⟩
  · rw [gets_lo (by omega) hk]; simpa [show ¬ 1 = 11 + 2 * k by omega] using w1
  · rw [nT_gets] at hj
    obtain ⟨a1, a2, a3, -⟩ := w2 j hj
    refine ⟨by rw [gets_0 hk]; exact a1, ?_, ?_, trivial⟩
    · rw [gets_1 hk]
      split
      · rename_i h; subst h; exact want_msk a2 hk
      · exact a2
    · rw [gets_2 hk]
      split
      · exact vp_in_nI hk (by decide)
      · exact a3
  · rw [gets_lo (by omega) hk, if_neg (by omega), if_neg (by omega)]; exact w3 i hi
  · rw [gets_lo (by omega) hk, if_neg (by omega), if_neg (by omega)]; exact w4
  · rw [gets_lo (by omega) hk, if_neg (by omega), if_neg (by omega)]; exact w5
  · rw [nT_gets, gets_lo (by omega) hk, if_neg (by omega), if_neg (by omega)]; exact w6
end
section
theorem y_copyFrom {o p : Nat} (hk : IsMk o) (hk2 : IsMk p) {M : Mem} : Y 1 mX2_copyFrom 0 (lent 2 [.ref o, .ref p]) [] M none (cfM M o p) := by
  refine x_aload_n dX2_copyFrom_0 rfl ?_
  refine y_getR fkX2_9 dX2_copyFrom_1 (hk2.1 0 (by decide)) (hk2.2 0 (by decide)) rfl ?_
  refine x_iconstv (v := 0) dX2_copyFrom_4 (by decide) ?_
  refine x_aload_n dX2_copyFrom_5 rfl ?_
  refine y_getR fkX2_9 dX2_copyFrom_6 (hk.1 0 (by decide)) (hk.2 0 (by decide)) rfl ?_
  refine x_iconstv (v := 0) dX2_copyFrom_9 (by decide) ?_
  refine x_bipushv (v := 7) dX2_copyFrom_10 (by decide) ?_
  refine y_copy dX2_copyFrom_12 lkX2_55 (by decide) (hk2.1 1 (by decide)) (hk.1 1 (by decide)) (hk2.2 1 (by decide)) (hk.2 1 (by decide)) (by decide) (by decide) (by decide) (cat8 rfl) ?_
  refine x_aload_n dX2_copyFrom_15 rfl ?_
  refine y_getR fkX2_15 dX2_copyFrom_16 (hk2.1 0 (by decide)) (hk2.2 0 (by decide)) rfl ?_
  refine x_iconstv (v := 0) dX2_copyFrom_19 (by decide) ?_
  refine x_aload_n dX2_copyFrom_20 rfl ?_
  refine y_getR fkX2_15 dX2_copyFrom_21 (hk.1 0 (by decide)) (hk.2 0 (by decide)) rfl ?_
  refine x_iconstv (v := 0) dX2_copyFrom_24 (by decide) ?_
  refine x_bipushv (v := 7) dX2_copyFrom_25 (by decide) ?_
  refine y_copy dX2_copyFrom_27 lkX2_55 (by decide) (hk2.1 2 (by decide)) (hk.1 2 (by decide)) (hk2.2 2 (by decide)) (hk.2 2 (by decide)) (by decide) (by decide) (by decide) (cat8 rfl) ?_
  refine x_aload_n dX2_copyFrom_30 rfl ?_
  refine y_getR fkX2_18 dX2_copyFrom_31 (hk2.1 0 (by decide)) (hk2.2 0 (by decide)) rfl ?_
  refine x_iconstv (v := 0) dX2_copyFrom_34 (by decide) ?_
  refine x_aload_n dX2_copyFrom_35 rfl ?_
  refine y_getR fkX2_18 dX2_copyFrom_36 (hk.1 0 (by decide)) (hk.2 0 (by decide)) rfl ?_
  refine x_iconstv (v := 0) dX2_copyFrom_39 (by decide) ?_
  refine x_bipushv (v := 7) dX2_copyFrom_40 (by decide) ?_
  refine y_copy dX2_copyFrom_42 lkX2_55 (by decide) (hk2.1 3 (by decide)) (hk.1 3 (by decide)) (hk2.2 3 (by decide)) (hk.2 3 (by decide)) (by decide) (by decide) (by decide) (cat8 rfl) ?_
  refine x_aload_n dX2_copyFrom_45 rfl ?_
  refine y_getR fkX2_21 dX2_copyFrom_46 (hk2.1 0 (by decide)) (hk2.2 0 (by decide)) rfl ?_
  refine x_iconstv (v := 0) dX2_copyFrom_49 (by decide) ?_
  refine x_aload_n dX2_copyFrom_50 rfl ?_
  refine y_getR fkX2_21 dX2_copyFrom_51 (hk.1 0 (by decide)) (hk.2 0 (by decide)) rfl ?_
  refine x_iconstv (v := 0) dX2_copyFrom_54 (by decide) ?_
  refine x_bipushv (v := 7) dX2_copyFrom_55 (by decide) ?_
  refine y_copy dX2_copyFrom_57 lkX2_55 (by decide) (hk2.1 4 (by decide)) (hk.1 4 (by decide)) (hk2.2 4 (by decide)) (hk.2 4 (by decide)) (by decide) (by decide) (by decide) (cat8 rfl) ?_
  refine x_aload_n dX2_copyFrom_60 rfl ?_
  refine y_getR fkX2_24 dX2_copyFrom_61 (hk2.1 0 (by decide)) (hk2.2 0 (by decide)) rfl ?_
  refine x_iconstv (v := 0) dX2_copyFrom_64 (by decide) ?_
  refine x_aload_n dX2_copyFrom_65 rfl ?_
  refine y_getR fkX2_24 dX2_copyFrom_66 (hk.1 0 (by decide)) (hk.2 0 (by decide)) rfl ?_
  refine x_iconstv (v := 0) dX2_copyFrom_69 (by decide) ?_
  refine x_bipushv (v := 7) dX2_copyFrom_70 (by decide) ?_
  refine y_copy dX2_copyFrom_72 lkX2_55 (by decide) (hk2.1 5 (by decide)) (hk.1 5 (by decide)) (hk2.2 5 (by decide)) (hk.2 5 (by decide)) (by decide) (by decide) (by decide) (cat8 rfl) ?_
  refine x_aload_n dX2_copyFrom_75 rfl ?_
  refine y_getR fkX2_27 dX2_copyFrom_76 (hk2.1 0 (by decide)) (hk2.2 0 (by decide)) rfl ?_
  refine x_iconstv (v := 0) dX2_copyFrom_79 (by decide) ?_
  refine x_aload_n dX2_copyFrom_80 rfl ?_
  refine y_getR fkX2_27 dX2_copyFrom_81 (hk.1 0 (by decide)) (hk.2 0 (by decide)) rfl ?_
  refine x_iconstv (v := 0) dX2_copyFrom_84 (by decide) ?_
  refine x_bipushv (v := 6) dX2_copyFrom_85 (by decide) ?_
  refine y_copy dX2_copyFrom_87 lkX2_55 (by decide) (hk2.1 6 (by decide)) (hk.1 6 (by decide)) (hk2.2 6 (by decide)) (hk.2 6 (by decide)) (by decide) (by decide) (by decide) (cat8 rfl) ?_
  refine x_aload_n dX2_copyFrom_90 rfl ?_
  refine y_getR fkX2_30 dX2_copyFrom_91 (hk2.1 0 (by decide)) (hk2.2 0 (by decide)) rfl ?_
  refine x_iconstv (v := 0) dX2_copyFrom_94 (by decide) ?_
  refine x_aload_n dX2_copyFrom_95 rfl ?_
  refine y_getR fkX2_30 dX2_copyFrom_96 (hk.1 0 (by decide)) (hk.2 0 (by decide)) rfl ?_
  refine x_iconstv (v := 0) dX2_copyFrom_99 (by decide) ?_
  refine x_bipushv (v := 6) dX2_copyFrom_100 (by decide) ?_
  refine y_copy dX2_copyFrom_102 lkX2_55 (by decide) (hk2.1 7 (by decide)) (hk.1 7 (by decide)) (hk2.2 7 (by decide)) (hk.2 7 (by decide)) (by decide) (by decide) (by decide) (cat8 rfl) ?_
  refine x_aload_n dX2_copyFrom_105 rfl ?_
  refine x_aload_n dX2_copyFrom_106 rfl ?_
  refine y_getI fkX2_61 dX2_copyFrom_107 (hk2.1 0 (by decide)) (hk2.2 0 (by decide)) rfl ?_
  refine y_putI fkX2_61 dX2_copyFrom_110 (hk.1 0 (by decide)) (hk.2 0 (by decide)) rfl rfl rfl rfl ?_
  refine x_aload_n dX2_copyFrom_113 rfl ?_
  refine x_aload_n dX2_copyFrom_114 rfl ?_
  refine y_getI fkX2_33 dX2_copyFrom_115 (hk2.1 0 (by decide)) (hk2.2 0 (by decide)) rfl ?_
  refine y_putI fkX2_33 dX2_copyFrom_118 (hk.1 0 (by decide)) (hk.2 0 (by decide)) rfl rfl rfl rfl ?_
  refine x_aload_n dX2_copyFrom_121 rfl ?_
  refine x_aload_n dX2_copyFrom_122 rfl ?_
  refine y_getI fkX2_64 dX2_copyFrom_123 (hk2.1 0 (by decide)) (hk2.2 0 (by decide)) rfl ?_
  refine y_putI fkX2_64 dX2_copyFrom_126 (hk.1 0 (by decide)) (hk.2 0 (by decide)) rfl rfl rfl rfl ?_
  refine x_aload_n dX2_copyFrom_129 rfl ?_
  refine x_aload_n dX2_copyFrom_130 rfl ?_
  refine y_getI fkX2_37 dX2_copyFrom_131 (hk2.1 0 (by decide)) (hk2.2 0 (by decide)) rfl ?_
  refine y_putI fkX2_37 dX2_copyFrom_134 (hk.1 0 (by decide)) (hk.2 0 (by decide)) rfl rfl rfl rfl ?_
  refine x_aload_n dX2_copyFrom_137 rfl ?_
  refine x_aload_n dX2_copyFrom_138 rfl ?_
  refine y_getI fkX2_40 dX2_copyFrom_139 (hk2.1 0 (by decide)) (hk2.2 0 (by decide)) rfl ?_
  refine y_putI fkX2_40 dX2_copyFrom_142 (hk.1 0 (by decide)) (hk.2 0 (by decide)) rfl rfl rfl rfl ?_
  refine x_aload_n dX2_copyFrom_145 rfl ?_
  refine x_aload_n dX2_copyFrom_146 rfl ?_
  refine y_getI fkX2_67 dX2_copyFrom_147 (hk2.1 0 (by decide)) (hk2.2 0 (by decide)) rfl ?_
  refine y_putI fkX2_67 dX2_copyFrom_150 (hk.1 0 (by decide)) (hk.2 0 (by decide)) rfl rfl rfl rfl ?_
  refine x_aload_n dX2_copyFrom_153 rfl ?_
  refine x_aload_n dX2_copyFrom_154 rfl ?_
  refine y_getI fkX2_70 dX2_copyFrom_155 (hk2.1 0 (by decide)) (hk2.2 0 (by decide)) rfl ?_
  refine y_putI fkX2_70 dX2_copyFrom_158 (hk.1 0 (by decide)) (hk.2 0 (by decide)) rfl rfl rfl rfl ?_
  refine x_aload_n dX2_copyFrom_161 rfl ?_
  refine x_aload_n dX2_copyFrom_162 rfl ?_
  refine y_getI fkX2_73 dX2_copyFrom_163 (hk2.1 0 (by decide)) (hk2.2 0 (by decide)) rfl ?_
  refine y_putI fkX2_73 dX2_copyFrom_166 (hk.1 0 (by decide)) (hk.2 0 (by decide)) rfl rfl rfl rfl ?_
  refine x_aload_n dX2_copyFrom_169 rfl ?_
  refine x_aload_n dX2_copyFrom_170 rfl ?_
  refine y_getI fkX2_76 dX2_copyFrom_171 (hk2.1 0 (by decide)) (hk2.2 0 (by decide)) rfl ?_
  refine y_putI fkX2_76 dX2_copyFrom_174 (hk.1 0 (by decide)) (hk.2 0 (by decide)) rfl rfl rfl rfl ?_
  exact y_vret dX2_copyFrom_177 rfl (rfl)
theorem y_keepWares {o : Nat} (hk : IsMk o) {M : Mem} : Y 1 mX2_keepWares 0 (lent 1 [.ref o]) [] M none (kwM M o) := by
  refine x_aload_n dX2_keepWares_0 rfl ?_
  refine y_getR fkX2_18 dX2_keepWares_1 (hk.1 0 (by decide)) (hk.2 0 (by decide)) rfl ?_
  refine x_iconstv (v := 0) dX2_keepWares_4 (by decide) ?_
  refine x_aload_n dX2_keepWares_5 rfl ?_
  refine y_getR fkX2_43 dX2_keepWares_6 (hk.1 0 (by decide)) (hk.2 0 (by decide)) rfl ?_
  refine x_iconstv (v := 0) dX2_keepWares_9 (by decide) ?_
  refine x_bipushv (v := 7) dX2_keepWares_10 (by decide) ?_
  refine y_copy dX2_keepWares_12 lkX2_55 (by decide) (hk.1 3 (by decide)) (hk.1 8 (by decide)) (hk.2 3 (by decide)) (hk.2 8 (by decide)) (by decide) (by decide) (by decide) (cat8 rfl) ?_
  refine x_aload_n dX2_keepWares_15 rfl ?_
  refine y_getR fkX2_21 dX2_keepWares_16 (hk.1 0 (by decide)) (hk.2 0 (by decide)) rfl ?_
  refine x_iconstv (v := 0) dX2_keepWares_19 (by decide) ?_
  refine x_aload_n dX2_keepWares_20 rfl ?_
  refine y_getR fkX2_46 dX2_keepWares_21 (hk.1 0 (by decide)) (hk.2 0 (by decide)) rfl ?_
  refine x_iconstv (v := 0) dX2_keepWares_24 (by decide) ?_
  refine x_bipushv (v := 7) dX2_keepWares_25 (by decide) ?_
  refine y_copy dX2_keepWares_27 lkX2_55 (by decide) (hk.1 4 (by decide)) (hk.1 9 (by decide)) (hk.2 4 (by decide)) (hk.2 9 (by decide)) (by decide) (by decide) (by decide) (cat8 rfl) ?_
  exact y_vret dX2_keepWares_30 rfl (rfl)
theorem y_makeWare {o : Nat} (hk : IsMk o) {M : Mem} {j : Nat} (hj : j < 7) : Y 0 mX2_makeWare 0 (lent 2 [.ref o, .int (nI j)]) [] M none (mwM M o j) := by
  refine x_aload_n dX2_makeWare_0 rfl ?_
  refine y_getR fkX2_18 dX2_makeWare_1 (hk.1 0 (by decide)) (hk.2 0 (by decide)) rfl ?_
  refine x_iload_n dX2_makeWare_4 rfl ?_
  refine x_aload_n dX2_makeWare_5 rfl ?_
  refine y_getR fkX2_9 dX2_makeWare_6 (hk.1 0 (by decide)) (hk.2 0 (by decide)) rfl ?_
  refine x_iload_n dX2_makeWare_9 rfl ?_
  refine y_ialdn (j := j) dX2_makeWare_10 (hk.1 1 (by decide)) (hk.2 1 (by decide)) (ixN (by omega)) (by omega) ?_
  refine y_iastn (j := j) dX2_makeWare_11 (hk.1 3 (by decide)) (hk.2 3 (by decide)) (ixN (by omega)) (by omega) ?_
  refine x_aload_n dX2_makeWare_12 rfl ?_
  refine y_getR fkX2_21 dX2_makeWare_13 (hk.1 0 (by decide)) (hk.2 0 (by decide)) rfl ?_
  refine x_iload_n dX2_makeWare_16 rfl ?_
  refine x_iconstv (v := 0) dX2_makeWare_17 (by decide) ?_
  refine y_iastn (j := j) dX2_makeWare_18 (hk.1 4 (by decide)) (hk.2 4 (by decide)) (ixN (by omega)) (by omega) ?_
  refine x_aload_n dX2_makeWare_19 rfl ?_
  refine x_dup_r dX2_makeWare_20 ?_
  refine y_getI fkX2_70 dX2_makeWare_21 (hk.1 0 (by decide)) (hk.2 0 (by decide)) rfl ?_
  refine x_iconstv (v := 1) dX2_makeWare_24 (by decide) ?_
  refine x_iadd dX2_makeWare_25 ?_
  refine y_putI fkX2_70 dX2_makeWare_26 (hk.1 0 (by decide)) (hk.2 0 (by decide)) rfl rfl rfl rfl ?_
  exact y_vret dX2_makeWare_29 rfl (rfl)
theorem y_takeWare {o : Nat} (hk : IsMk o) {M : Mem} {V : Row} (hR : RM M o V) (hV : WF V) {t g k : Nat} (ht : t < nT V) (hg : g < nT V) (hk6 : k < 6) (hw : M (o + 8) g = nI k) : Y 1 mX2_takeWare 0 (lent 4 [.ref o, .int (nI t), .int (nI g)]) [] M none (twM M o t k (M (o + 9) g)) := by
  obtain ⟨hn1, hn2⟩ := WF_n hV
  have q0 : ¬ (o + 9 = o + 3) := by omega
  refine x_aload_n dX2_takeWare_0 rfl ?_
  refine x_iload_n dX2_takeWare_1 rfl ?_
  refine y_callV (as := [_]) okX2_has lkX2_79 dX2_takeWare_2 rfl (hk.1 0 (by decide)) (hk.2 0 (by decide)) (y_hasT hk hR hV ht) (by omega) rfl (by simp [Value.category]) (Nat.le_of_ble_eq_true rfl) rfl rfl (cat8 rfl) ?_
  refine x_if_eq 28 dX2_takeWare_5 (by decide) (fun c_5 => ?_) (fun c_5 => ?_)
  · exact absurd c_5 (by decide)
  · refine x_aload_n dX2_takeWare_8 rfl ?_
    refine x_iload_n dX2_takeWare_9 rfl ?_
    refine y_callV (as := [_]) okX2_has lkX2_79 dX2_takeWare_10 rfl (hk.1 0 (by decide)) (hk.2 0 (by decide)) (y_hasT hk hR hV hg) (by omega) rfl (by simp [Value.category]) (Nat.le_of_ble_eq_true rfl) rfl rfl (cat8 rfl) ?_
    refine x_if_eq 28 dX2_takeWare_13 (by decide) (fun c_13 => ?_) (fun c_13 => ?_)
    · exact absurd c_13 (by decide)
    · refine x_aload_n dX2_takeWare_16 rfl ?_
      refine y_getR fkX2_43 dX2_takeWare_17 (hk.1 0 (by decide)) (hk.2 0 (by decide)) rfl ?_
      refine x_iload_n dX2_takeWare_20 rfl ?_
      refine y_ialdn (j := g) dX2_takeWare_21 (hk.1 8 (by decide)) (hk.2 8 (by decide)) (ixN (by omega)) (by omega) ?_
      refine y_callSN (as := [_]) okX5_isKind nsX2_87 dX2_takeWare_22 rfl (y_isKindT (by rw [hw]; exact vp_in_nI hk6 (by decide))) (by omega) rfl (by simp [Value.category]) (Nat.le_of_ble_eq_true rfl) (cat8 rfl) ?_
      refine x_if_ne 29 dX2_takeWare_25 (by decide) (fun c_25 => ?_) (fun c_25 => ?_)
      · refine x_aload_n dX2_takeWare_29 rfl ?_
        refine y_getR fkX2_43 dX2_takeWare_30 (hk.1 0 (by decide)) (hk.2 0 (by decide)) rfl ?_
        refine x_iload_n dX2_takeWare_33 rfl ?_
        refine y_ialdn (j := g) dX2_takeWare_34 (hk.1 8 (by decide)) (hk.2 8 (by decide)) (ixN (by omega)) (by omega) ?_
        rw [hw]
        refine x_istore_n dX2_takeWare_35 (by decide) rfl ?_
        refine x_aload_n dX2_takeWare_36 rfl ?_
        refine y_getR fkX2_18 dX2_takeWare_37 (hk.1 0 (by decide)) (hk.2 0 (by decide)) rfl ?_
        refine x_iload_n dX2_takeWare_40 rfl ?_
        refine x_iload_n dX2_takeWare_41 rfl ?_
        refine y_iastn (j := t) dX2_takeWare_42 (hk.1 3 (by decide)) (hk.2 3 (by decide)) (ixN (by omega)) (by omega) ?_
        refine x_aload_n dX2_takeWare_43 rfl ?_
        refine y_getR fkX2_21 dX2_takeWare_44 (hk.1 0 (by decide)) (hk.2 0 (by decide)) rfl ?_
        refine x_iload_n dX2_takeWare_47 rfl ?_
        refine x_aload_n dX2_takeWare_48 rfl ?_
        refine y_getR fkX2_46 dX2_takeWare_49 (hk.1 0 (by decide)) (hk.2 0 (by decide)) rfl ?_
        refine x_iload_n dX2_takeWare_52 rfl ?_
        refine y_ialdn (j := g) dX2_takeWare_53 (hk.1 9 (by decide)) (hk.2 9 (by decide)) (ixN (by omega)) (by omega) ?_
        rw [updM_ne (M := M) (by omega)]
        refine y_iastn (j := t) dX2_takeWare_54 (hk.1 4 (by decide)) (hk.2 4 (by decide)) (ixN (by omega)) (by omega) ?_
        refine x_aload_n dX2_takeWare_55 rfl ?_
        refine y_getR fkX2_15 dX2_takeWare_56 (hk.1 0 (by decide)) (hk.2 0 (by decide)) rfl ?_
        refine x_iload_n dX2_takeWare_59 rfl ?_
        refine x_dup2_ir dX2_takeWare_60 ?_
        refine y_ialdn (j := t) dX2_takeWare_61 (hk.1 2 (by decide)) (hk.2 2 (by decide)) (ixN (by omega)) (by omega) ?_
        refine x_iconstv (v := 1) dX2_takeWare_62 (by decide) ?_
        refine x_iload_n dX2_takeWare_63 rfl ?_
        refine x_ishl dX2_takeWare_64 ?_
        refine x_iconstv (v := -1) dX2_takeWare_65 (by decide) ?_
        refine x_ixor dX2_takeWare_66 ?_
        refine x_iand dX2_takeWare_67 ?_
        refine y_iastn (j := t) dX2_takeWare_68 (hk.1 2 (by decide)) (hk.2 2 (by decide)) (ixN (by omega)) (by omega) ?_
        refine x_aload_n dX2_takeWare_69 rfl ?_
        refine y_getR fkX2_24 dX2_takeWare_70 (hk.1 0 (by decide)) (hk.2 0 (by decide)) rfl ?_
        refine x_iload_n dX2_takeWare_73 rfl ?_
        refine x_dup2_ir dX2_takeWare_74 ?_
        refine y_ialdn (j := t) dX2_takeWare_75 (hk.1 5 (by decide)) (hk.2 5 (by decide)) (ixN (by omega)) (by omega) ?_
        refine x_iconstv (v := 1) dX2_takeWare_76 (by decide) ?_
        refine x_iadd dX2_takeWare_77 ?_
        refine y_iastn (j := t) dX2_takeWare_78 (hk.1 5 (by decide)) (hk.2 5 (by decide)) (ixN (by omega)) (by omega) ?_
        refine x_aload_n dX2_takeWare_79 rfl ?_
        refine y_getR fkX2_30 dX2_takeWare_80 (hk.1 0 (by decide)) (hk.2 0 (by decide)) rfl ?_
        refine x_iload_n dX2_takeWare_83 rfl ?_
        refine x_dup2_ir dX2_takeWare_84 ?_
        refine y_ialdn (j := k) dX2_takeWare_85 (hk.1 7 (by decide)) (hk.2 7 (by decide)) (ixN (by omega)) (by omega) ?_
        refine x_iconstv (v := 1) dX2_takeWare_86 (by decide) ?_
        refine x_iadd dX2_takeWare_87 ?_
        refine y_iastn (j := k) dX2_takeWare_88 (hk.1 7 (by decide)) (hk.2 7 (by decide)) (ixN (by omega)) (by omega) ?_
        exact y_vret dX2_takeWare_89 rfl (rfl)
      · exact absurd c_25 (by decide)
end
section
def FrO (o : Nat) (M M' : Mem) : Prop := ∀ c, c < o ∨ o + 9 < c → M' c = M c
theorem FrO.rf {o : Nat} {M : Mem} : FrO o M M := fun _ _ => rfl
theorem FrO.tr {o : Nat} {M M1 M2 : Mem} (h1 : FrO o M M1) (h2 : FrO o M1 M2) : FrO o M M2 := fun c h => (h2 c h).trans (h1 c h)
theorem FrO.up {o a i : Nat} {M : Mem} {x : Int32} (h : o ≤ a ∧ a ≤ o + 9) : FrO o M (updM M a i x) := fun c hc => updM_ne (by omega)
theorem FrO.kw {o : Nat} {M : Mem} : FrO o M (kwM M o) := fun c hc => by unfold kwM; rw [cpyM_ne (by omega), cpyM_ne (by omega)]
theorem FrO.tw {o t k : Nat} {a : Int32} {M : Mem} : FrO o M (twM M o t k a) := fun c hc => tw_ne (by omega)
theorem FrO.mw {o j : Nat} {M : Mem} : FrO o M (mwM M o j) := fun c hc => by unfold mwM inc; rw [updM_ne (by omega), updM_ne (by omega), updM_ne (by omega)]
theorem RM_congr {M M' : Mem} {o : Nat} {V : Row} (h : ∀ c, o ≤ c → c ≤ o + 7 → M' c = M c) (hR : RM M o V) : RM M' o V := by
  unfold RM at *
  rw [h o (by omega) (by omega), h (o + 1) (by omega) (by omega), h (o + 2) (by omega) (by omega), h (o + 3) (by omega) (by omega), h (o + 4) (by omega) (by omega), h (o + 5) (by omega) (by omega), h (o + 6) (by omega) (by omega), h (o + 7) (by omega) (by omega)]
  exact hR
theorem kw_ne {o c : Nat} {M : Mem} (h : c ≠ o + 8 ∧ c ≠ o + 9) : kwM M o c = M c := by unfold kwM; rw [cpyM_ne h.2, cpyM_ne h.1]
theorem kw_8 {o j : Nat} {M : Mem} (h : j < 7) : kwM M o (o + 8) j = M (o + 3) j := by simp [kwM, cpyM, h]
theorem kw_9 {o j : Nat} {M : Mem} (h : j < 7) : kwM M o (o + 9) j = M (o + 4) j := by simp [kwM, cpyM, h]
theorem RM_kw {M : Mem} {o : Nat} {V : Row} (hR : RM M o V) : RM (kwM M o) o V := RM_congr (fun c h1 h2 => kw_ne (by omega)) hR
def bartV (V : Row) (a b : Nat) : Row := if rsn V a b = 0 then getsV (getsV V a (kd V b) (V (25 + 5 * b))) b (kd V a) (V (25 + 5 * a)) else upd V 6 (V 6 + 1)
def bartR (V : Row) (a b : Nat) : Int32 := if rsn V a b = 0 then 10 else rsn V a b
theorem RM_h6 {M : Mem} {o : Nat} {V : Row} (hR : RM M o V) (hV : WF V) : RM (inc M o 15) o (upd V 6 (V 6 + 1)) := by
  obtain ⟨⟨r7, r8, r9, r10, r11, r12, r13, r14, r15, r2⟩, rk, rt⟩ := hR
  refine ⟨?_, fun i hi => ?_, fun j hj => ?_⟩
  · rw [nT_upd (by omega)]
    simp [inc, updM, upd, mSum]
    simp [mSum] at r2
    grind
  · have := rk i hi
    simp only [inc, updM, upd]
    grind
  · rw [nT_upd (by omega)] at hj
    have := rt j hj
    simp only [inc, updM, upd]
    grind
theorem WF_up {V : Row} (hV : WF V) {i : Nat} {x : Int32} (h : i = 0 ∨ i = 2 ∨ i = 3 ∨ i = 4 ∨ i = 5 ∨ i = 6) : WF (upd V i x) := by
  obtain ⟨w1, w2, w3, w4, w5, w6⟩ := hV
  refine ⟨by rw [pk_un (by omega)]; exact w1, fun j hj => ?_, fun k hk => ?_, ?_, ?_, ?_⟩
  · rw [nT_upd (by omega)] at hj
    have := w2 j hj
    unfold WFt at *
    rw [pk_un (by omega), pk_un (by omega), pk_un (by omega)]
    exact this
  · rw [pk_un (by omega)]; exact w3 k hk
  · rw [pk_un (by omega)]; exact w4
  · rw [pk_un (by omega)]; exact w5
  · rw [nT_upd (by omega), pk_un (by omega)]; exact w6
theorem WF_bart {V : Row} (hV : WF V) {a b : Nat} (ha : a < nT V) (hb : b < nT V) : WF (bartV V a b) := by
  unfold bartV
  split
  · exact WF_gets (WF_gets hV ha (kd_lt hV hb)) (by rw [nT_gets]; exact hb) (kd_lt hV ha)
  · exact WF_up hV (by omega)
theorem nT_bart {V : Row} {a b : Nat} : nT (bartV V a b) = nT V := by
  unfold bartV
  split
  · rw [nT_gets, nT_gets]
  · rw [nT_upd (by omega)]
def dbV (V : Row) (g : Nat → Option Nat) : Nat → Row
  | 0 => V
  | i + 1 => match g i with
    | none => dbV V g i
    | some q => getsV (dbV V g i) i (kd V q) (V (25 + 5 * q))
theorem nT_db {V : Row} {g : Nat → Option Nat} : ∀ i, nT (dbV V g i) = nT V
  | 0 => rfl
  | i + 1 => by
    unfold dbV
    split
    · exact nT_db i
    · rw [nT_gets]; exact nT_db i
theorem WF_db {V : Row} (hV : WF V) {g : Nat → Option Nat} (hg : ∀ i q, i < nT V → g i = some q → q < nT V) : ∀ i, i ≤ nT V → WF (dbV V g i)
  | 0, _ => hV
  | i + 1, hi => by
    have ih := WF_db hV hg i (by omega)
    unfold dbV
    split
    · exact ih
    · rename_i q hq
      exact WF_gets ih (by rw [nT_db]; omega) (kd_lt hV (hg i q (by omega) hq))
def gI (c : Int32) (g : Option Nat) : Int32 := match g with
  | none => c
  | some q => nI q
theorem y_callV0 {d h : Nat} {μ μ' : Md} {pc : Nat} {ls : List (Option Value)} {st : List Value} {M M1 M' : Mem} {r r1 : Option Value} {idx o ci : Nat} {L : List (Option Nat)} {q : vw_C} (hm : MdV μ' 0) (hw : (Cond.methodLink μ.2.1.cls idx μ'.2.1) ∈ WA) (hd : decode μ.1 pc = .ok (.invokevirtual idx, 3)) (ho : o < NC) (hsh : SH o = .inl (ci, L)) (hX : Y h μ' 0 (lent μ'.2.2.1 [.ref o]) [] M r1 M1) (hh : h + 1 ≤ d) (hl : 0 + 1 ≤ μ'.2.2.1) (hq : vwCl[ci]? = some q) (hcq : μ'.2.1.cls = q.1) (hst : (st.map fun v => v.category).sum ≤ 8) (k : Y d μ (pc + 3) ls (r1.toList ++ st) M1 r M') : Y d μ pc ls (.ref o :: st) M r M' := by
  have hc0 : ∀ v : Value, v ∈ ([] : List Value) → v.category = 1 := fun v hv => by cases hv
  exact y_callV hm hw hd (show (Value.ref o :: st) = ([] : List Value).reverse ++ .ref o :: st from rfl) ho hsh hX hh rfl hc0 hl hq hcq hst k
end
section
theorem y_takeWareN {o : Nat} (hk : IsMk o) {M : Mem} {V : Row} (hR : RM M o V) (hV : WF V) {t : Nat} {x : Int32} (hx : hasB V x = false) (ht : t < nT V) : Y 1 mX2_takeWare 0 (lent 4 [.ref o, .int (nI t), .int x]) [] M none M := by
  have hh := y_has hk hR hV (t := x)
  rw [hx] at hh
  refine x_aload_n dX2_takeWare_0 rfl ?_
  refine x_iload_n dX2_takeWare_1 rfl ?_
  refine y_callV (as := [_]) okX2_has lkX2_79 dX2_takeWare_2 rfl (hk.1 0 (by decide)) (hk.2 0 (by decide)) (y_hasT hk hR hV ht) (by omega) rfl (by simp [Value.category]) (Nat.le_of_ble_eq_true rfl) rfl rfl (cat8 rfl) ?_
  refine x_if_eq 28 dX2_takeWare_5 (by decide) (fun c_5 => ?_) (fun c_5 => ?_)
  · exact absurd c_5 (by decide)
  · refine x_aload_n dX2_takeWare_8 rfl ?_
    refine x_iload_n dX2_takeWare_9 rfl ?_
    refine y_callV (as := [_]) okX2_has lkX2_79 dX2_takeWare_10 rfl (hk.1 0 (by decide)) (hk.2 0 (by decide)) (hh) (by omega) rfl (by simp [Value.category]) (Nat.le_of_ble_eq_true rfl) rfl rfl (cat8 rfl) ?_
    refine x_if_eq 28 dX2_takeWare_13 (by decide) (fun c_13 => ?_) (fun c_13 => ?_)
    · exact y_vret dX2_takeWare_28 rfl (rfl)
    · exact absurd rfl c_13
theorem y_barterHand {o : Nat} (hk : IsMk o) {M : Mem} {V : Row} (hR : RM M o V) (hV : WF V) {a b : Nat} (ha : a < nT V) (hb : b < nT V) : ∃ M' : Mem, Y 5 mX2_barterByHand 0 (lent 4 [.ref o, .int (nI a), .int (nI b)]) [] M (some (.int (bartR V a b))) M' ∧ RM M' o (bartV V a b) ∧ FrO o M M' := by
  have hR0 := hR
  obtain ⟨⟨r7, r8, r9, r10, r11, r12, r13, r14, r15, r2⟩, rk, rt⟩ := hR0
  obtain ⟨hn1, hn2⟩ := WF_n hV
  have h7a := b6 hV ha
  have h7b := b6 hV hb
  by_cases hz : rsn V a b = 0
  · have e1 : kwM M o (o + 8) b = nI (kd V b) := by rw [kw_8 h7b, (rt b hb).2.2.1]; exact kd_nI hV hb
    have e2 : kwM M o (o + 9) b = V (25 + 5 * b) := by rw [kw_9 h7b, (rt b hb).2.2.2.1]
    have hR1 := RM_kw hR
    have s1 := y_takeWare hk hR1 hV ha hb (kd_lt hV hb) e1
    rw [e2] at s1
    have hR2 := RM_tw (a := V (25 + 5 * b)) hR1 hV ha (kd_lt hV hb)
    have hV2 := WF_gets (a := V (25 + 5 * b)) hV ha (kd_lt hV hb)
    have e3 : twM (kwM M o) o a (kd V b) (V (25 + 5 * b)) (o + 8) a = nI (kd V a) := by rw [tw_ne (by omega), kw_8 h7a, (rt a ha).2.2.1]; exact kd_nI hV ha
    have e4 : twM (kwM M o) o a (kd V b) (V (25 + 5 * b)) (o + 9) a = V (25 + 5 * a) := by rw [tw_ne (by omega), kw_9 h7a, (rt a ha).2.2.2.1]
    have s2 := y_takeWare hk hR2 hV2 (by rw [nT_gets]; exact hb) (by rw [nT_gets]; exact ha) (kd_lt hV ha) e3
    rw [e4] at s2
    refine ⟨twM (twM (kwM M o) o a (kd V b) (V (25 + 5 * b))) o b (kd V a) (V (25 + 5 * a)), ?_, ?_, (FrO.kw.tr FrO.tw).tr FrO.tw⟩
    · skip
      refine x_aload_n dX2_barterByHand_0 rfl ?_
      refine x_iload_n dX2_barterByHand_1 rfl ?_
      refine x_iload_n dX2_barterByHand_2 rfl ?_
      refine y_callV (as := [_, _]) okX2_refusal lkX2_122 dX2_barterByHand_3 rfl (hk.1 0 (by decide)) (hk.2 0 (by decide)) (y_refusal hk hR hV ha hb) (by omega) rfl (by simp [Value.category]) (Nat.le_of_ble_eq_true rfl) rfl rfl (cat8 rfl) ?_
      refine x_istore_n dX2_barterByHand_6 (by decide) rfl ?_
      refine x_iload_n dX2_barterByHand_7 rfl ?_
      refine x_if_eq 23 dX2_barterByHand_8 (by decide) (fun c_8 => ?_) (fun c_8 => ?_)
      · refine x_aload_n dX2_barterByHand_23 rfl ?_
        refine y_callV0 okX2_keepWares lkX2_125 dX2_barterByHand_24 (hk.1 0 (by decide)) (hk.2 0 (by decide)) (y_keepWares hk) (by omega) (Nat.le_of_ble_eq_true rfl) rfl rfl (cat8 rfl) ?_
        refine x_aload_n dX2_barterByHand_27 rfl ?_
        refine x_iload_n dX2_barterByHand_28 rfl ?_
        refine x_iload_n dX2_barterByHand_29 rfl ?_
        refine y_callV (as := [_, _]) okX2_takeWare lkX2_128 dX2_barterByHand_30 rfl (hk.1 0 (by decide)) (hk.2 0 (by decide)) (s1) (by omega) rfl (by simp [Value.category]) (Nat.le_of_ble_eq_true rfl) rfl rfl (cat8 rfl) ?_
        refine x_aload_n dX2_barterByHand_33 rfl ?_
        refine x_iload_n dX2_barterByHand_34 rfl ?_
        refine x_iload_n dX2_barterByHand_35 rfl ?_
        refine y_callV (as := [_, _]) okX2_takeWare lkX2_128 dX2_barterByHand_36 rfl (hk.1 0 (by decide)) (hk.2 0 (by decide)) (s2) (by omega) rfl (by simp [Value.category]) (Nat.le_of_ble_eq_true rfl) rfl rfl (cat8 rfl) ?_
        refine x_bipushv (v := 10) dX2_barterByHand_39 (by decide) ?_
        exact y_ret dX2_barterByHand_41 rfl (rfl) (by simp [bartR, hz]) (rfl)
      · exact absurd hz c_8
    · simp only [bartV, if_pos hz]
      exact RM_tw hR2 hV2 (by rw [nT_gets]; exact hb) (kd_lt hV ha)
  · refine ⟨inc M o 15, ?_, by simp only [bartV, if_neg hz]; exact RM_h6 hR hV, FrO.up (by omega)⟩
    skip
    refine x_aload_n dX2_barterByHand_0 rfl ?_
    refine x_iload_n dX2_barterByHand_1 rfl ?_
    refine x_iload_n dX2_barterByHand_2 rfl ?_
    refine y_callV (as := [_, _]) okX2_refusal lkX2_122 dX2_barterByHand_3 rfl (hk.1 0 (by decide)) (hk.2 0 (by decide)) (y_refusal hk hR hV ha hb) (by omega) rfl (by simp [Value.category]) (Nat.le_of_ble_eq_true rfl) rfl rfl (cat8 rfl) ?_
    refine x_istore_n dX2_barterByHand_6 (by decide) rfl ?_
    refine x_iload_n dX2_barterByHand_7 rfl ?_
    refine x_if_eq 23 dX2_barterByHand_8 (by decide) (fun c_8 => ?_) (fun c_8 => ?_)
    · exact absurd c_8 hz
    · refine x_aload_n dX2_barterByHand_11 rfl ?_
      refine x_dup_r dX2_barterByHand_12 ?_
      refine y_getI fkX2_76 dX2_barterByHand_13 (hk.1 0 (by decide)) (hk.2 0 (by decide)) rfl ?_
      refine x_iconstv (v := 1) dX2_barterByHand_16 (by decide) ?_
      refine x_iadd dX2_barterByHand_17 ?_
      refine y_putI fkX2_76 dX2_barterByHand_18 (hk.1 0 (by decide)) (hk.2 0 (by decide)) rfl rfl rfl rfl ?_
      refine x_iload_n dX2_barterByHand_21 rfl ?_
      exact y_ret dX2_barterByHand_22 rfl (rfl) (by simp [bartR, hz]) (rfl)
end
section
def qV (V : Row) (i : Nat) : Row := pd2 (pd1 (pl V i).1 (pl V i).2) (pl V i).2
theorem dl_q {V : Row} {i : Nat} : dl (ps1 (qV V i) i) i = dl (ps1 (pl V i).1 i) i := by
  have e : ∀ x : Nat, 5 ≤ x → ps1 (qV V i) i x = ps1 (pl V i).1 i x := by
    intro x hx
    simp only [ps1, qV, pd2, pd1, upd]
    grind
  have e1 : kd (ps1 (qV V i) i) i = kd (ps1 (pl V i).1 i) i := by unfold kd; rw [e _ (by omega)]
  have e2 : dli (ps1 (qV V i) i) i = dli (ps1 (pl V i).1 i) i := by unfold dli; rw [e1, e _ (by omega), e _ (by omega)]
  unfold dl
  rw [e2]
def rnV (V : Row) (j : Nat) : Row := if dl V j = 0 then upd (upd (ps2 V j) 3 (V 3 + 1)) 4 (V 4 + 1) else V
theorem qV_s {V : Row} {i : Nat} : qV V (i + 1) = rnV (ps1 (qV V i) i) i := by
  unfold rnV
  rw [dl_q]
  unfold qV
  rw [pl]
  split
  · funext x
    simp only [pd2, pd1, ps2, ps1, upd]
    grind (splits := 20)
  · funext x
    simp only [pd2, pd1, ps1, upd]
    grind (splits := 20)
theorem RM_age {M : Mem} {o : Nat} {V : Row} (hR : RM M o V) {i : Nat} : RM (inc M (o + 4) i) o (ps1 V i) := by
  obtain ⟨⟨r7, r8, r9, r10, r11, r12, r13, r14, r15, r2⟩, rk, rt⟩ := hR
  have hn : nT (ps1 V i) = nT V := nT_upd (by omega)
  have hs : mSum (ps1 V i) = mSum V := by
    simp only [mSum, ps1, upd]
    grind
  refine ⟨?_, fun j hj => ?_, fun j hj => ?_⟩
  · rw [hn, hs]
    simp only [inc, updM, ps1, upd]
    grind
  · have := rk j hj
    simp only [inc, updM, ps1, upd]
    grind
  · rw [hn] at hj
    have := rt j hj
    simp only [inc, updM, ps1, upd]
    grind
theorem RM_renew {M : Mem} {o : Nat} {V : Row} (hR : RM M o V) {i : Nat} (hi : i < nT V) : RM (mwM (inc M o 12) o i) o (upd (upd (ps2 V i) 3 (V 3 + 1)) 4 (V 4 + 1)) := by
  obtain ⟨⟨r7, r8, r9, r10, r11, r12, r13, r14, r15, r2⟩, rk, rt⟩ := hR
  have hn : nT (upd (upd (ps2 V i) 3 (V 3 + 1)) 4 (V 4 + 1)) = nT V := by
    rw [nT_upd (by omega), nT_upd (by omega)]
    unfold ps2
    rw [nT_upd (by omega), nT_upd (by omega)]
  have hs : mSum (upd (upd (ps2 V i) 3 (V 3 + 1)) 4 (V 4 + 1)) = mSum V := by
    simp only [mSum, ps2, upd]
    grind
  refine ⟨?_, fun j hj => ?_, fun j hj => ?_⟩
  · rw [hn, hs]
    simp only [mwM, inc, updM, ps2, upd]
    grind
  · have := rk j hj
    simp only [mwM, inc, updM, ps2, upd]
    grind (splits := 20)
  · rw [hn] at hj
    have h1 := rt j hj
    have h2 := rt i hi
    simp only [mwM, inc, updM, ps2, upd]
    refine ⟨?_, ?_, ?_, ?_, ?_⟩ <;> grind (splits := 20)
theorem WF_ps1 {V : Row} (hV : WF V) {i : Nat} : WF (ps1 V i) := by
  obtain ⟨w1, w2, w3, w4, w5, w6⟩ := hV
  have hn : nT (ps1 V i) = nT V := nT_upd (by omega)
  refine ⟨?_, fun j hj => ?_, fun k hk => ?_, ?_, ?_, ?_⟩
  · unfold ps1; rw [pk_un (by omega)]; exact w1
  · rw [hn] at hj
    have := w2 j hj
    unfold WFt at *
    unfold ps1
    rw [pk_un (by omega), pk_un (by omega), pk_un (by omega)]
    exact this
  · unfold ps1; rw [pk_un (by omega)]; exact w3 k hk
  · unfold ps1; rw [pk_un (by omega)]; exact w4
  · unfold ps1; rw [pk_un (by omega)]; exact w5
  · rw [hn]; unfold ps1; rw [pk_un (by omega)]; exact w6
theorem nT_rn {V : Row} {i : Nat} : nT (rnV V i) = nT V := by
  unfold rnV
  split
  · rw [nT_upd (by omega), nT_upd (by omega)]
    unfold ps2
    rw [nT_upd (by omega), nT_upd (by omega)]
  · rfl
theorem WF_rn {V : Row} (hV : WF V) {i : Nat} (hi : i < nT V) : WF (rnV V i) := by
  have hn : nT (rnV V i) = nT V := nT_rn
  unfold rnV at *
  split
  · rename_i hz
    rw [if_pos hz] at hn
    obtain ⟨w1, w2, w3, w4, w5, w6⟩ := hV
    refine ⟨?_, fun j hj => ?_, fun k hk => ?_, ?_, ?_, ?_⟩
    · simp only [ps2, upd]; rw [if_neg (by omega), if_neg (by omega), if_neg (by omega), if_neg (by omega)]; exact w1
    · rw [hn] at hj
      obtain ⟨a1, a2, a3, -⟩ := w2 j hj
      obtain ⟨b1, b2, b3, -⟩ := w2 i hi
      refine ⟨?_, ?_, ?_, trivial⟩
      · simp only [ps2, upd]; rw [if_neg (by omega), if_neg (by omega), if_neg (by omega), if_neg (by omega)]; exact a1
      · simp only [ps2, upd]; rw [if_neg (by omega), if_neg (by omega), if_neg (by omega), if_neg (by omega)]; exact a2
      · simp only [ps2, upd]; rw [if_neg (by omega), if_neg (by omega), if_neg (by omega)]
        split
        · exact b1
        · exact a3
    · simp only [ps2, upd]; rw [if_neg (by omega), if_neg (by omega), if_neg (by omega), if_neg (by omega)]; exact w3 k hk
    · simp only [ps2, upd]; rw [if_neg (by omega), if_neg (by omega), if_neg (by omega), if_neg (by omega)]; exact w4
    · simp only [ps2, upd]; rw [if_neg (by omega), if_neg (by omega), if_neg (by omega), if_neg (by omega)]; exact w5
    · rw [hn]; simp only [ps2, upd]; rw [if_neg (by omega), if_neg (by omega), if_neg (by omega), if_neg (by omega)]; exact w6
  · exact hV
theorem nT_q {V : Row} : ∀ i, nT (qV V i) = nT V
  | 0 => by
    show nT (upd (upd (upd V 0 (V 0 + 1)) 3 _) 4 _) = nT V
    rw [nT_upd (by omega), nT_upd (by omega), nT_upd (by omega)]
  | i + 1 => by
    rw [qV_s, nT_rn]
    unfold ps1
    rw [nT_upd (by omega)]
    exact nT_q i
theorem WF_q {V : Row} (hV : WF V) : ∀ i, i ≤ nT V → WF (qV V i)
  | 0, _ => WF_up (WF_up (WF_up hV (by omega)) (by omega)) (by omega)
  | i + 1, h => by
    rw [qV_s]
    refine WF_rn (WF_ps1 (WF_q hV i (by omega))) ?_
    unfold ps1
    rw [nT_upd (by omega), nT_q]
    omega
theorem lot_nI {j : Nat} (hj : j < 10000) : lotx (nI j) = nI ((421 * j + 1663) % 10000) := by
  unfold lotx
  rw [show (421 : Int32) = nI 421 from rfl, show (1663 : Int32) = nI 1663 from rfl, show (10000 : Int32) = nI 10000 from rfl, pk_mul, nI_add]
  exact pk_rem (by omega) (by omega) (by omega)
theorem lot_in {x : Int32} (h : vp_in x 10000) : vp_in (lotx x) 10000 := by
  obtain ⟨j, hj, rfl⟩ := vp_in_of h (by decide)
  rw [lot_nI hj]
  exact vp_in_nI (Nat.mod_lt _ (by omega)) (by decide)
theorem rem_nI {a b : Nat} (ha : a < 2 ^ 31) (h0 : 0 < b) (hb : b < 2 ^ 31) : rem32 (nI a) (nI b) = nI (a % b) := pk_rem ha h0 hb
theorem RM_lot {M : Mem} {o : Nat} {V : Row} (hR : RM M o V) {x : Int32} : RM (updM M o 10 x) o (upd V 8 x) := by
  obtain ⟨⟨r7, r8, r9, r10, r11, r12, r13, r14, r15, r2⟩, rk, rt⟩ := hR
  have hn : nT (upd V 8 x) = nT V := nT_upd (by omega)
  refine ⟨?_, fun j hj => ?_, fun j hj => ?_⟩
  · rw [hn]
    simp only [updM, upd, mSum]
    simp only [mSum] at r2
    grind
  · have := rk j hj
    simp only [updM, upd]
    grind
  · rw [hn] at hj
    have := rt j hj
    simp only [updM, upd]
    grind
theorem RM_shut {M : Mem} {o : Nat} {V : Row} (hR : RM M o V) {x y : Int32} (h : (x = -1 ∧ y = -4) ∨ (x = y ∧ vp_in y (nT V))) : RM (updM M o 11 x) o (upd V 9 y) := by
  obtain ⟨⟨r7, r8, r9, r10, r11, r12, r13, r14, r15, r2⟩, rk, rt⟩ := hR
  have hn : nT (upd V 9 y) = nT V := nT_upd (by omega)
  refine ⟨?_, fun j hj => ?_, fun j hj => ?_⟩
  · rw [hn]
    simp only [updM, upd, mSum]
    simp only [mSum] at r2
    grind
  · have := rk j hj
    simp only [updM, upd]
    grind
  · rw [hn] at hj
    have := rt j hj
    simp only [updM, upd]
    grind
theorem WF_lot {V : Row} (hV : WF V) {x : Int32} (hx : vp_in x 10000) : WF (upd V 8 x) := by
  obtain ⟨w1, w2, w3, w4, w5, w6⟩ := hV
  have hn : nT (upd V 8 x) = nT V := nT_upd (by omega)
  refine ⟨by rw [pk_un (by omega)]; exact w1, fun j hj => ?_, fun k hk => ?_, by rw [pk_un (by omega)]; exact w4, by rw [pk_us]; exact hx, by rw [hn, pk_un (by omega)]; exact w6⟩
  · rw [hn] at hj
    have := w2 j hj
    unfold WFt at *
    rw [pk_un (by omega), pk_un (by omega), pk_un (by omega)]
    exact this
  · rw [pk_un (by omega)]; exact w3 k hk
theorem WF_shut {V : Row} (hV : WF V) {x : Int32} (hx : x = -4 ∨ vp_in x (nT V)) : WF (upd V 9 x) := by
  obtain ⟨w1, w2, w3, w4, w5, w6⟩ := hV
  have hn : nT (upd V 9 x) = nT V := nT_upd (by omega)
  refine ⟨by rw [pk_un (by omega)]; exact w1, fun j hj => ?_, fun k hk => ?_, by rw [pk_un (by omega)]; exact w4, by rw [pk_un (by omega)]; exact w5, by rw [hn, pk_us]; exact hx⟩
  · rw [hn] at hj
    have := w2 j hj
    unfold WFt at *
    rw [pk_un (by omega), pk_un (by omega), pk_un (by omega)]
    exact this
  · rw [pk_un (by omega)]; exact w3 k hk
/-- the draw of the stall -/
def shx (V : Row) : Int32 := rem32 (V 8) (V 1 + 1)
theorem shx_nI {V : Row} (hV : WF V) : ∃ a, a ≤ nT V ∧ shx V = nI a ∧ a = (V 8).toNatClampNeg % (nT V + 1) := by
  obtain ⟨hn1, hn2⟩ := WF_n hV
  have h8 := vpin_nI hV.2.2.2.2.1
  have h8l := vpin_lt hV.2.2.2.2.1
  refine ⟨(V 8).toNatClampNeg % (nT V + 1), by have := Nat.mod_lt (V 8).toNatClampNeg (show 0 < nT V + 1 by omega); omega, ?_, rfl⟩
  unfold shx
  rw [hn2, nI_1]
  conv => lhs; rw [h8]
  exact rem_nI (by omega) (by omega) (by omega)
theorem sh_cases {V : Row} (hV : WF V) : (hasB V (shx V) = true ∧ shx V < V 1 ∧ vp_in (shx V) (nT V)) ∨ (hasB V (shx V) = false ∧ ¬ shx V < V 1) := by
  obtain ⟨hn1, hn2⟩ := WF_n hV
  obtain ⟨a, ha, he, -⟩ := shx_nI hV
  rw [he]
  by_cases h : a < nT V
  · left
    refine ⟨by rw [hasB_nI hV (by omega)]; exact decide_eq_true h, by rw [hn2]; exact nI_lt h (by omega), vp_in_nI h (by omega)⟩
  · right
    refine ⟨by rw [hasB_nI hV (by omega)]; exact decide_eq_false h, by rw [hn2]; exact nI_nlt (by omega) (by omega)⟩
end
section
theorem y_renew {o : Nat} (hk : IsMk o) {M : Mem} {V : Row} (hR : RM M o V) (hV : WF V) {j : Nat} (hj : j < nT V) : ∃ M' : Mem, Y 4 mX2_renewWare 0 (lent 2 [.ref o, .int (nI j)]) [] M none M' ∧ RM M' o (rnV V j) ∧ FrO o M M' := by
  have h7 := b6 hV hj
  by_cases hz : dl V j = 0
  · have hz2 := dl_z.mp hz
    refine ⟨mwM (inc M o 12) o j, ?_, by simp only [rnV, if_pos hz]; exact RM_renew hR hj, (FrO.up (by omega)).tr FrO.mw⟩
    skip
    refine x_aload_n dX2_renewWare_0 rfl ?_
    refine x_iload_n dX2_renewWare_1 rfl ?_
    refine y_callV (as := [_]) okX2_hasSoundWare lkX2_107 dX2_renewWare_2 rfl (hk.1 0 (by decide)) (hk.2 0 (by decide)) (y_hasSound hk hR hV hj) (by omega) rfl (by simp [Value.category]) (Nat.le_of_ble_eq_true rfl) rfl rfl (cat8 rfl) ?_
    refine x_if_eq 9 dX2_renewWare_5 (by decide) (fun c_5 => ?_) (fun c_5 => ?_)
    · refine x_aload_n dX2_renewWare_9 rfl ?_
      refine x_iload_n dX2_renewWare_10 rfl ?_
      refine y_callV (as := [_]) okX2_hasWare lkX2_94 dX2_renewWare_11 rfl (hk.1 0 (by decide)) (hk.2 0 (by decide)) (y_hasWare hk hR hV hj) (by omega) rfl (by simp [Value.category]) (Nat.le_of_ble_eq_true rfl) rfl rfl (cat8 rfl) ?_
      refine x_if_eq 27 dX2_renewWare_14 (by decide) (fun c_14 => ?_) (fun c_14 => ?_)
      · exact absurd c_14 (by decide)
      · refine x_aload_n dX2_renewWare_17 rfl ?_
        refine x_dup_r dX2_renewWare_18 ?_
        refine y_getI fkX2_67 dX2_renewWare_19 (hk.1 0 (by decide)) (hk.2 0 (by decide)) rfl ?_
        refine x_iconstv (v := 1) dX2_renewWare_22 (by decide) ?_
        refine x_iadd dX2_renewWare_23 ?_
        refine y_putI fkX2_67 dX2_renewWare_24 (hk.1 0 (by decide)) (hk.2 0 (by decide)) rfl rfl rfl rfl ?_
        refine x_aload_n dX2_renewWare_27 rfl ?_
        refine x_iload_n dX2_renewWare_28 rfl ?_
        refine y_callV (as := [_]) okX2_makeWare lkX2_83 dX2_renewWare_29 rfl (hk.1 0 (by decide)) (hk.2 0 (by decide)) (y_makeWare hk h7) (by omega) rfl (by simp [Value.category]) (Nat.le_of_ble_eq_true rfl) rfl rfl (cat8 rfl) ?_
        exact y_vret dX2_renewWare_32 rfl (rfl)
    · exact absurd (b2i_z.mpr (decide_eq_false hz2)) c_5
  · have hz2 : 0 < dli V j := Classical.not_not.mp (fun q => hz (dl_z.mpr q))
    refine ⟨M, ?_, by simp only [rnV, if_neg hz]; exact hR, FrO.rf⟩
    skip
    refine x_aload_n dX2_renewWare_0 rfl ?_
    refine x_iload_n dX2_renewWare_1 rfl ?_
    refine y_callV (as := [_]) okX2_hasSoundWare lkX2_107 dX2_renewWare_2 rfl (hk.1 0 (by decide)) (hk.2 0 (by decide)) (y_hasSound hk hR hV hj) (by omega) rfl (by simp [Value.category]) (Nat.le_of_ble_eq_true rfl) rfl rfl (cat8 rfl) ?_
    refine x_if_eq 9 dX2_renewWare_5 (by decide) (fun c_5 => ?_) (fun c_5 => ?_)
    · exact absurd (decide_eq_true hz2) (by rw [b2i_z.mp c_5]; decide)
    · exact y_vret dX2_renewWare_8 rfl (rfl)
theorem y_drawLot {o : Nat} (hk : IsMk o) {M : Mem} {V : Row} (hR : RM M o V) (hV : WF V) : ∃ M' : Mem, Y 1 mX2_drawLot 0 (lent 3 [.ref o]) [] M none M' ∧ RM M' o (pd4 (pd3 V)) ∧ FrO o M M' := by
  have hR0 := hR
  obtain ⟨⟨r7, r8, r9, r10, r11, r12, r13, r14, r15, r2⟩, rk, rt⟩ := hR0
  obtain ⟨hn1, hn2⟩ := WF_n hV
  have hR1 := RM_lot (x := lotx (V 8)) hR
  have hV1 := WF_lot hV (lot_in hV.2.2.2.2.1)
  have e8 : pd3 V 8 = lotx (V 8) := by unfold pd3; exact pk_us
  have e1 : pd3 V 1 = V 1 := by unfold pd3; exact pk_un (by omega)
  have hp : pd4 (pd3 V) = upd (pd3 V) 9 (if shx (pd3 V) < V 1 then shx (pd3 V) else -4) := by
    unfold pd4 shx
    rw [e1]
  have hsx : rem32 (lotx (V 8)) (V 1 + 1) = shx (pd3 V) := by unfold shx; rw [e8, e1]
  have hg7 : M o 7 + 1 = V 1 + 1 := by rw [r7]
  have hd0 : ¬ M o 7 + 1 = 0 := by rw [r7, hn2, nI_1]; exact nI_ne0 (by omega) (by omega)
  have hle : ¬ M o 7 + 1 ≤ 0 := by rw [r7, hn2, nI_1]; exact nI_nle (by omega) (by omega)
  have hlx : updM M o 10 (421 * M o 10 + 1663 - (421 * M o 10 + 1663) / 10000 * 10000) = updM M o 10 (lotx (V 8)) := by rw [r10]; rfl
  have hu7 : updM M o 10 (lotx (V 8)) o 7 = M o 7 := by simp [updM]
  have hu10 : updM M o 10 (lotx (V 8)) o 10 = lotx (V 8) := by simp [updM]
  have hrm : lotx (V 8) - lotx (V 8) / (M o 7 + 1) * (M o 7 + 1) = shx (pd3 V) := by rw [hg7, ← hsx]; rfl
  have hhas := y_has hk hR1 hV1 (t := shx (pd3 V))
  rcases sh_cases hV1 with ⟨c1, c2, c3⟩ | ⟨c1, c2⟩
  · rw [show hasB (upd V 8 (lotx (V 8))) (shx (pd3 V)) = true from c1] at hhas
    have c2 : shx (pd3 V) < V 1 := by rw [← e1]; exact c2
    refine ⟨updM (updM M o 10 (lotx (V 8))) o 11 (shx (pd3 V)), ?_, ?_, (FrO.up (by omega)).tr (FrO.up (by omega))⟩
    · skip
      refine x_aload_n dX2_drawLot_0 rfl ?_
      refine x_sipushv (v := 421) dX2_drawLot_1 (by decide) ?_
      refine x_aload_n dX2_drawLot_4 rfl ?_
      refine y_getI fkX2_37 dX2_drawLot_5 (hk.1 0 (by decide)) (hk.2 0 (by decide)) rfl ?_
      refine x_imul dX2_drawLot_8 ?_
      refine x_sipushv (v := 1663) dX2_drawLot_9 (by decide) ?_
      refine x_iadd dX2_drawLot_12 ?_
      refine x_sipushv (v := 10000) dX2_drawLot_13 (by decide) ?_
      refine x_irem (by decide) dX2_drawLot_16 ?_
      refine y_putI fkX2_37 dX2_drawLot_17 (hk.1 0 (by decide)) (hk.2 0 (by decide)) rfl rfl rfl rfl ?_
      rw [hlx]
      refine x_aload_n dX2_drawLot_20 rfl ?_
      refine y_getI fkX2_61 dX2_drawLot_21 (hk.1 0 (by decide)) (hk.2 0 (by decide)) rfl ?_
      rw [hu7]
      refine x_iconstv (v := 1) dX2_drawLot_24 (by decide) ?_
      refine x_iadd dX2_drawLot_25 ?_
      refine x_istore_n dX2_drawLot_26 (by decide) rfl ?_
      refine x_iload_n dX2_drawLot_27 rfl ?_
      refine x_if_le 40 dX2_drawLot_28 (by decide) (fun c_28 => ?_) (fun c_28 => ?_)
      · exact absurd c_28 hle
      · refine x_aload_n dX2_drawLot_31 rfl ?_
        refine y_getI fkX2_37 dX2_drawLot_32 (hk.1 0 (by decide)) (hk.2 0 (by decide)) rfl ?_
        rw [hu10]
        refine x_iload_n dX2_drawLot_35 rfl ?_
        refine x_irem hd0 dX2_drawLot_36 ?_
        rw [hrm]
        refine x_goto 44 dX2_drawLot_37 (by decide) ?_
        refine x_istore_n dX2_drawLot_44 (by decide) rfl ?_
        refine x_aload_n dX2_drawLot_45 rfl ?_
        refine x_aload_n dX2_drawLot_46 rfl ?_
        refine x_iload_n dX2_drawLot_47 rfl ?_
        refine y_callV (as := [_]) okX2_has lkX2_79 dX2_drawLot_48 rfl (hk.1 0 (by decide)) (hk.2 0 (by decide)) (hhas) (by omega) rfl (by simp [Value.category]) (Nat.le_of_ble_eq_true rfl) rfl rfl (cat8 rfl) ?_
        refine x_if_eq 58 dX2_drawLot_51 (by decide) (fun c_51 => ?_) (fun c_51 => ?_)
        · exact absurd c_51 (by decide)
        · refine x_iload_n dX2_drawLot_54 rfl ?_
          refine x_goto 59 dX2_drawLot_55 (by decide) ?_
          refine y_putI fkX2_40 dX2_drawLot_59 (hk.1 0 (by decide)) (hk.2 0 (by decide)) rfl rfl rfl rfl ?_
          exact y_vret dX2_drawLot_62 rfl (rfl)
    · rw [hp, if_pos c2]
      exact RM_shut hR1 (Or.inr ⟨rfl, c3⟩)
  · rw [show hasB (upd V 8 (lotx (V 8))) (shx (pd3 V)) = false from c1] at hhas
    have c2 : ¬ shx (pd3 V) < V 1 := by rw [← e1]; exact c2
    refine ⟨updM (updM M o 10 (lotx (V 8))) o 11 (-1), ?_, ?_, (FrO.up (by omega)).tr (FrO.up (by omega))⟩
    · skip
      refine x_aload_n dX2_drawLot_0 rfl ?_
      refine x_sipushv (v := 421) dX2_drawLot_1 (by decide) ?_
      refine x_aload_n dX2_drawLot_4 rfl ?_
      refine y_getI fkX2_37 dX2_drawLot_5 (hk.1 0 (by decide)) (hk.2 0 (by decide)) rfl ?_
      refine x_imul dX2_drawLot_8 ?_
      refine x_sipushv (v := 1663) dX2_drawLot_9 (by decide) ?_
      refine x_iadd dX2_drawLot_12 ?_
      refine x_sipushv (v := 10000) dX2_drawLot_13 (by decide) ?_
      refine x_irem (by decide) dX2_drawLot_16 ?_
      refine y_putI fkX2_37 dX2_drawLot_17 (hk.1 0 (by decide)) (hk.2 0 (by decide)) rfl rfl rfl rfl ?_
      rw [hlx]
      refine x_aload_n dX2_drawLot_20 rfl ?_
      refine y_getI fkX2_61 dX2_drawLot_21 (hk.1 0 (by decide)) (hk.2 0 (by decide)) rfl ?_
      rw [hu7]
      refine x_iconstv (v := 1) dX2_drawLot_24 (by decide) ?_
      refine x_iadd dX2_drawLot_25 ?_
      refine x_istore_n dX2_drawLot_26 (by decide) rfl ?_
      refine x_iload_n dX2_drawLot_27 rfl ?_
      refine x_if_le 40 dX2_drawLot_28 (by decide) (fun c_28 => ?_) (fun c_28 => ?_)
      · exact absurd c_28 hle
      · refine x_aload_n dX2_drawLot_31 rfl ?_
        refine y_getI fkX2_37 dX2_drawLot_32 (hk.1 0 (by decide)) (hk.2 0 (by decide)) rfl ?_
        rw [hu10]
        refine x_iload_n dX2_drawLot_35 rfl ?_
        refine x_irem hd0 dX2_drawLot_36 ?_
        rw [hrm]
        refine x_goto 44 dX2_drawLot_37 (by decide) ?_
        refine x_istore_n dX2_drawLot_44 (by decide) rfl ?_
        refine x_aload_n dX2_drawLot_45 rfl ?_
        refine x_aload_n dX2_drawLot_46 rfl ?_
        refine x_iload_n dX2_drawLot_47 rfl ?_
        refine y_callV (as := [_]) okX2_has lkX2_79 dX2_drawLot_48 rfl (hk.1 0 (by decide)) (hk.2 0 (by decide)) (hhas) (by omega) rfl (by simp [Value.category]) (Nat.le_of_ble_eq_true rfl) rfl rfl (cat8 rfl) ?_
        refine x_if_eq 58 dX2_drawLot_51 (by decide) (fun c_51 => ?_) (fun c_51 => ?_)
        · refine x_iconstv (v := -1) dX2_drawLot_58 (by decide) ?_
          refine y_putI fkX2_40 dX2_drawLot_59 (hk.1 0 (by decide)) (hk.2 0 (by decide)) rfl rfl rfl rfl ?_
          exact y_vret dX2_drawLot_62 rfl (rfl)
        · exact absurd rfl c_51
    · rw [hp, if_neg c2]
      exact RM_shut hR1 (Or.inl ⟨rfl, rfl⟩)
theorem WF_pass {V : Row} (hV : WF V) : WF (pd4 (pd3 V)) := by
  have hV1 := WF_lot hV (lot_in hV.2.2.2.2.1)
  have e1 : pd3 V 1 = V 1 := by unfold pd3; exact pk_un (by omega)
  unfold pd4
  refine WF_shut hV1 ?_
  rcases sh_cases hV1 with ⟨c1, c2, c3⟩ | ⟨c1, c2⟩
  · right
    rw [show rem32 (pd3 V 8) (pd3 V 1 + 1) = shx (pd3 V) from rfl, if_pos (show shx (pd3 V) < pd3 V 1 from c2)]
    exact c3
  · left
    rw [show rem32 (pd3 V 8) (pd3 V 1 + 1) = shx (pd3 V) from rfl, if_neg (show ¬ shx (pd3 V) < pd3 V 1 from c2)]
theorem nT_pass {V : Row} : nT (passV V) = nT V := by
  show nT (pd4 (pd3 (qV V (nT V)))) = nT V
  unfold pd4 pd3
  rw [nT_upd (by omega), nT_upd (by omega), nT_q]
theorem WF_passV {V : Row} (hV : WF V) : WF (passV V) := WF_pass (WF_q hV (nT V) (Nat.le_refl _))
theorem pd43 {W : Row} {i : Nat} (h : i ≠ 8) (h9 : i ≠ 9) : pd4 (pd3 W) i = W i := by
  unfold pd4 pd3
  rw [pk_un h9, pk_un h]
theorem pl_3 {V : Row} : ∀ i, (pl V i).1 3 = V 3
  | 0 => by simp [pl, upd]
  | i + 1 => by
    rw [pl]
    have ih := pl_3 (V := V) i
    split
    · simp only [ps2, ps1, upd]
      rw [if_neg (by omega), if_neg (by omega), if_neg (by omega)]
      exact ih
    · simp only [ps1, upd]
      rw [if_neg (by omega)]
      exact ih
theorem qV_3 {V : Row} {i : Nat} : qV V i 3 - V 3 = (pl V i).2 := by
  simp only [qV, pd2, pd1, upd]
  simp
  rw [pl_3]
  grind
theorem y_passDay_loop {o : Nat} (hk : IsMk o) {V : Row} (hV : WF V) {bf : Int32} : ∀ (fu i : Nat) (M : Mem), i ≤ nT V → nT V - i < fu → RM M o (qV V i) → ∃ M' : Mem, Y 5 mX2_passDay 17 [some (.ref o), some (.int bf), some (.int (nI i))] [] M (some (.int (qV V (nT V) 3 - bf))) M' ∧ RM M' o (passV V) ∧ FrO o M M' := by
  obtain ⟨hn1, hn2⟩ := WF_n hV
  intro fu
  induction fu with
  | zero => intro i M h1 h2; omega
  | succ fu ih =>
    intro i M h1 h2 rA
    have hV9 := WF_q hV i h1
    by_cases hlt : i < nT V
    · have r1 := RM_age (i := i) rA
      have hVa := WF_ps1 (i := i) hV9
      have hni : i < nT (ps1 (qV V i) i) := by unfold ps1; rw [nT_upd (by omega), nT_q]; exact hlt
      obtain ⟨M2, s2, r2, f2⟩ := y_renew hk r1 hVa hni
      rw [← qV_s] at r2
      obtain ⟨M3, s3, r3, f3⟩ := ih (i + 1) M2 (by omega) (by omega) r2
      refine ⟨M3, ?_, r3, ((FrO.up (by omega)).tr f2).tr f3⟩
      skip
      refine x_iload_n dX2_passDay_17 rfl ?_
      refine x_aload_n dX2_passDay_18 rfl ?_
      refine y_getI fkX2_61 dX2_passDay_19 (hk.1 0 (by decide)) (hk.2 0 (by decide)) rfl ?_
      refine x_icmp_ge 46 dX2_passDay_22 (by decide) (fun c_22 => ?_) (fun c_22 => ?_)
      · exact absurd (lp_eq hV9 rA.1.1 (by rw [nT_q]; omega) c_22) (by rw [nT_q]; omega)
      · refine x_aload_n dX2_passDay_25 rfl ?_
        refine y_getR fkX2_21 dX2_passDay_26 (hk.1 0 (by decide)) (hk.2 0 (by decide)) rfl ?_
        refine x_iload_n dX2_passDay_29 rfl ?_
        refine x_dup2_ir dX2_passDay_30 ?_
        refine y_ialdn (j := i) dX2_passDay_31 (hk.1 4 (by decide)) (hk.2 4 (by decide)) (ixN (by omega)) (by omega) ?_
        refine x_iconstv (v := 1) dX2_passDay_32 (by decide) ?_
        refine x_iadd dX2_passDay_33 ?_
        refine y_iastn (j := i) dX2_passDay_34 (hk.1 4 (by decide)) (hk.2 4 (by decide)) (ixN (by omega)) (by omega) ?_
        refine x_aload_n dX2_passDay_35 rfl ?_
        refine x_iload_n dX2_passDay_36 rfl ?_
        refine y_callV (as := [_]) okX2_renewWare lkX2_132 dX2_passDay_37 rfl (hk.1 0 (by decide)) (hk.2 0 (by decide)) (s2) (by omega) rfl (by simp [Value.category]) (Nat.le_of_ble_eq_true rfl) rfl rfl (cat8 rfl) ?_
        refine x_iincv (v := 1) dX2_passDay_40 rfl (by decide) rfl (by decide) ?_
        refine x_goto 17 dX2_passDay_43 (by decide) ?_
        rw [nI_1]
        exact s3
    · have he : i = nT V := by omega
      subst he
      obtain ⟨M2, s2, r2, f2⟩ := y_drawLot hk rA hV9
      have h12 : M2 o 12 = qV V (nT V) 3 := by rw [r2.1.2.2.2.2.2.1, pd43 (by omega) (by omega)]
      refine ⟨M2, ?_, r2, f2⟩
      skip
      refine x_iload_n dX2_passDay_17 rfl ?_
      refine x_aload_n dX2_passDay_18 rfl ?_
      refine y_getI fkX2_61 dX2_passDay_19 (hk.1 0 (by decide)) (hk.2 0 (by decide)) rfl ?_
      refine x_icmp_ge 46 dX2_passDay_22 (by decide) (fun c_22 => ?_) (fun c_22 => ?_)
      · refine x_aload_n dX2_passDay_46 rfl ?_
        refine y_callV0 okX2_drawLot lkX2_135 dX2_passDay_47 (hk.1 0 (by decide)) (hk.2 0 (by decide)) (s2) (by omega) (Nat.le_of_ble_eq_true rfl) rfl rfl (cat8 rfl) ?_
        refine x_aload_n dX2_passDay_50 rfl ?_
        refine y_getI fkX2_67 dX2_passDay_51 (hk.1 0 (by decide)) (hk.2 0 (by decide)) rfl ?_
        refine x_iload_n dX2_passDay_54 rfl ?_
        refine x_isub dX2_passDay_55 ?_
        exact y_ret dX2_passDay_56 rfl (rfl) (by rw [h12]) (rfl)
      · exact absurd (lp_lt hV9 rA.1.1 (by rw [nT_q]; omega) c_22) (by rw [nT_q]; omega)
theorem y_passDay {o : Nat} (hk : IsMk o) {M : Mem} {V : Row} (hR : RM M o V) (hV : WF V) : ∃ M' : Mem, Y 5 mX2_passDay 0 (lent 3 [.ref o]) [] M (some (.int (thrV V))) M' ∧ RM M' o (passV V) ∧ FrO o M M' := by
  have hR0 := hR
  obtain ⟨⟨r7, r8, r9, r10, r11, r12, r13, r14, r15, r2⟩, rk, rt⟩ := hR0
  obtain ⟨hn1, hn2⟩ := WF_n hV
  have hq0 : RM (inc M o 9) o (qV V 0) := by
    have e : qV V 0 = upd (upd (upd V 0 (V 0 + 1)) 3 (V 3 + 0)) 4 (V 4 + 0) := by
      simp [qV, pl, pd2, pd1, upd]
    have e2 : qV V 0 = upd V 0 (V 0 + 1) := by
      rw [e]
      funext x
      simp only [upd]
      grind
    rw [e2]
    have hn : nT (upd V 0 (V 0 + 1)) = nT V := nT_upd (by omega)
    refine ⟨?_, fun j hj => ?_, fun j hj => ?_⟩
    · rw [hn]
      simp only [inc, updM, upd, mSum]
      simp only [mSum] at r2
      grind
    · have := rk j hj
      simp only [inc, updM, upd]
      grind
    · rw [hn] at hj
      have := rt j hj
      simp only [inc, updM, upd]
      grind
  obtain ⟨M1, s1, r1, f1⟩ := y_passDay_loop hk hV (bf := M o 12) (nT V + 1) 0 _ (by omega) (by omega) hq0
  rw [r12, qV_3] at s1
  refine ⟨M1, ?_, r1, (FrO.up (by omega)).tr f1⟩
  skip
  refine x_aload_n dX2_passDay_0 rfl ?_
  refine y_getI fkX2_67 dX2_passDay_1 (hk.1 0 (by decide)) (hk.2 0 (by decide)) rfl ?_
  rw [r12]
  refine x_istore_n dX2_passDay_4 (by decide) rfl ?_
  refine x_aload_n dX2_passDay_5 rfl ?_
  refine x_dup_r dX2_passDay_6 ?_
  refine y_getI fkX2_64 dX2_passDay_7 (hk.1 0 (by decide)) (hk.2 0 (by decide)) rfl ?_
  refine x_iconstv (v := 1) dX2_passDay_10 (by decide) ?_
  refine x_iadd dX2_passDay_11 ?_
  refine y_putI fkX2_64 dX2_passDay_12 (hk.1 0 (by decide)) (hk.2 0 (by decide)) rfl rfl rfl rfl ?_
  refine x_iconstv (v := 0) dX2_passDay_15 (by decide) ?_
  refine x_istore_n dX2_passDay_16 (by decide) rfl ?_
  exact s1
theorem y_doBarter_loop {o : Nat} (hk : IsMk o) (ho : o + 9 < 81) {V : Row} (hV : WF V) {g : Nat → Option Nat} (hg : ∀ i q, i < nT V → g i = some q → q < nT V) : ∀ (fu i : Nat) (M : Mem), i ≤ nT V → nT V - i < fu → RM M o (dbV V g i) → (∀ i, i < nT V → M 81 i = gI (-1) (g i)) → (∀ j, j < nT V → M (o + 8) j = V (24 + 5 * j) ∧ M (o + 9) j = V (25 + 5 * j)) → ∃ M' : Mem, Y 2 mX2_doBarter 6 [some (.ref o), some (.ref 81), some (.int (nI i))] [] M none M' ∧ RM M' o (dbV V g (nT V)) ∧ FrO o M M' := by
  obtain ⟨hn1, hn2⟩ := WF_n hV
  intro fu
  induction fu with
  | zero => intro i M h1 h2; omega
  | succ fu ih =>
    intro i M h1 h2 rA hgi hwb
    have hV9 := WF_db hV hg i h1
    by_cases hlt : i < nT V
    · have hstep : ∃ M2 : Mem, Y 1 mX2_takeWare 0 (lent 4 [.ref o, .int (nI i), .int (gI (-1) (g i))]) [] M none M2 ∧ RM M2 o (dbV V g (i + 1)) ∧ (∀ c, c ≠ o + 2 → c ≠ o + 3 → c ≠ o + 4 → c ≠ o + 5 → c ≠ o + 7 → M2 c = M c) := by
        rw [dbV]
        cases hq : g i with
        | none => exact ⟨M, y_takeWareN hk rA hV9 (by rfl) (by rw [nT_db]; exact hlt), rA, fun _ _ _ _ _ _ => rfl⟩
        | some q =>
          have hq2 := hg i q hlt hq
          have e1 : M (o + 8) q = nI (kd V q) := by rw [(hwb q hq2).1]; exact kd_nI hV hq2
          have s := y_takeWare hk rA hV9 (t := i) (g := q) (by rw [nT_db]; exact hlt) (by rw [nT_db]; exact hq2) (kd_lt hV hq2) e1
          rw [(hwb q hq2).2] at s
          exact ⟨_, s, RM_tw rA hV9 (by rw [nT_db]; exact hlt) (kd_lt hV hq2), fun c c1 c2 c3 c4 c5 => tw_ne ⟨c1, c2, c3, c4, c5⟩⟩
      obtain ⟨M2, s2, r2, f2⟩ := hstep
      obtain ⟨M3, s3, r3, f3⟩ := ih (i + 1) M2 (by omega) (by omega) r2 (fun j hj => by rw [f2 81 (by omega) (by omega) (by omega) (by omega) (by omega)]; exact hgi j hj) (fun j hj => by rw [f2 (o + 8) (by omega) (by omega) (by omega) (by omega) (by omega), f2 (o + 9) (by omega) (by omega) (by omega) (by omega) (by omega)]; exact hwb j hj)
      refine ⟨M3, ?_, r3, FrO.tr (show FrO o M M2 from fun c hc => f2 c (by omega) (by omega) (by omega) (by omega) (by omega)) f3⟩
      skip
      refine x_iload_n dX2_doBarter_6 rfl ?_
      refine x_aload_n dX2_doBarter_7 rfl ?_
      refine y_getI fkX2_61 dX2_doBarter_8 (hk.1 0 (by decide)) (hk.2 0 (by decide)) rfl ?_
      refine x_icmp_ge 34 dX2_doBarter_11 (by decide) (fun c_11 => ?_) (fun c_11 => ?_)
      · exact absurd (lp_eq hV9 rA.1.1 (by rw [nT_db]; omega) c_11) (by rw [nT_db]; omega)
      · refine x_iload_n dX2_doBarter_14 rfl ?_
        refine x_aload_n dX2_doBarter_15 rfl ?_
        refine y_alen (by decide) dX2_doBarter_16 (by decide) rfl ?_
        refine x_icmp_ge 34 dX2_doBarter_17 (by decide) (fun c_17 => ?_) (fun c_17 => ?_)
        · exact absurd c_17 (nI_ge (a := i) (b := 7) (by omega) (by decide))
        · refine x_aload_n dX2_doBarter_20 rfl ?_
          refine x_iload_n dX2_doBarter_21 rfl ?_
          refine x_aload_n dX2_doBarter_22 rfl ?_
          refine x_iload_n dX2_doBarter_23 rfl ?_
          refine y_ialdn (j := i) dX2_doBarter_24 (by decide) rfl (ixN (by omega)) (by omega) ?_
          rw [hgi i hlt]
          refine y_callV (as := [_, _]) okX2_takeWare lkX2_128 dX2_doBarter_25 rfl (hk.1 0 (by decide)) (hk.2 0 (by decide)) (s2) (by omega) rfl (by simp [Value.category]) (Nat.le_of_ble_eq_true rfl) rfl rfl (cat8 rfl) ?_
          refine x_iincv (v := 1) dX2_doBarter_28 rfl (by decide) rfl (by decide) ?_
          refine x_goto 6 dX2_doBarter_31 (by decide) ?_
          rw [nI_1]
          exact s3
    · have he : i = nT V := by omega
      subst he
      refine ⟨M, ?_, rA, FrO.rf⟩
      skip
      refine x_iload_n dX2_doBarter_6 rfl ?_
      refine x_aload_n dX2_doBarter_7 rfl ?_
      refine y_getI fkX2_61 dX2_doBarter_8 (hk.1 0 (by decide)) (hk.2 0 (by decide)) rfl ?_
      refine x_icmp_ge 34 dX2_doBarter_11 (by decide) (fun c_11 => ?_) (fun c_11 => ?_)
      · exact y_vret dX2_doBarter_34 rfl (rfl)
      · exact absurd (lp_lt hV9 rA.1.1 (by rw [nT_db]; omega) c_11) (by rw [nT_db]; omega)
theorem y_doBarter {o : Nat} (hk : IsMk o) {M : Mem} {V : Row} (hR : RM M o V) (hV : WF V) (ho : o + 9 < 81) {g : Nat → Option Nat} (hg : ∀ i q, i < nT V → g i = some q → q < nT V) (hgi : ∀ i, i < nT V → M 81 i = gI (-1) (g i)) : ∃ M' : Mem, Y 2 mX2_doBarter 0 (lent 3 [.ref o, .ref 81]) [] M none M' ∧ RM M' o (dbV V g (nT V)) ∧ FrO o M M' := by
  have hR0 := hR
  obtain ⟨⟨r7, r8, r9, r10, r11, r12, r13, r14, r15, r2⟩, rk, rt⟩ := hR0
  obtain ⟨hn1, hn2⟩ := WF_n hV
  obtain ⟨M1, s1, r1, f1⟩ := y_doBarter_loop hk ho hV hg (nT V + 1) 0 (kwM M o) (by omega) (by omega) (RM_kw hR) (fun j hj => by rw [kw_ne (by omega)]; exact hgi j hj) (fun j hj => by rw [kw_8 (by omega), kw_9 (by omega)]; exact ⟨(rt j hj).2.2.1, (rt j hj).2.2.2.1⟩)
  refine ⟨M1, ?_, r1, FrO.kw.tr f1⟩
  skip
  refine x_aload_n dX2_doBarter_0 rfl ?_
  refine y_callV0 okX2_keepWares lkX2_125 dX2_doBarter_1 (hk.1 0 (by decide)) (hk.2 0 (by decide)) (y_keepWares hk) (by omega) (Nat.le_of_ble_eq_true rfl) rfl rfl (cat8 rfl) ?_
  refine x_iconstv (v := 0) dX2_doBarter_4 (by decide) ?_
  refine x_istore_n dX2_doBarter_5 (by decide) rfl ?_
  exact s1
end
section
theorem rowN_0 {V W : Row} : rowN V 0 W = W := by funext j; simp [rowN]
theorem rowN_s {V W : Row} {i : Nat} : upd (rowN V i W) i (V i) = rowN V (i + 1) W := by
  funext j
  simp only [rowN, upd]
  grind
theorem row2 {M : Mem} {a b : Nat} {V W : Row} (h : a ≠ b) : setR (setR M a V) b W = setR (setR M b W) a V := by
  funext k
  simp only [setR]
  grind
def warR (V : Row) : Row := fun t => V (24 + 5 * t)
def ageR (V : Row) : Row := fun t => V (25 + 5 * t)
def lwM (M : Mem) (i : Nat) : Mem := setR (setR M 93 (rowN (warR (M 85)) i (M 93))) 94 (rowN (ageR (M 85)) i (M 94))
theorem lwM_0 {M : Mem} : lwM M 0 = M := by
  unfold lwM
  rw [rowN_0, rowN_0, row_self, row_self]
theorem lwM_85 {M : Mem} {i : Nat} : lwM M i 85 = M 85 := by unfold lwM; rw [row_ne (by decide), row_ne (by decide)]
theorem lwM_s {M : Mem} {i : Nat} : updM (updM (lwM M i) 93 i (M 85 (24 + 5 * i))) 94 i (M 85 (25 + 5 * i)) = lwM M (i + 1) := by
  have e1 : updM (lwM M i) 93 i (M 85 (24 + 5 * i)) = setR (setR M 93 (rowN (warR (M 85)) (i + 1) (M 93))) 94 (rowN (ageR (M 85)) i (M 94)) := by
    rw [updM_row]
    unfold lwM
    rw [row_ne (by decide), row_at, row2 (by decide), row_row]
    rw [show M 85 (24 + 5 * i) = warR (M 85) i from rfl, rowN_s]
  rw [e1, updM_row, row_at, row_row, show M 85 (25 + 5 * i) = ageR (M 85) i from rfl, rowN_s]
  rfl
theorem lt7 {i : Nat} (h1 : i ≤ 7) (c : ¬ (7 : Int32) ≤ nI i) : i < 7 := by
  rcases Nat.lt_or_ge i 7 with q | q
  · exact q
  · exact absurd (nI_le (a := 7) (b := i) q (by omega)) c
theorem eq7 {i : Nat} (h1 : i ≤ 7) (c : (7 : Int32) ≤ nI i) : i = 7 := by
  have := (nI_leI (a := 7) (b := i) (by decide) (by omega)).mp c
  omega
theorem lt57 {i : Nat} (h1 : i ≤ 57) (c : ¬ (57 : Int32) ≤ nI i) : i < 57 := by
  rcases Nat.lt_or_ge i 57 with q | q
  · exact q
  · exact absurd (nI_le (a := 57) (b := i) q (by omega)) c
theorem eq57 {i : Nat} (h1 : i ≤ 57) (c : (57 : Int32) ≤ nI i) : i = 57 := by
  have := (nI_leI (a := 57) (b := i) (by decide) (by omega)).mp c
  omega
theorem lt171 {i : Nat} (h1 : i ≤ 171) (c : ¬ (171 : Int32) ≤ nI i) : i < 171 := by
  rcases Nat.lt_or_ge i 171 with q | q
  · exact q
  · exact absurd (nI_le (a := 171) (b := i) q (by omega)) c
theorem eq171 {i : Nat} (h1 : i ≤ 171) (c : (171 : Int32) ≤ nI i) : i = 171 := by
  have := (nI_leI (a := 171) (b := i) (by decide) (by omega)).mp c
  omega
def bRow (V : Row) (a b : Nat) : Row := bartV V a b
theorem rsn_01 (V : Row) (a b : Nat) : rsn V a b = 0 ∨ 0 < rsn V a b := by
  unfold rsn
  repeat' split
  all_goals first | (left; rfl) | (right; decide)
def shN (H : Row) (i : Nat) : Row := fun j => if j < i then H (j + 57) else H j
theorem shN_0 {H : Row} : shN H 0 = H := by funext j; simp [shN]
theorem shN_s {H : Row} {i : Nat} : upd (shN H i) i (shN H i (i + 57)) = shN H (i + 1) := by
  funext j
  simp only [shN, upd]
  grind
def ptN (H V : Row) (K i : Nat) : Row := fun j => if 57 * K ≤ j ∧ j < 57 * K + i then V (j - 57 * K) else H j
theorem ptN_0 {H V : Row} {K : Nat} : ptN H V K 0 = H := by
  funext j
  simp only [ptN]
  rw [if_neg (by omega)]
theorem ptN_s {H V : Row} {K i : Nat} : upd (ptN H V K i) (57 * K + i) (V i) = ptN H V K (i + 1) := by
  funext j
  simp only [ptN, upd]
  by_cases h : j = 57 * K + i
  · subst h
    rw [if_pos rfl, if_pos (by omega)]
    congr 1
    omega
  · rw [if_neg h]
    by_cases h2 : 57 * K ≤ j ∧ j < 57 * K + i
    · rw [if_pos h2, if_pos (by omega)]
    · rw [if_neg h2, if_neg (by omega)]
/-- the reference's record: the row M 85 at the end of the history -/
def recH (M : Mem) (K : Nat) : Row := if K = 4 then ptN (shN (M 87) 171) (M 85) 3 57 else ptN (M 87) (M 85) K 57
def recK (K : Nat) : Nat := if K = 4 then 4 else K + 1
def recM (M : Mem) (K : Nat) : Mem := updM (setR M 87 (recH M K)) 84 3 (nI (recK K))
theorem su_1 {M : Mem} {S : Row} {x : Int32} : setR (updM (setR M 87 S) 84 3 x) 87 S = updM (setR M 87 S) 84 3 x := by
  funext k j
  by_cases h : k = 87
  · subst h; simp [updM, setR]
  · simp [updM, setR, h]
theorem su_2 {M : Mem} {S T : Row} {x y : Int32} : updM (setR (updM (setR M 87 S) 84 3 x) 87 T) 84 3 y = updM (setR M 87 T) 84 3 y := by
  funext k j
  by_cases h : k = 87
  · subst h; simp [updM, setR]
  · by_cases h2 : k = 84
    · subst h2
      by_cases h3 : j = 3
      · simp [updM, setR, h3]
      · simp [updM, setR, h3]
    · simp [updM, setR, h, h2]
end
section
theorem r_looks_loop {M : Mem} : ∀ (fu i : Nat), i ≤ 7 → 7 - i < fu → Y 2 mX6_looksAtWares 2 [some (.ref 84), some (.int (nI i))] [] (lwM M i) none (lwM M 7) := by
  intro fu
  induction fu with
  | zero => intro i h1 h2; omega
  | succ fu ih =>
    intro i h1 h2
    refine x_iload_n dX6_looksAtWares_2 rfl ?_
    refine x_bipushv (v := 7) dX6_looksAtWares_3 (by decide) ?_
    refine x_icmp_ge 38 dX6_looksAtWares_5 (by decide) (fun c_5 => ?_) (fun c_5 => ?_)
    · have he := eq7 h1 c_5
      subst he
      exact y_vret dX6_looksAtWares_38 rfl (rfl)
    · have hlt := lt7 h1 c_5
      refine x_aload_n dX6_looksAtWares_8 rfl ?_
      refine y_getR fkX6_41 dX6_looksAtWares_9 (by decide) rfl rfl ?_
      refine x_iload_n dX6_looksAtWares_12 rfl ?_
      refine x_aload_n dX6_looksAtWares_13 rfl ?_
      refine x_iload_n dX6_looksAtWares_14 rfl ?_
      refine x_iconstv (v := 2) dX6_looksAtWares_15 (by decide) ?_
      refine y_callV (as := [_, _]) okX6_of lkX6_65 dX6_looksAtWares_16 rfl (by decide) rfl (r_of2 (k := i) hlt) (by omega) rfl (by simp [Value.category]) (Nat.le_of_ble_eq_true rfl) rfl rfl (cat8 rfl) ?_
      refine y_iastn (j := i) dX6_looksAtWares_19 (by decide) rfl (ixN (by omega)) (by omega) ?_
      
      refine x_aload_n dX6_looksAtWares_20 rfl ?_
      refine y_getR fkX6_44 dX6_looksAtWares_21 (by decide) rfl rfl ?_
      refine x_iload_n dX6_looksAtWares_24 rfl ?_
      refine x_aload_n dX6_looksAtWares_25 rfl ?_
      refine x_iload_n dX6_looksAtWares_26 rfl ?_
      refine x_iconstv (v := 3) dX6_looksAtWares_27 (by decide) ?_
      refine y_callV (as := [_, _]) okX6_of lkX6_65 dX6_looksAtWares_28 rfl (by decide) rfl (r_of3 (k := i) hlt) (by omega) rfl (by simp [Value.category]) (Nat.le_of_ble_eq_true rfl) rfl rfl (cat8 rfl) ?_
      rw [updM_ne (k := 85) (by decide)]
      refine y_iastn (j := i) dX6_looksAtWares_31 (by decide) rfl (ixN (by omega)) (by omega) ?_
      refine x_iincv (v := 1) dX6_looksAtWares_32 rfl (by decide) rfl (by decide) ?_
      refine x_goto 2 dX6_looksAtWares_35 (by decide) ?_
      rw [lwM_85, lwM_s, nI_1]
      exact ih (i + 1) (by omega) (by omega)
theorem r_looks {M : Mem} : Y 2 mX6_looksAtWares 0 (lent 2 [.ref 84]) [] M none (lwM M 7) := by
  have h := r_looks_loop (M := M) 8 0 (by omega) (by omega)
  rw [lwM_0] at h
  refine x_iconstv (v := 0) dX6_looksAtWares_0 (by decide) ?_
  refine x_istore_n dX6_looksAtWares_1 (by decide) rfl ?_
  exact h
theorem lwM_93 {M : Mem} {t : Nat} (h : t < 7) : lwM M 7 93 t = M 85 (24 + 5 * t) := by
  unfold lwM
  rw [row_ne (by decide), row_at]
  simp [rowN, h, warR]
theorem lwM_94 {M : Mem} {t : Nat} (h : t < 7) : lwM M 7 94 t = M 85 (25 + 5 * t) := by
  unfold lwM
  rw [row_at]
  simp [rowN, h, ageR]
theorem r_barters {M : Mem} (hV : WF (M 85)) {a b : Nat} (ha : a < nT (M 85)) (hb : b < nT (M 85)) : ∃ M' : Mem, Y 4 mX6_barters 0 (lent 4 [.ref 84, .int (nI a), .int (nI b)]) [] M (some (.int (bartR (M 85) a b))) M' ∧ M' 85 = bartV (M 85) a b ∧ (∀ c, c ≠ 85 → c ≠ 93 → c ≠ 94 → M' c = M c) := by
  have h7a := b6 hV ha
  have h7b := b6 hV hb
  by_cases hz : rsn (M 85) a b = 0
  · have s1 := r_gets (M := lwM M 7) (a := M 85 (25 + 5 * b)) h7a (kd_lt hV hb)
    rw [lwM_85] at s1
    have s2 := r_gets (M := setR (lwM M 7) 85 (getsV (M 85) a (kd (M 85) b) (M 85 (25 + 5 * b)))) (a := M 85 (25 + 5 * a)) h7b (kd_lt hV ha)
    rw [row_at, row_row] at s2
    refine ⟨setR (lwM M 7) 85 (getsV (getsV (M 85) a (kd (M 85) b) (M 85 (25 + 5 * b))) b (kd (M 85) a) (M 85 (25 + 5 * a))), ?_, by rw [row_at]; simp only [bartV, if_pos hz], fun c c1 c2 c3 => by rw [row_ne c1]; unfold lwM; rw [row_ne c3, row_ne c2]⟩
    skip
    refine x_aload_n dX6_barters_0 rfl ?_
    refine x_iload_n dX6_barters_1 rfl ?_
    refine x_iload_n dX6_barters_2 rfl ?_
    refine y_callV (as := [_, _]) okX6_reason lkX6_102 dX6_barters_3 rfl (by decide) rfl (r_reason hV ha hb) (by omega) rfl (by simp [Value.category]) (Nat.le_of_ble_eq_true rfl) rfl rfl (cat8 rfl) ?_
    refine x_istore_n dX6_barters_6 (by decide) rfl ?_
    refine x_iload_n dX6_barters_7 rfl ?_
    refine x_if_le 24 dX6_barters_8 (by decide) (fun c_8 => ?_) (fun c_8 => ?_)
    · refine x_aload_n dX6_barters_24 rfl ?_
      refine y_callV0 okX6_looksAtWares lkX6_95 dX6_barters_25 (by decide) rfl (r_looks) (by omega) (Nat.le_of_ble_eq_true rfl) rfl rfl (cat8 rfl) ?_
      refine x_aload_n dX6_barters_28 rfl ?_
      refine x_iload_n dX6_barters_29 rfl ?_
      refine x_aload_n dX6_barters_30 rfl ?_
      refine y_getR fkX6_41 dX6_barters_31 (by decide) rfl rfl ?_
      refine x_iload_n dX6_barters_34 rfl ?_
      refine y_ialdn (j := b) dX6_barters_35 (by decide) rfl (ixN (by omega)) (by omega) ?_
      rw [lwM_93 h7b, kd_nI hV hb]
      refine x_aload_n dX6_barters_36 rfl ?_
      refine y_getR fkX6_44 dX6_barters_37 (by decide) rfl rfl ?_
      refine x_iload_n dX6_barters_40 rfl ?_
      refine y_ialdn (j := b) dX6_barters_41 (by decide) rfl (ixN (by omega)) (by omega) ?_
      rw [lwM_94 h7b]
      refine y_callV (as := [_, _, _]) okX6_gets lkX6_98 dX6_barters_42 rfl (by decide) rfl (s1) (by omega) rfl (by simp [Value.category]) (Nat.le_of_ble_eq_true rfl) rfl rfl (cat8 rfl) ?_
      refine x_aload_n dX6_barters_45 rfl ?_
      refine x_iload_n dX6_barters_46 rfl ?_
      refine x_aload_n dX6_barters_47 rfl ?_
      refine y_getR fkX6_41 dX6_barters_48 (by decide) rfl rfl ?_
      refine x_iload_n dX6_barters_51 rfl ?_
      refine y_ialdn (j := a) dX6_barters_52 (by decide) rfl (ixN (by omega)) (by omega) ?_
      rw [row_ne (by decide), lwM_93 h7a, kd_nI hV ha]
      refine x_aload_n dX6_barters_53 rfl ?_
      refine y_getR fkX6_44 dX6_barters_54 (by decide) rfl rfl ?_
      refine x_iload_n dX6_barters_57 rfl ?_
      refine y_ialdn (j := a) dX6_barters_58 (by decide) rfl (ixN (by omega)) (by omega) ?_
      rw [row_ne (by decide), lwM_94 h7a]
      refine y_callV (as := [_, _, _]) okX6_gets lkX6_98 dX6_barters_59 rfl (by decide) rfl (s2) (by omega) rfl (by simp [Value.category]) (Nat.le_of_ble_eq_true rfl) rfl rfl (cat8 rfl) ?_
      refine x_bipushv (v := 10) dX6_barters_62 (by decide) ?_
      exact y_ret dX6_barters_64 rfl (rfl) (by simp [bartR, hz]) (rfl)
    · exact absurd (by rw [hz]; decide) c_8
  · have hp : 0 < rsn (M 85) a b := (rsn_01 (M 85) a b).resolve_left hz
    refine ⟨setR M 85 (bartV (M 85) a b), ?_, row_at, fun c c1 _ _ => row_ne c1⟩
    skip
    refine x_aload_n dX6_barters_0 rfl ?_
    refine x_iload_n dX6_barters_1 rfl ?_
    refine x_iload_n dX6_barters_2 rfl ?_
    refine y_callV (as := [_, _]) okX6_reason lkX6_102 dX6_barters_3 rfl (by decide) rfl (r_reason hV ha hb) (by omega) rfl (by simp [Value.category]) (Nat.le_of_ble_eq_true rfl) rfl rfl (cat8 rfl) ?_
    refine x_istore_n dX6_barters_6 (by decide) rfl ?_
    refine x_iload_n dX6_barters_7 rfl ?_
    refine x_if_le 24 dX6_barters_8 (by decide) (fun c_8 => ?_) (fun c_8 => ?_)
    · exact absurd (Int32.lt_of_lt_of_le hp c_8) (by simp)
    · refine x_aload_n dX6_barters_11 rfl ?_
      refine y_getR fkX6_7 dX6_barters_12 (by decide) rfl rfl ?_
      refine x_bipushv (v := 6) dX6_barters_15 (by decide) ?_
      refine x_dup2_ir dX6_barters_17 ?_
      refine y_ialdn (j := 6) dX6_barters_18 (by decide) rfl (by decide) (by decide) ?_
      refine x_iconstv (v := 1) dX6_barters_19 (by decide) ?_
      refine x_iadd dX6_barters_20 ?_
      refine y_iastn (j := 6) dX6_barters_21 (by decide) rfl (by decide) (by decide) ?_
      refine x_iload_n dX6_barters_22 rfl ?_
      exact y_ret dX6_barters_23 rfl (rfl) (by simp [bartR, hz]) (by rw [updM_row]; simp only [bartV, if_neg hz])
theorem r_putAside_loop {M : Mem} : ∀ (fu i : Nat), i ≤ 57 → 57 - i < fu → Y 0 mX6_putAside 2 [some (.ref 84), some (.int (nI i))] [] (setR M 86 (rowN (M 85) i (M 86))) none (setR M 86 (rowN (M 85) 57 (M 86))) := by
  intro fu
  induction fu with
  | zero => intro i h1 h2; omega
  | succ fu ih =>
    intro i h1 h2
    refine x_iload_n dX6_putAside_2 rfl ?_
    refine x_bipushv (v := 57) dX6_putAside_3 (by decide) ?_
    refine x_icmp_ge 26 dX6_putAside_5 (by decide) (fun c_5 => ?_) (fun c_5 => ?_)
    · have he := eq57 h1 c_5
      subst he
      exact y_vret dX6_putAside_26 rfl (rfl)
    · have hlt := lt57 h1 c_5
      refine x_aload_n dX6_putAside_8 rfl ?_
      refine y_getR fkX6_13 dX6_putAside_9 (by decide) rfl rfl ?_
      refine x_iload_n dX6_putAside_12 rfl ?_
      refine x_aload_n dX6_putAside_13 rfl ?_
      refine y_getR fkX6_7 dX6_putAside_14 (by decide) rfl rfl ?_
      refine x_iload_n dX6_putAside_17 rfl ?_
      refine y_ialdn (j := i) dX6_putAside_18 (by decide) rfl (ixN (by omega)) (by omega) ?_
      refine y_iastn (j := i) dX6_putAside_19 (by decide) rfl (ixN (by omega)) (by omega) ?_
      refine x_iincv (v := 1) dX6_putAside_20 rfl (by decide) rfl (by decide) ?_
      refine x_goto 2 dX6_putAside_23 (by decide) ?_
      rw [row_ne (k := 85) (by decide), updM_row, row_at, row_row, rowN_s, nI_1]
      exact ih (i + 1) (by omega) (by omega)
theorem r_putAside {M : Mem} : Y 0 mX6_putAside 0 (lent 2 [.ref 84]) [] M none (setR M 86 (rowN (M 85) 57 (M 86))) := by
  have h := r_putAside_loop (M := M) 58 0 (by omega) (by omega)
  rw [rowN_0, row_self] at h
  refine x_iconstv (v := 0) dX6_putAside_0 (by decide) ?_
  refine x_istore_n dX6_putAside_1 (by decide) rfl ?_
  exact h
theorem r_putBack_loop {M : Mem} : ∀ (fu i : Nat), i ≤ 57 → 57 - i < fu → Y 0 mX6_putBack 2 [some (.ref 84), some (.int (nI i))] [] (setR M 85 (rowN (M 86) i (M 85))) none (setR M 85 (rowN (M 86) 57 (M 85))) := by
  intro fu
  induction fu with
  | zero => intro i h1 h2; omega
  | succ fu ih =>
    intro i h1 h2
    refine x_iload_n dX6_putBack_2 rfl ?_
    refine x_bipushv (v := 57) dX6_putBack_3 (by decide) ?_
    refine x_icmp_ge 26 dX6_putBack_5 (by decide) (fun c_5 => ?_) (fun c_5 => ?_)
    · have he := eq57 h1 c_5
      subst he
      exact y_vret dX6_putBack_26 rfl (rfl)
    · have hlt := lt57 h1 c_5
      refine x_aload_n dX6_putBack_8 rfl ?_
      refine y_getR fkX6_7 dX6_putBack_9 (by decide) rfl rfl ?_
      refine x_iload_n dX6_putBack_12 rfl ?_
      refine x_aload_n dX6_putBack_13 rfl ?_
      refine y_getR fkX6_13 dX6_putBack_14 (by decide) rfl rfl ?_
      refine x_iload_n dX6_putBack_17 rfl ?_
      refine y_ialdn (j := i) dX6_putBack_18 (by decide) rfl (ixN (by omega)) (by omega) ?_
      refine y_iastn (j := i) dX6_putBack_19 (by decide) rfl (ixN (by omega)) (by omega) ?_
      refine x_iincv (v := 1) dX6_putBack_20 rfl (by decide) rfl (by decide) ?_
      refine x_goto 2 dX6_putBack_23 (by decide) ?_
      rw [row_ne (k := 86) (by decide), updM_row, row_at, row_row, rowN_s, nI_1]
      exact ih (i + 1) (by omega) (by omega)
theorem r_putBack {M : Mem} : Y 0 mX6_putBack 0 (lent 2 [.ref 84]) [] M none (setR M 85 (rowN (M 86) 57 (M 85))) := by
  have h := r_putBack_loop (M := M) 58 0 (by omega) (by omega)
  rw [rowN_0, row_self] at h
  refine x_iconstv (v := 0) dX6_putBack_0 (by decide) ?_
  refine x_istore_n dX6_putBack_1 (by decide) rfl ?_
  exact h
theorem r_rec_loop1 {M : Mem} {M9 : Mem} (hx : Y 0 mX6_record 38 [some (.ref 84), some (.int (nI 171))] [] (setR M 87 (shN (M 87) 171)) none M9) : ∀ (fu i : Nat), i ≤ 171 → 171 - i < fu → Y 0 mX6_record 10 [some (.ref 84), some (.int (nI i))] [] (setR M 87 (shN (M 87) i)) none M9 := by
  intro fu
  induction fu with
  | zero => intro i h1 h2; omega
  | succ fu ih =>
    intro i h1 h2
    refine x_iload_n dX6_record_10 rfl ?_
    refine x_sipushv (v := 171) dX6_record_11 (by decide) ?_
    refine x_icmp_ge 38 dX6_record_14 (by decide) (fun c_14 => ?_) (fun c_14 => ?_)
    · have he := eq171 h1 c_14
      subst he
      exact hx
    · have hlt := lt171 h1 c_14
      refine x_aload_n dX6_record_17 rfl ?_
      refine y_getR fkX6_16 dX6_record_18 (by decide) rfl rfl ?_
      refine x_iload_n dX6_record_21 rfl ?_
      refine x_aload_n dX6_record_22 rfl ?_
      refine y_getR fkX6_16 dX6_record_23 (by decide) rfl rfl ?_
      refine x_iload_n dX6_record_26 rfl ?_
      refine x_bipushv (v := 57) dX6_record_27 (by decide) ?_
      refine x_iadd dX6_record_29 ?_
      rw [show (57 : Int32) = nI 57 from rfl, nI_add]
      refine y_ialdn (j := i + 57) dX6_record_30 (by decide) rfl (ixN (by omega)) (by omega) ?_
      rw [row_at]
      refine y_iastn (j := i) dX6_record_31 (by decide) rfl (ixN (by omega)) (by omega) ?_
      refine x_iincv (v := 1) dX6_record_32 rfl (by decide) rfl (by decide) ?_
      refine x_goto 10 dX6_record_35 (by decide) ?_
      rw [updM_row, row_at, row_row, shN_s, nI_1]
      exact ih (i + 1) (by omega) (by omega)
theorem r_rec_loop2 {M : Mem} {K : Nat} (hK : K ≤ 3) (hk : M 84 3 = nI K) : ∀ (fu i : Nat), i ≤ 57 → 57 - i < fu → Y 0 mX6_record 50 [some (.ref 84), some (.int (nI i))] [] (setR M 87 (ptN (M 87) (M 85) K i)) none (updM (setR M 87 (ptN (M 87) (M 85) K 57)) 84 3 (nI (K + 1))) := by
  intro fu
  induction fu with
  | zero => intro i h1 h2; omega
  | succ fu ih =>
    intro i h1 h2
    refine x_iload_n dX6_record_50 rfl ?_
    refine x_bipushv (v := 57) dX6_record_51 (by decide) ?_
    refine x_icmp_ge 82 dX6_record_53 (by decide) (fun c_53 => ?_) (fun c_53 => ?_)
    · have he := eq57 h1 c_53
      subst he
      refine x_aload_n dX6_record_82 rfl ?_
      refine x_dup_r dX6_record_83 ?_
      refine y_getI fkX6_62 dX6_record_84 (by decide) rfl rfl ?_
      rw [row_ne (k := 84) (by decide), hk]
      refine x_iconstv (v := 1) dX6_record_87 (by decide) ?_
      
      refine x_iadd dX6_record_88 ?_
      refine y_putI fkX6_62 dX6_record_89 (by decide) rfl rfl rfl rfl rfl ?_
      exact y_vret dX6_record_92 rfl (by rw [nI_1])
    · have hlt := lt57 h1 c_53
      refine x_aload_n dX6_record_56 rfl ?_
      refine y_getR fkX6_16 dX6_record_57 (by decide) rfl rfl ?_
      refine x_bipushv (v := 57) dX6_record_60 (by decide) ?_
      refine x_aload_n dX6_record_62 rfl ?_
      refine y_getI fkX6_62 dX6_record_63 (by decide) rfl rfl ?_
      rw [row_ne (k := 84) (by decide), hk]
      refine x_imul dX6_record_66 ?_
      refine x_iload_n dX6_record_67 rfl ?_
      refine x_iadd dX6_record_68 ?_
      rw [show (57 : Int32) = nI 57 from rfl, pk_mul, nI_add]
      refine x_aload_n dX6_record_69 rfl ?_
      refine y_getR fkX6_7 dX6_record_70 (by decide) rfl rfl ?_
      refine x_iload_n dX6_record_73 rfl ?_
      refine y_ialdn (j := i) dX6_record_74 (by decide) rfl (ixN (by omega)) (by omega) ?_
      rw [row_ne (k := 85) (by decide)]
      refine y_iastn (j := 57 * K + i) dX6_record_75 (by decide) rfl (ixN (by omega)) (by omega) ?_
      refine x_iincv (v := 1) dX6_record_76 rfl (by decide) rfl (by decide) ?_
      refine x_goto 50 dX6_record_79 (by decide) ?_
      rw [updM_row, row_at, row_row, ptN_s, nI_1]
      exact ih (i + 1) (by omega) (by omega)
theorem r_record {M : Mem} {K : Nat} (hK : K ≤ 4) (hk : M 84 3 = nI K) : Y 0 mX6_record 0 (lent 2 [.ref 84]) [] M none (recM M K) := by
  by_cases h4 : K = 4
  · subst h4
    have h2 := r_rec_loop2 (M := updM (setR M 87 (shN (M 87) 171)) 84 3 (nI 3)) (K := 3) (by omega) (by simp [updM]) 58 0 (by omega) (by omega)
    have e87 : updM (setR M 87 (shN (M 87) 171)) 84 3 (nI 3) 87 = shN (M 87) 171 := by rw [updM_ne (by decide), row_at]
    have e85 : updM (setR M 87 (shN (M 87) 171)) 84 3 (nI 3) 85 = M 85 := by rw [updM_ne (by decide), row_ne (by decide)]
    rw [e87, e85, ptN_0, su_1, su_2] at h2
    have e9 : updM (setR M 87 (ptN (shN (M 87) 171) (M 85) 3 57)) 84 3 (nI (3 + 1)) = recM M 4 := by
      unfold recM recH recK
      rw [if_pos rfl, if_pos rfl]
    rw [e9] at h2
    have h3 : Y 0 mX6_record 38 [some (.ref 84), some (.int (nI 171))] [] (setR M 87 (shN (M 87) 171)) none (recM M 4) := by
      skip
      refine x_aload_n dX6_record_38 rfl ?_
      refine x_dup_r dX6_record_39 ?_
      refine y_getI fkX6_62 dX6_record_40 (by decide) rfl rfl ?_
      rw [row_ne (k := 84) (by decide), hk]
      refine x_iconstv (v := 1) dX6_record_43 (by decide) ?_
      refine x_isub dX6_record_44 ?_
      rw [show nI 4 - 1 = nI 3 from by decide]
      refine y_putI fkX6_62 dX6_record_45 (by decide) rfl rfl rfl rfl rfl ?_
      refine x_iconstv (v := 0) dX6_record_48 (by decide) ?_
      refine x_istore_n dX6_record_49 (by decide) rfl ?_
      exact h2
    have h1 := r_rec_loop1 h3 172 0 (by omega) (by omega)
    rw [shN_0, row_self] at h1
    skip
    refine x_aload_n dX6_record_0 rfl ?_
    refine y_getI fkX6_62 dX6_record_1 (by decide) rfl rfl ?_
    rw [hk]
    refine x_iconstv (v := 4) dX6_record_4 (by decide) ?_
    refine x_icmp_ne 48 dX6_record_5 (by decide) (fun c_5 => ?_) (fun c_5 => ?_)
    · exact absurd rfl c_5
    · refine x_iconstv (v := 0) dX6_record_8 (by decide) ?_
      refine x_istore_n dX6_record_9 (by decide) rfl ?_
      exact h1
  · have h2 := r_rec_loop2 (M := M) (K := K) (by omega) hk 58 0 (by omega) (by omega)
    rw [ptN_0, row_self] at h2
    have e9 : updM (setR M 87 (ptN (M 87) (M 85) K 57)) 84 3 (nI (K + 1)) = recM M K := by
      unfold recM recH recK
      rw [if_neg h4, if_neg h4]
    rw [e9] at h2
    skip
    refine x_aload_n dX6_record_0 rfl ?_
    refine y_getI fkX6_62 dX6_record_1 (by decide) rfl rfl ?_
    rw [hk]
    refine x_iconstv (v := 4) dX6_record_4 (by decide) ?_
    refine x_icmp_ne 48 dX6_record_5 (by decide) (fun c_5 => ?_) (fun c_5 => ?_)
    · refine x_iconstv (v := 0) dX6_record_48 (by decide) ?_
      refine x_istore_n dX6_record_49 (by decide) rfl ?_
      exact h2
    · exact absurd ((nI_eq (a := K) (b := 4) (by omega) (by decide)).mp c_5) h4
end
section
theorem pl_of_q {V : Row} {i : Nat} : (pl V i).1 = upd (upd (qV V i) 3 ((pl V i).1 3)) 4 ((pl V i).1 4) := by
  funext x
  simp only [qV, pd2, pd1, upd]
  grind
theorem nT_pl {V : Row} {i : Nat} : nT (pl V i).1 = nT V := by
  rw [pl_of_q, nT_upd (by omega), nT_upd (by omega), nT_q]
theorem WF_pl {V : Row} (hV : WF V) {i : Nat} (hi : i ≤ nT V) : WF (pl V i).1 := by
  rw [pl_of_q]
  exact WF_up (WF_up (WF_q hV i hi) (by omega)) (by omega)
def cllV (V : Row) (g : Nat → Option Nat) : Row := upd (dbV V g (nT V)) 5 (dbV V g (nT V) 5 + 1)
theorem WF_call {V : Row} (hV : WF V) {g : Nat → Option Nat} (hg : ∀ i q, i < nT V → g i = some q → q < nT V) : WF (cllV V g) := WF_up (WF_db hV hg _ (Nat.le_refl _)) (by omega)
theorem nT_call {V : Row} {g : Nat → Option Nat} : nT (cllV V g) = nT V := by
  unfold cllV
  rw [nT_upd (by omega), nT_db]
theorem RM_call {M : Mem} {o : Nat} {V : Row} (hR : RM M o V) : RM (inc M o 14) o (upd V 5 (V 5 + 1)) := by
  obtain ⟨⟨r7, r8, r9, r10, r11, r12, r13, r14, r15, r2⟩, rk, rt⟩ := hR
  have hn : nT (upd V 5 (V 5 + 1)) = nT V := nT_upd (by omega)
  refine ⟨?_, fun j hj => ?_, fun j hj => ?_⟩
  · rw [hn]
    simp only [inc, updM, upd, mSum]
    simp only [mSum] at r2
    grind
  · have := rk j hj
    simp only [inc, updM, upd]
    grind
  · rw [hn] at hj
    have := rt j hj
    simp only [inc, updM, upd]
    grind
end
section
theorem r_dlt {M : Mem} {W : Row} (hW : WF W) {j : Nat} (hj : j < nT W) : Y 2 mX6_daysLeft 0 (lent 3 [.ref 84, .int (nI j)]) [] (setR M 85 W) (some (.int (dl W j))) (setR M 85 W) := by
  have e : setR M 85 W 85 = W := row_at
  have h := r_daysLeft (M := setR M 85 W) (by rw [e]; exact hW) (j := j) (by rw [e]; exact hj)
  rw [e] at h
  exact h
theorem r_passes_loop {M : Mem} (hV : WF (M 85)) {M9 : Mem} {r : Option Value} (hx : Y 3 mX6_passes 82 [some (.ref 84), some (.int (pl (M 85) (nT (M 85))).2), some (.int (nI (nT (M 85))))] [] (setR M 85 (pl (M 85) (nT (M 85))).1) r M9) : ∀ (fu i : Nat), i ≤ nT (M 85) → nT (M 85) - i < fu → Y 3 mX6_passes 14 [some (.ref 84), some (.int (pl (M 85) i).2), some (.int (nI i))] [] (setR M 85 (pl (M 85) i).1) r M9 := by
  intro fu
  induction fu with
  | zero => intro i h1 h2; omega
  | succ fu ih =>
    intro i h1 h2
    obtain ⟨hn1, hn2⟩ := WF_n hV
    have hW := WF_pl hV h1
    have hp1 : (pl (M 85) i).1 1 = M 85 1 := by
      have a1 := (WF_n hW).2
      rw [nT_pl] at a1
      rw [a1, ← hn2]
    by_cases hlt : i < nT (M 85)
    · have hni : i < nT (ps1 (pl (M 85) i).1 i) := by unfold ps1; rw [nT_upd (by omega), nT_pl]; exact hlt
      have hdl := r_dlt (M := M) (WF_ps1 (i := i) hW) hni
      have hi := ih (i + 1) (by omega) (by omega)
      by_cases hz : dl (ps1 (pl (M 85) i).1 i) i = 0
      · have e1 : pl (M 85) (i + 1) = (ps2 (ps1 (pl (M 85) i).1 i) i, (pl (M 85) i).2 + 1) := by rw [pl, if_pos hz]
        rw [e1] at hi
        skip
        refine x_iload_n dX6_passes_14 rfl ?_
        refine x_aload_n dX6_passes_15 rfl ?_
        refine y_getR fkX6_7 dX6_passes_16 (by decide) rfl rfl ?_
        refine x_iconstv (v := 1) dX6_passes_19 (by decide) ?_
        refine y_ialdn (j := 1) dX6_passes_20 (by decide) rfl (by decide) (by decide) ?_
        rw [row_at, hp1]
        refine x_icmp_ge 82 dX6_passes_21 (by decide) (fun c_21 => ?_) (fun c_21 => ?_)
        · exact absurd (lp_eq hV rfl h1 c_21) (by omega)
        · refine x_aload_n dX6_passes_24 rfl ?_
          refine y_getR fkX6_7 dX6_passes_25 (by decide) rfl rfl ?_
          refine x_iload_n dX6_passes_28 rfl ?_
          refine x_iconstv (v := 3) dX6_passes_29 (by decide) ?_
          refine y_callS (as := [_, _]) okX6_at lkX6_59 dX6_passes_30 rfl (r_at3k (k := i)) (by omega) rfl (by simp [Value.category]) (Nat.le_of_ble_eq_true rfl) (cat8 rfl) ?_
          refine x_dup2_ir dX6_passes_33 ?_
          refine y_ialdn (j := 25 + 5 * i) dX6_passes_34 (by decide) rfl (ixN (by omega)) (by omega) ?_
          refine x_iconstv (v := 1) dX6_passes_35 (by decide) ?_
          refine x_iadd dX6_passes_36 ?_
          refine y_iastn (j := 25 + 5 * i) dX6_passes_37 (by decide) rfl (ixN (by omega)) (by omega) ?_
          simp only [updM_row, row_at, row_row]
          rw [show upd (pl (M 85) i).1 (25 + 5 * i) ((pl (M 85) i).1 (25 + 5 * i) + 1) = ps1 (pl (M 85) i).1 i from rfl]
          refine x_aload_n dX6_passes_38 rfl ?_
          refine x_iload_n dX6_passes_39 rfl ?_
          refine y_callV (as := [_]) okX6_daysLeft lkX6_68 dX6_passes_40 rfl (by decide) rfl (hdl) (by omega) rfl (by simp [Value.category]) (Nat.le_of_ble_eq_true rfl) rfl rfl (cat8 rfl) ?_
          refine x_if_ne 76 dX6_passes_43 (by decide) (fun c_43 => ?_) (fun c_43 => ?_)
          · exact absurd hz c_43
          · refine x_aload_n dX6_passes_46 rfl ?_
            refine y_getR fkX6_7 dX6_passes_47 (by decide) rfl rfl ?_
            refine x_iload_n dX6_passes_50 rfl ?_
            refine x_iconstv (v := 2) dX6_passes_51 (by decide) ?_
            refine y_callS (as := [_, _]) okX6_at lkX6_59 dX6_passes_52 rfl (r_at2k (k := i)) (by omega) rfl (by simp [Value.category]) (Nat.le_of_ble_eq_true rfl) (cat8 rfl) ?_
            refine x_aload_n dX6_passes_55 rfl ?_
            refine x_iload_n dX6_passes_56 rfl ?_
            refine x_iconstv (v := 0) dX6_passes_57 (by decide) ?_
            refine y_callV (as := [_, _]) okX6_of lkX6_65 dX6_passes_58 rfl (by decide) rfl (r_of0 (b6 hV hlt)) (by omega) rfl (by simp [Value.category]) (Nat.le_of_ble_eq_true rfl) rfl rfl (cat8 rfl) ?_
            refine y_iastn (j := 24 + 5 * i) dX6_passes_61 (by decide) rfl (ixN (by omega)) (by omega) ?_
            refine x_aload_n dX6_passes_62 rfl ?_
            refine y_getR fkX6_7 dX6_passes_63 (by decide) rfl rfl ?_
            refine x_iload_n dX6_passes_66 rfl ?_
            refine x_iconstv (v := 3) dX6_passes_67 (by decide) ?_
            refine y_callS (as := [_, _]) okX6_at lkX6_59 dX6_passes_68 rfl (r_at3k (k := i)) (by omega) rfl (by simp [Value.category]) (Nat.le_of_ble_eq_true rfl) (cat8 rfl) ?_
            refine x_iconstv (v := 0) dX6_passes_71 (by decide) ?_
            refine y_iastn (j := 25 + 5 * i) dX6_passes_72 (by decide) rfl (ixN (by omega)) (by omega) ?_
            simp only [updM_row, row_at, row_row]
            rw [show upd (upd (ps1 (pl (M 85) i).1 i) (24 + 5 * i) (ps1 (pl (M 85) i).1 i (22 + 5 * i))) (25 + 5 * i) 0 = ps2 (ps1 (pl (M 85) i).1 i) i from rfl]
            refine x_iincv (v := 1) dX6_passes_73 rfl (by decide) rfl (by decide) ?_
            refine x_iincv (v := 1) dX6_passes_76 rfl (by decide) rfl (by decide) ?_
            refine x_goto 14 dX6_passes_79 (by decide) ?_
            rw [nI_1]
            exact hi
      · have e1 : pl (M 85) (i + 1) = (ps1 (pl (M 85) i).1 i, (pl (M 85) i).2) := by rw [pl, if_neg hz]
        rw [e1] at hi
        skip
        refine x_iload_n dX6_passes_14 rfl ?_
        refine x_aload_n dX6_passes_15 rfl ?_
        refine y_getR fkX6_7 dX6_passes_16 (by decide) rfl rfl ?_
        refine x_iconstv (v := 1) dX6_passes_19 (by decide) ?_
        refine y_ialdn (j := 1) dX6_passes_20 (by decide) rfl (by decide) (by decide) ?_
        rw [row_at, hp1]
        refine x_icmp_ge 82 dX6_passes_21 (by decide) (fun c_21 => ?_) (fun c_21 => ?_)
        · exact absurd (lp_eq hV rfl h1 c_21) (by omega)
        · refine x_aload_n dX6_passes_24 rfl ?_
          refine y_getR fkX6_7 dX6_passes_25 (by decide) rfl rfl ?_
          refine x_iload_n dX6_passes_28 rfl ?_
          refine x_iconstv (v := 3) dX6_passes_29 (by decide) ?_
          refine y_callS (as := [_, _]) okX6_at lkX6_59 dX6_passes_30 rfl (r_at3k (k := i)) (by omega) rfl (by simp [Value.category]) (Nat.le_of_ble_eq_true rfl) (cat8 rfl) ?_
          refine x_dup2_ir dX6_passes_33 ?_
          refine y_ialdn (j := 25 + 5 * i) dX6_passes_34 (by decide) rfl (ixN (by omega)) (by omega) ?_
          refine x_iconstv (v := 1) dX6_passes_35 (by decide) ?_
          refine x_iadd dX6_passes_36 ?_
          refine y_iastn (j := 25 + 5 * i) dX6_passes_37 (by decide) rfl (ixN (by omega)) (by omega) ?_
          simp only [updM_row, row_at, row_row]
          rw [show upd (pl (M 85) i).1 (25 + 5 * i) ((pl (M 85) i).1 (25 + 5 * i) + 1) = ps1 (pl (M 85) i).1 i from rfl]
          refine x_aload_n dX6_passes_38 rfl ?_
          refine x_iload_n dX6_passes_39 rfl ?_
          refine y_callV (as := [_]) okX6_daysLeft lkX6_68 dX6_passes_40 rfl (by decide) rfl (hdl) (by omega) rfl (by simp [Value.category]) (Nat.le_of_ble_eq_true rfl) rfl rfl (cat8 rfl) ?_
          refine x_if_ne 76 dX6_passes_43 (by decide) (fun c_43 => ?_) (fun c_43 => ?_)
          · refine x_iincv (v := 1) dX6_passes_76 rfl (by decide) rfl (by decide) ?_
            refine x_goto 14 dX6_passes_79 (by decide) ?_
            rw [nI_1]
            exact hi
          · exact absurd c_43 hz
    · have he : i = nT (M 85) := by omega
      subst he
      skip
      refine x_iload_n dX6_passes_14 rfl ?_
      refine x_aload_n dX6_passes_15 rfl ?_
      refine y_getR fkX6_7 dX6_passes_16 (by decide) rfl rfl ?_
      refine x_iconstv (v := 1) dX6_passes_19 (by decide) ?_
      refine y_ialdn (j := 1) dX6_passes_20 (by decide) rfl (by decide) (by decide) ?_
      rw [row_at, hp1]
      refine x_icmp_ge 82 dX6_passes_21 (by decide) (fun c_21 => ?_) (fun c_21 => ?_)
      · exact hx
      · exact absurd (lp_lt hV rfl h1 c_21) (by omega)
theorem r_passes {M : Mem} (hV : WF (M 85)) : Y 3 mX6_passes 0 (lent 3 [.ref 84]) [] M (some (.int (thrV (M 85)))) (setR M 85 (passV (M 85))) := by
  obtain ⟨hn1, hn2⟩ := WF_n hV
  have hQ := WF_q hV (nT (M 85)) (Nat.le_refl _)
  have hd0 : ¬ pd3 (qV (M 85) (nT (M 85))) 1 + 1 = 0 := by
    have a1 := (WF_n hQ).2
    rw [nT_q] at a1
    rw [show pd3 (qV (M 85) (nT (M 85))) 1 = (qV (M 85) (nT (M 85))) 1 from by unfold pd3; exact pk_un (by omega), a1, nI_1]
    exact nI_ne0 (by omega) (by omega)
  have hpass : passV (M 85) = upd (pd3 (qV (M 85) (nT (M 85)))) 9 (if shx (pd3 (qV (M 85) (nT (M 85)))) < pd3 (qV (M 85) (nT (M 85))) 1 then shx (pd3 (qV (M 85) (nT (M 85)))) else -4) := rfl
  have hx : Y 3 mX6_passes 82 [some (.ref 84), some (.int (pl (M 85) (nT (M 85))).2), some (.int (nI (nT (M 85))))] [] (setR M 85 (pl (M 85) (nT (M 85))).1) (some (.int (thrV (M 85)))) (setR M 85 (passV (M 85))) := by
    skip
    refine x_aload_n dX6_passes_82 rfl ?_
    refine y_getR fkX6_7 dX6_passes_83 (by decide) rfl rfl ?_
    refine x_iconstv (v := 3) dX6_passes_86 (by decide) ?_
    refine x_dup2_ir dX6_passes_87 ?_
    refine y_ialdn (j := 3) dX6_passes_88 (by decide) rfl (by decide) (by decide) ?_
    refine x_iload_n dX6_passes_89 rfl ?_
    refine x_iadd dX6_passes_90 ?_
    refine y_iastn (j := 3) dX6_passes_91 (by decide) rfl (by decide) (by decide) ?_
    refine x_aload_n dX6_passes_92 rfl ?_
    refine y_getR fkX6_7 dX6_passes_93 (by decide) rfl rfl ?_
    refine x_iconstv (v := 4) dX6_passes_96 (by decide) ?_
    refine x_dup2_ir dX6_passes_97 ?_
    refine y_ialdn (j := 4) dX6_passes_98 (by decide) rfl (by decide) (by decide) ?_
    refine x_iload_n dX6_passes_99 rfl ?_
    refine x_iadd dX6_passes_100 ?_
    refine y_iastn (j := 4) dX6_passes_101 (by decide) rfl (by decide) (by decide) ?_
    simp only [updM_row, row_at, row_row]
    rw [show upd (upd (pl (M 85) (nT (M 85))).1 3 ((pl (M 85) (nT (M 85))).1 3 + (pl (M 85) (nT (M 85))).2)) 4 (upd (pl (M 85) (nT (M 85))).1 3 ((pl (M 85) (nT (M 85))).1 3 + (pl (M 85) (nT (M 85))).2) 4 + (pl (M 85) (nT (M 85))).2) = (qV (M 85) (nT (M 85))) from rfl]
    refine x_aload_n dX6_passes_102 rfl ?_
    refine y_getR fkX6_7 dX6_passes_103 (by decide) rfl rfl ?_
    refine x_bipushv (v := 8) dX6_passes_106 (by decide) ?_
    refine x_sipushv (v := 421) dX6_passes_108 (by decide) ?_
    refine x_aload_n dX6_passes_111 rfl ?_
    refine y_getR fkX6_7 dX6_passes_112 (by decide) rfl rfl ?_
    refine x_bipushv (v := 8) dX6_passes_115 (by decide) ?_
    refine y_ialdn (j := 8) dX6_passes_117 (by decide) rfl (by decide) (by decide) ?_
    rw [row_at]
    refine x_imul dX6_passes_118 ?_
    refine x_sipushv (v := 1663) dX6_passes_119 (by decide) ?_
    refine x_iadd dX6_passes_122 ?_
    refine x_sipushv (v := 10000) dX6_passes_123 (by decide) ?_
    refine x_irem (by decide) dX6_passes_126 ?_
    refine y_iastn (j := 8) dX6_passes_127 (by decide) rfl (by decide) (by decide) ?_
    simp only [updM_row, row_at, row_row]
    rw [show upd (qV (M 85) (nT (M 85))) 8 (421 * (qV (M 85) (nT (M 85))) 8 + 1663 - (421 * (qV (M 85) (nT (M 85))) 8 + 1663) / 10000 * 10000) = pd3 (qV (M 85) (nT (M 85))) from rfl]
    refine x_aload_n dX6_passes_128 rfl ?_
    refine y_getR fkX6_7 dX6_passes_129 (by decide) rfl rfl ?_
    refine x_bipushv (v := 8) dX6_passes_132 (by decide) ?_
    refine y_ialdn (j := 8) dX6_passes_134 (by decide) rfl (by decide) (by decide) ?_
    rw [row_at]
    refine x_aload_n dX6_passes_135 rfl ?_
    refine y_getR fkX6_7 dX6_passes_136 (by decide) rfl rfl ?_
    refine x_iconstv (v := 1) dX6_passes_139 (by decide) ?_
    refine y_ialdn (j := 1) dX6_passes_140 (by decide) rfl (by decide) (by decide) ?_
    rw [row_at]
    refine x_iconstv (v := 1) dX6_passes_141 (by decide) ?_
    refine x_iadd dX6_passes_142 ?_
    refine x_irem hd0 dX6_passes_143 ?_
    rw [show pd3 (qV (M 85) (nT (M 85))) 8 - pd3 (qV (M 85) (nT (M 85))) 8 / (pd3 (qV (M 85) (nT (M 85))) 1 + 1) * (pd3 (qV (M 85) (nT (M 85))) 1 + 1) = shx (pd3 (qV (M 85) (nT (M 85)))) from rfl]
    refine x_istore_n dX6_passes_144 (by decide) rfl ?_
    refine x_aload_n dX6_passes_145 rfl ?_
    refine y_getR fkX6_7 dX6_passes_146 (by decide) rfl rfl ?_
    refine x_bipushv (v := 9) dX6_passes_149 (by decide) ?_
    refine x_iload_n dX6_passes_151 rfl ?_
    refine x_aload_n dX6_passes_152 rfl ?_
    refine y_getR fkX6_7 dX6_passes_153 (by decide) rfl rfl ?_
    refine x_iconstv (v := 1) dX6_passes_156 (by decide) ?_
    refine y_ialdn (j := 1) dX6_passes_157 (by decide) rfl (by decide) (by decide) ?_
    rw [row_at]
    refine x_icmp_ge 165 dX6_passes_158 (by decide) (fun c_158 => ?_) (fun c_158 => ?_)
    · refine x_bipushv (v := -4) dX6_passes_165 (by decide) ?_
      refine y_iastn (j := 9) dX6_passes_167 (by decide) rfl (by decide) (by decide) ?_
      refine x_iload_n dX6_passes_168 rfl ?_
      exact y_ret dX6_passes_169 rfl (rfl) (rfl) (by rw [updM_row, row_at, row_row, hpass]; first | rw [if_pos (Int32.not_le.mp c_158)] | rw [if_neg (Int32.not_lt.mpr c_158)])
    · refine x_iload_n dX6_passes_161 rfl ?_
      refine x_goto 167 dX6_passes_162 (by decide) ?_
      refine y_iastn (j := 9) dX6_passes_167 (by decide) rfl (by decide) (by decide) ?_
      refine x_iload_n dX6_passes_168 rfl ?_
      exact y_ret dX6_passes_169 rfl (rfl) (rfl) (by rw [updM_row, row_at, row_row, hpass]; first | rw [if_pos (Int32.not_le.mp c_158)] | rw [if_neg (Int32.not_lt.mpr c_158)])
  have h := r_passes_loop hV hx (nT (M 85) + 1) 0 (by omega) (by omega)
  have e0 : (pl (M 85) 0) = (upd (M 85) 0 (M 85 0 + 1), 0) := rfl
  rw [e0] at h
  skip
  refine x_iconstv (v := 0) dX6_passes_0 (by decide) ?_
  refine x_istore_n dX6_passes_1 (by decide) rfl ?_
  refine x_aload_n dX6_passes_2 rfl ?_
  refine y_getR fkX6_7 dX6_passes_3 (by decide) rfl rfl ?_
  refine x_iconstv (v := 0) dX6_passes_6 (by decide) ?_
  refine x_dup2_ir dX6_passes_7 ?_
  refine y_ialdn (j := 0) dX6_passes_8 (by decide) rfl (by decide) (by decide) ?_
  refine x_iconstv (v := 1) dX6_passes_9 (by decide) ?_
  refine x_iadd dX6_passes_10 ?_
  refine y_iastn (j := 0) dX6_passes_11 (by decide) rfl (by decide) (by decide) ?_
  rw [updM_row]
  refine x_iconstv (v := 0) dX6_passes_12 (by decide) ?_
  refine x_istore_n dX6_passes_13 (by decide) rfl ?_
  exact h
end
