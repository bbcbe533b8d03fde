-- ===== PART A: goes FIRST, ahead of the names: the tables' words, and 'selects' of the private methods out of them =====
/-- a private method of a class that the tables say can be made, by its rows of tables_1 -/
def lw_okq (q : MethodName × Nat) : Prop := (q.1.cls ≠ "java/lang/invoke/MethodHandle" ∧ q.1.cls ≠ "java/lang/invoke/VarHandle") ∧ Cond.instantiable q.1.cls q.2 ∈ tables_1 ∧ Cond.privateMethod q.1 ∈ tables_1 ∧ Cond.instanceMethod q.1 ∈ tables_1
theorem lw_p0 : lw_okq (⟨"BarterRings$History", "rowAt", "(I)LBarterRings$Market;"⟩, 3) := ⟨⟨by decide +kernel, by decide +kernel⟩, List.mem_of_getElem? (i := 105) (by decide +kernel), List.mem_of_getElem? (i := 237) (by decide +kernel), List.mem_of_getElem? (i := 238) (by decide +kernel)⟩
theorem lw_p1 : lw_okq (⟨"BarterRings$Market", "makeWare", "(I)V"⟩, 18) := ⟨⟨by decide +kernel, by decide +kernel⟩, List.mem_of_getElem? (i := 21) (by decide +kernel), List.mem_of_getElem? (i := 255) (by decide +kernel), List.mem_of_getElem? (i := 256) (by decide +kernel)⟩
theorem lw_p2 : lw_okq (⟨"BarterRings$Market", "wantsWareOf", "(II)Z"⟩, 18) := ⟨⟨by decide +kernel, by decide +kernel⟩, List.mem_of_getElem? (i := 21) (by decide +kernel), List.mem_of_getElem? (i := 316) (by decide +kernel), List.mem_of_getElem? (i := 317) (by decide +kernel)⟩
theorem lw_p3 : lw_okq (⟨"BarterRings$Market", "keepWares", "()V"⟩, 18) := ⟨⟨by decide +kernel, by decide +kernel⟩, List.mem_of_getElem? (i := 21) (by decide +kernel), List.mem_of_getElem? (i := 323) (by decide +kernel), List.mem_of_getElem? (i := 324) (by decide +kernel)⟩
theorem lw_p4 : lw_okq (⟨"BarterRings$Market", "takeWare", "(II)V"⟩, 18) := ⟨⟨by decide +kernel, by decide +kernel⟩, List.mem_of_getElem? (i := 21) (by decide +kernel), List.mem_of_getElem? (i := 327) (by decide +kernel), List.mem_of_getElem? (i := 328) (by decide +kernel)⟩
theorem lw_p5 : lw_okq (⟨"BarterRings", "callMarket", "(LBarterRings$Market;)I"⟩, 10) := ⟨⟨by decide +kernel, by decide +kernel⟩, List.mem_of_getElem? (i := 13) (by decide +kernel), List.mem_of_getElem? (i := 335) (by decide +kernel), List.mem_of_getElem? (i := 336) (by decide +kernel)⟩
theorem lw_p6 : lw_okq (⟨"BarterRings$TakerSearch", "chooseGiver", "(III)V"⟩, 6) := ⟨⟨by decide +kernel, by decide +kernel⟩, List.mem_of_getElem? (i := 166) (by decide +kernel), List.mem_of_getElem? (i := 358) (by decide +kernel), List.mem_of_getElem? (i := 359) (by decide +kernel)⟩
theorem lw_p7 : lw_okq (⟨"BarterRings$TakerSearch", "fitsInCircle", "(II)Z"⟩, 6) := ⟨⟨by decide +kernel, by decide +kernel⟩, List.mem_of_getElem? (i := 166) (by decide +kernel), List.mem_of_getElem? (i := 364) (by decide +kernel), List.mem_of_getElem? (i := 365) (by decide +kernel)⟩
theorem lw_p8 : lw_okq (⟨"BarterRings$TakerSearch", "goOn", "(IIII)V"⟩, 6) := ⟨⟨by decide +kernel, by decide +kernel⟩, List.mem_of_getElem? (i := 166) (by decide +kernel), List.mem_of_getElem? (i := 369) (by decide +kernel), List.mem_of_getElem? (i := 370) (by decide +kernel)⟩
theorem lw_p9 : lw_okq (⟨"BarterRings$Market", "renewWare", "(I)V"⟩, 18) := ⟨⟨by decide +kernel, by decide +kernel⟩, List.mem_of_getElem? (i := 21) (by decide +kernel), List.mem_of_getElem? (i := 385) (by decide +kernel), List.mem_of_getElem? (i := 386) (by decide +kernel)⟩
theorem lw_p10 : lw_okq (⟨"BarterRings$Market", "drawLot", "()V"⟩, 18) := ⟨⟨by decide +kernel, by decide +kernel⟩, List.mem_of_getElem? (i := 21) (by decide +kernel), List.mem_of_getElem? (i := 389) (by decide +kernel), List.mem_of_getElem? (i := 390) (by decide +kernel)⟩
theorem lw_p11 : lw_okq (⟨"BarterRings", "doBarterOfPad", "(I)V"⟩, 10) := ⟨⟨by decide +kernel, by decide +kernel⟩, List.mem_of_getElem? (i := 13) (by decide +kernel), List.mem_of_getElem? (i := 448) (by decide +kernel), List.mem_of_getElem? (i := 449) (by decide +kernel)⟩
theorem lw_p12 : lw_okq (⟨"BarterRings", "bestGiver", "(I)I"⟩, 10) := ⟨⟨by decide +kernel, by decide +kernel⟩, List.mem_of_getElem? (i := 13) (by decide +kernel), List.mem_of_getElem? (i := 476) (by decide +kernel), List.mem_of_getElem? (i := 477) (by decide +kernel)⟩
theorem lw_p13 : lw_okq (⟨"BarterRings$CircleSets", "readTakers", "(LBarterRings$Market;)V"⟩, 6) := ⟨⟨by decide +kernel, by decide +kernel⟩, List.mem_of_getElem? (i := 140) (by decide +kernel), List.mem_of_getElem? (i := 498) (by decide +kernel), List.mem_of_getElem? (i := 499) (by decide +kernel)⟩
theorem lw_p14 : lw_okq (⟨"BarterRings$CircleSets", "findChains", "()V"⟩, 6) := ⟨⟨by decide +kernel, by decide +kernel⟩, List.mem_of_getElem? (i := 140) (by decide +kernel), List.mem_of_getElem? (i := 508) (by decide +kernel), List.mem_of_getElem? (i := 509) (by decide +kernel)⟩
theorem lw_p15 : lw_okq (⟨"BarterRings$CircleSets", "findCircles", "(I)V"⟩, 6) := ⟨⟨by decide +kernel, by decide +kernel⟩, List.mem_of_getElem? (i := 140) (by decide +kernel), List.mem_of_getElem? (i := 515) (by decide +kernel), List.mem_of_getElem? (i := 516) (by decide +kernel)⟩
def lw_privs_1 : List (MethodName × Nat) := [(⟨"BarterRings$History", "rowAt", "(I)LBarterRings$Market;"⟩, 3), (⟨"BarterRings$Market", "makeWare", "(I)V"⟩, 18), (⟨"BarterRings$Market", "wantsWareOf", "(II)Z"⟩, 18), (⟨"BarterRings$Market", "keepWares", "()V"⟩, 18), (⟨"BarterRings$Market", "takeWare", "(II)V"⟩, 18), (⟨"BarterRings", "callMarket", "(LBarterRings$Market;)I"⟩, 10), (⟨"BarterRings$TakerSearch", "chooseGiver", "(III)V"⟩, 6), (⟨"BarterRings$TakerSearch", "fitsInCircle", "(II)Z"⟩, 6), (⟨"BarterRings$TakerSearch", "goOn", "(IIII)V"⟩, 6), (⟨"BarterRings$Market", "renewWare", "(I)V"⟩, 18), (⟨"BarterRings$Market", "drawLot", "()V"⟩, 18), (⟨"BarterRings", "doBarterOfPad", "(I)V"⟩, 10), (⟨"BarterRings", "bestGiver", "(I)I"⟩, 10), (⟨"BarterRings$CircleSets", "readTakers", "(LBarterRings$Market;)V"⟩, 6), (⟨"BarterRings$CircleSets", "findChains", "()V"⟩, 6), (⟨"BarterRings$CircleSets", "findCircles", "(I)V"⟩, 6)]
theorem lw_r1 : ∀ q ∈ lw_privs_1, lw_okq q := List.forall_mem_cons.mpr ⟨lw_p0, List.forall_mem_cons.mpr ⟨lw_p1, List.forall_mem_cons.mpr ⟨lw_p2, List.forall_mem_cons.mpr ⟨lw_p3, List.forall_mem_cons.mpr ⟨lw_p4, List.forall_mem_cons.mpr ⟨lw_p5, List.forall_mem_cons.mpr ⟨lw_p6, List.forall_mem_cons.mpr ⟨lw_p7, List.forall_mem_cons.mpr ⟨lw_p8, List.forall_mem_cons.mpr ⟨lw_p9, List.forall_mem_cons.mpr ⟨lw_p10, List.forall_mem_cons.mpr ⟨lw_p11, List.forall_mem_cons.mpr ⟨lw_p12, List.forall_mem_cons.mpr ⟨lw_p13, List.forall_mem_cons.mpr ⟨lw_p14, List.forall_mem_cons.mpr ⟨lw_p15, fun _ h => absurd h List.not_mem_nil⟩⟩⟩⟩⟩⟩⟩⟩⟩⟩⟩⟩⟩⟩⟩⟩
theorem lw_p16 : lw_okq (⟨"BarterRings$CircleSets", "findBarters", "()I"⟩, 6) := ⟨⟨by decide +kernel, by decide +kernel⟩, List.mem_of_getElem? (i := 140) (by decide +kernel), List.mem_of_getElem? (i := 520) (by decide +kernel), List.mem_of_getElem? (i := 521) (by decide +kernel)⟩
theorem lw_p17 : lw_okq (⟨"BarterRings$CircleSets", "isMadeOfCircles", "(I)Z"⟩, 6) := ⟨⟨by decide +kernel, by decide +kernel⟩, List.mem_of_getElem? (i := 140) (by decide +kernel), List.mem_of_getElem? (i := 524) (by decide +kernel), List.mem_of_getElem? (i := 525) (by decide +kernel)⟩
theorem lw_p18 : lw_okq (⟨"BarterRingsModel", "record", "()V"⟩, 17) := ⟨⟨by decide +kernel, by decide +kernel⟩, List.mem_of_getElem? (i := 610) (by decide +kernel), List.mem_of_getElem? (i := 681) (by decide +kernel), List.mem_of_getElem? (i := 682) (by decide +kernel)⟩
theorem lw_p19 : lw_okq (⟨"BarterRingsModel", "comes", "(II)I"⟩, 17) := ⟨⟨by decide +kernel, by decide +kernel⟩, List.mem_of_getElem? (i := 610) (by decide +kernel), List.mem_of_getElem? (i := 685) (by decide +kernel), List.mem_of_getElem? (i := 686) (by decide +kernel)⟩
theorem lw_p20 : lw_okq (⟨"BarterRingsModel", "isTrader", "(I)Z"⟩, 17) := ⟨⟨by decide +kernel, by decide +kernel⟩, List.mem_of_getElem? (i := 610) (by decide +kernel), List.mem_of_getElem? (i := 696) (by decide +kernel), List.mem_of_getElem? (i := 697) (by decide +kernel)⟩
theorem lw_p21 : lw_okq (⟨"BarterRingsModel", "of", "(II)I"⟩, 17) := ⟨⟨by decide +kernel, by decide +kernel⟩, List.mem_of_getElem? (i := 610) (by decide +kernel), List.mem_of_getElem? (i := 700) (by decide +kernel), List.mem_of_getElem? (i := 701) (by decide +kernel)⟩
theorem lw_p22 : lw_okq (⟨"BarterRingsModel", "lays", "(II)I"⟩, 17) := ⟨⟨by decide +kernel, by decide +kernel⟩, List.mem_of_getElem? (i := 610) (by decide +kernel), List.mem_of_getElem? (i := 708) (by decide +kernel), List.mem_of_getElem? (i := 709) (by decide +kernel)⟩
theorem lw_p23 : lw_okq (⟨"BarterRingsModel", "arePair", "(II)Z"⟩, 17) := ⟨⟨by decide +kernel, by decide +kernel⟩, List.mem_of_getElem? (i := 610) (by decide +kernel), List.mem_of_getElem? (i := 728) (by decide +kernel), List.mem_of_getElem? (i := 729) (by decide +kernel)⟩
theorem lw_p24 : lw_okq (⟨"BarterRingsModel", "barters", "(II)I"⟩, 17) := ⟨⟨by decide +kernel, by decide +kernel⟩, List.mem_of_getElem? (i := 610) (by decide +kernel), List.mem_of_getElem? (i := 732) (by decide +kernel), List.mem_of_getElem? (i := 733) (by decide +kernel)⟩
theorem lw_p25 : lw_okq (⟨"BarterRingsModel", "reason", "(II)I"⟩, 17) := ⟨⟨by decide +kernel, by decide +kernel⟩, List.mem_of_getElem? (i := 610) (by decide +kernel), List.mem_of_getElem? (i := 736) (by decide +kernel), List.mem_of_getElem? (i := 737) (by decide +kernel)⟩
theorem lw_p26 : lw_okq (⟨"BarterRingsModel", "daysLeft", "(I)I"⟩, 17) := ⟨⟨by decide +kernel, by decide +kernel⟩, List.mem_of_getElem? (i := 610) (by decide +kernel), List.mem_of_getElem? (i := 740) (by decide +kernel), List.mem_of_getElem? (i := 741) (by decide +kernel)⟩
theorem lw_p27 : lw_okq (⟨"BarterRingsModel", "wants", "(II)Z"⟩, 17) := ⟨⟨by decide +kernel, by decide +kernel⟩, List.mem_of_getElem? (i := 610) (by decide +kernel), List.mem_of_getElem? (i := 744) (by decide +kernel), List.mem_of_getElem? (i := 745) (by decide +kernel)⟩
theorem lw_p28 : lw_okq (⟨"BarterRingsModel", "looksAtWares", "()V"⟩, 17) := ⟨⟨by decide +kernel, by decide +kernel⟩, List.mem_of_getElem? (i := 610) (by decide +kernel), List.mem_of_getElem? (i := 748) (by decide +kernel), List.mem_of_getElem? (i := 749) (by decide +kernel)⟩
theorem lw_p29 : lw_okq (⟨"BarterRingsModel", "gets", "(III)V"⟩, 17) := ⟨⟨by decide +kernel, by decide +kernel⟩, List.mem_of_getElem? (i := 610) (by decide +kernel), List.mem_of_getElem? (i := 752) (by decide +kernel), List.mem_of_getElem? (i := 753) (by decide +kernel)⟩
theorem lw_p30 : lw_okq (⟨"BarterRingsModel", "calls", "()I"⟩, 17) := ⟨⟨by decide +kernel, by decide +kernel⟩, List.mem_of_getElem? (i := 610) (by decide +kernel), List.mem_of_getElem? (i := 760) (by decide +kernel), List.mem_of_getElem? (i := 761) (by decide +kernel)⟩
theorem lw_p31 : lw_okq (⟨"BarterRingsModel", "layBest", "(I)V"⟩, 17) := ⟨⟨by decide +kernel, by decide +kernel⟩, List.mem_of_getElem? (i := 610) (by decide +kernel), List.mem_of_getElem? (i := 764) (by decide +kernel), List.mem_of_getElem? (i := 765) (by decide +kernel)⟩
def lw_privs_2 : List (MethodName × Nat) := [(⟨"BarterRings$CircleSets", "findBarters", "()I"⟩, 6), (⟨"BarterRings$CircleSets", "isMadeOfCircles", "(I)Z"⟩, 6), (⟨"BarterRingsModel", "record", "()V"⟩, 17), (⟨"BarterRingsModel", "comes", "(II)I"⟩, 17), (⟨"BarterRingsModel", "isTrader", "(I)Z"⟩, 17), (⟨"BarterRingsModel", "of", "(II)I"⟩, 17), (⟨"BarterRingsModel", "lays", "(II)I"⟩, 17), (⟨"BarterRingsModel", "arePair", "(II)Z"⟩, 17), (⟨"BarterRingsModel", "barters", "(II)I"⟩, 17), (⟨"BarterRingsModel", "reason", "(II)I"⟩, 17), (⟨"BarterRingsModel", "daysLeft", "(I)I"⟩, 17), (⟨"BarterRingsModel", "wants", "(II)Z"⟩, 17), (⟨"BarterRingsModel", "looksAtWares", "()V"⟩, 17), (⟨"BarterRingsModel", "gets", "(III)V"⟩, 17), (⟨"BarterRingsModel", "calls", "()I"⟩, 17), (⟨"BarterRingsModel", "layBest", "(I)V"⟩, 17)]
theorem lw_r2 : ∀ q ∈ lw_privs_2, lw_okq q := List.forall_mem_cons.mpr ⟨lw_p16, List.forall_mem_cons.mpr ⟨lw_p17, List.forall_mem_cons.mpr ⟨lw_p18, List.forall_mem_cons.mpr ⟨lw_p19, List.forall_mem_cons.mpr ⟨lw_p20, List.forall_mem_cons.mpr ⟨lw_p21, List.forall_mem_cons.mpr ⟨lw_p22, List.forall_mem_cons.mpr ⟨lw_p23, List.forall_mem_cons.mpr ⟨lw_p24, List.forall_mem_cons.mpr ⟨lw_p25, List.forall_mem_cons.mpr ⟨lw_p26, List.forall_mem_cons.mpr ⟨lw_p27, List.forall_mem_cons.mpr ⟨lw_p28, List.forall_mem_cons.mpr ⟨lw_p29, List.forall_mem_cons.mpr ⟨lw_p30, List.forall_mem_cons.mpr ⟨lw_p31, fun _ h => absurd h List.not_mem_nil⟩⟩⟩⟩⟩⟩⟩⟩⟩⟩⟩⟩⟩⟩⟩⟩
theorem lw_p32 : lw_okq (⟨"BarterRingsModel", "keepsBest", "(I)V"⟩, 17) := ⟨⟨by decide +kernel, by decide +kernel⟩, List.mem_of_getElem? (i := 610) (by decide +kernel), List.mem_of_getElem? (i := 768) (by decide +kernel), List.mem_of_getElem? (i := 769) (by decide +kernel)⟩
theorem lw_p33 : lw_okq (⟨"BarterRingsModel", "areCircles", "(I)Z"⟩, 17) := ⟨⟨by decide +kernel, by decide +kernel⟩, List.mem_of_getElem? (i := 610) (by decide +kernel), List.mem_of_getElem? (i := 772) (by decide +kernel), List.mem_of_getElem? (i := 773) (by decide +kernel)⟩
theorem lw_p34 : lw_okq (⟨"BarterRingsModel", "may", "(III)Z"⟩, 17) := ⟨⟨by decide +kernel, by decide +kernel⟩, List.mem_of_getElem? (i := 610) (by decide +kernel), List.mem_of_getElem? (i := 776) (by decide +kernel), List.mem_of_getElem? (i := 777) (by decide +kernel)⟩
theorem lw_p35 : lw_okq (⟨"BarterRingsModel", "takes", "(II)Z"⟩, 17) := ⟨⟨by decide +kernel, by decide +kernel⟩, List.mem_of_getElem? (i := 610) (by decide +kernel), List.mem_of_getElem? (i := 780) (by decide +kernel), List.mem_of_getElem? (i := 781) (by decide +kernel)⟩
theorem lw_p36 : lw_okq (⟨"BarterRingsModel", "passes", "()I"⟩, 17) := ⟨⟨by decide +kernel, by decide +kernel⟩, List.mem_of_getElem? (i := 610) (by decide +kernel), List.mem_of_getElem? (i := 788) (by decide +kernel), List.mem_of_getElem? (i := 789) (by decide +kernel)⟩
theorem lw_p37 : lw_okq (⟨"BarterRingsModel", "faultOfTraders", "()I"⟩, 17) := ⟨⟨by decide +kernel, by decide +kernel⟩, List.mem_of_getElem? (i := 610) (by decide +kernel), List.mem_of_getElem? (i := 804) (by decide +kernel), List.mem_of_getElem? (i := 805) (by decide +kernel)⟩
theorem lw_p38 : lw_okq (⟨"BarterRingsModel", "behindTrader", "(I)I"⟩, 17) := ⟨⟨by decide +kernel, by decide +kernel⟩, List.mem_of_getElem? (i := 610) (by decide +kernel), List.mem_of_getElem? (i := 808) (by decide +kernel), List.mem_of_getElem? (i := 809) (by decide +kernel)⟩
theorem lw_p39 : lw_okq (⟨"BarterRingsModel", "next", "(I)I"⟩, 17) := ⟨⟨by decide +kernel, by decide +kernel⟩, List.mem_of_getElem? (i := 610) (by decide +kernel), List.mem_of_getElem? (i := 812) (by decide +kernel), List.mem_of_getElem? (i := 813) (by decide +kernel)⟩
theorem lw_p40 : lw_okq (⟨"BarterRingsModel", "faultOfDays", "()I"⟩, 17) := ⟨⟨by decide +kernel, by decide +kernel⟩, List.mem_of_getElem? (i := 610) (by decide +kernel), List.mem_of_getElem? (i := 816) (by decide +kernel), List.mem_of_getElem? (i := 817) (by decide +kernel)⟩
theorem lw_p41 : lw_okq (⟨"BarterRingsModel", "isDone", "(I)Z"⟩, 17) := ⟨⟨by decide +kernel, by decide +kernel⟩, List.mem_of_getElem? (i := 610) (by decide +kernel), List.mem_of_getElem? (i := 828) (by decide +kernel), List.mem_of_getElem? (i := 829) (by decide +kernel)⟩
theorem lw_p42 : lw_okq (⟨"BarterRingsModel", "takesFrom", "(I)I"⟩, 17) := ⟨⟨by decide +kernel, by decide +kernel⟩, List.mem_of_getElem? (i := 610) (by decide +kernel), List.mem_of_getElem? (i := 840) (by decide +kernel), List.mem_of_getElem? (i := 841) (by decide +kernel)⟩
theorem lw_p43 : lw_okq (⟨"BarterRingsModel", "givesTo", "(I)I"⟩, 17) := ⟨⟨by decide +kernel, by decide +kernel⟩, List.mem_of_getElem? (i := 610) (by decide +kernel), List.mem_of_getElem? (i := 844) (by decide +kernel), List.mem_of_getElem? (i := 845) (by decide +kernel)⟩
theorem lw_p44 : lw_okq (⟨"BarterRingsModel", "bestFor", "(I)I"⟩, 17) := ⟨⟨by decide +kernel, by decide +kernel⟩, List.mem_of_getElem? (i := 610) (by decide +kernel), List.mem_of_getElem? (i := 848) (by decide +kernel), List.mem_of_getElem? (i := 849) (by decide +kernel)⟩
theorem lw_p45 : lw_okq (⟨"BarterRingsModel", "mostWith", "(I)I"⟩, 17) := ⟨⟨by decide +kernel, by decide +kernel⟩, List.mem_of_getElem? (i := 610) (by decide +kernel), List.mem_of_getElem? (i := 864) (by decide +kernel), List.mem_of_getElem? (i := 865) (by decide +kernel)⟩
theorem lw_p46 : lw_okq (⟨"BarterRingsModel", "sumOf", "(II)I"⟩, 17) := ⟨⟨by decide +kernel, by decide +kernel⟩, List.mem_of_getElem? (i := 610) (by decide +kernel), List.mem_of_getElem? (i := 872) (by decide +kernel), List.mem_of_getElem? (i := 873) (by decide +kernel)⟩
theorem lw_p47 : lw_okq (⟨"BarterRingsModel", "needs", "()I"⟩, 17) := ⟨⟨by decide +kernel, by decide +kernel⟩, List.mem_of_getElem? (i := 610) (by decide +kernel), List.mem_of_getElem? (i := 880) (by decide +kernel), List.mem_of_getElem? (i := 881) (by decide +kernel)⟩
def lw_privs_3 : List (MethodName × Nat) := [(⟨"BarterRingsModel", "keepsBest", "(I)V"⟩, 17), (⟨"BarterRingsModel", "areCircles", "(I)Z"⟩, 17), (⟨"BarterRingsModel", "may", "(III)Z"⟩, 17), (⟨"BarterRingsModel", "takes", "(II)Z"⟩, 17), (⟨"BarterRingsModel", "passes", "()I"⟩, 17), (⟨"BarterRingsModel", "faultOfTraders", "()I"⟩, 17), (⟨"BarterRingsModel", "behindTrader", "(I)I"⟩, 17), (⟨"BarterRingsModel", "next", "(I)I"⟩, 17), (⟨"BarterRingsModel", "faultOfDays", "()I"⟩, 17), (⟨"BarterRingsModel", "isDone", "(I)Z"⟩, 17), (⟨"BarterRingsModel", "takesFrom", "(I)I"⟩, 17), (⟨"BarterRingsModel", "givesTo", "(I)I"⟩, 17), (⟨"BarterRingsModel", "bestFor", "(I)I"⟩, 17), (⟨"BarterRingsModel", "mostWith", "(I)I"⟩, 17), (⟨"BarterRingsModel", "sumOf", "(II)I"⟩, 17), (⟨"BarterRingsModel", "needs", "()I"⟩, 17)]
theorem lw_r3 : ∀ q ∈ lw_privs_3, lw_okq q := List.forall_mem_cons.mpr ⟨lw_p32, List.forall_mem_cons.mpr ⟨lw_p33, List.forall_mem_cons.mpr ⟨lw_p34, List.forall_mem_cons.mpr ⟨lw_p35, List.forall_mem_cons.mpr ⟨lw_p36, List.forall_mem_cons.mpr ⟨lw_p37, List.forall_mem_cons.mpr ⟨lw_p38, List.forall_mem_cons.mpr ⟨lw_p39, List.forall_mem_cons.mpr ⟨lw_p40, List.forall_mem_cons.mpr ⟨lw_p41, List.forall_mem_cons.mpr ⟨lw_p42, List.forall_mem_cons.mpr ⟨lw_p43, List.forall_mem_cons.mpr ⟨lw_p44, List.forall_mem_cons.mpr ⟨lw_p45, List.forall_mem_cons.mpr ⟨lw_p46, List.forall_mem_cons.mpr ⟨lw_p47, fun _ h => absurd h List.not_mem_nil⟩⟩⟩⟩⟩⟩⟩⟩⟩⟩⟩⟩⟩⟩⟩⟩
theorem lw_p48 : lw_okq (⟨"BarterRingsModel", "spoilt", "()I"⟩, 17) := ⟨⟨by decide +kernel, by decide +kernel⟩, List.mem_of_getElem? (i := 610) (by decide +kernel), List.mem_of_getElem? (i := 887) (by decide +kernel), List.mem_of_getElem? (i := 888) (by decide +kernel)⟩
theorem lw_p49 : lw_okq (⟨"BarterRingsModel", "stuck", "()I"⟩, 17) := ⟨⟨by decide +kernel, by decide +kernel⟩, List.mem_of_getElem? (i := 610) (by decide +kernel), List.mem_of_getElem? (i := 891) (by decide +kernel), List.mem_of_getElem? (i := 892) (by decide +kernel)⟩
theorem lw_p50 : lw_okq (⟨"BarterRingsModel", "putAside", "()V"⟩, 17) := ⟨⟨by decide +kernel, by decide +kernel⟩, List.mem_of_getElem? (i := 610) (by decide +kernel), List.mem_of_getElem? (i := 907) (by decide +kernel), List.mem_of_getElem? (i := 908) (by decide +kernel)⟩
theorem lw_p51 : lw_okq (⟨"BarterRingsModel", "putBack", "()V"⟩, 17) := ⟨⟨by decide +kernel, by decide +kernel⟩, List.mem_of_getElem? (i := 610) (by decide +kernel), List.mem_of_getElem? (i := 911) (by decide +kernel), List.mem_of_getElem? (i := 912) (by decide +kernel)⟩
def lw_privs_4 : List (MethodName × Nat) := [(⟨"BarterRingsModel", "spoilt", "()I"⟩, 17), (⟨"BarterRingsModel", "stuck", "()I"⟩, 17), (⟨"BarterRingsModel", "putAside", "()V"⟩, 17), (⟨"BarterRingsModel", "putBack", "()V"⟩, 17)]
theorem lw_r4 : ∀ q ∈ lw_privs_4, lw_okq q := List.forall_mem_cons.mpr ⟨lw_p48, List.forall_mem_cons.mpr ⟨lw_p49, List.forall_mem_cons.mpr ⟨lw_p50, List.forall_mem_cons.mpr ⟨lw_p51, fun _ h => absurd h List.not_mem_nil⟩⟩⟩⟩
def lw_privs : List (MethodName × Nat) := lw_privs_1 ++ (lw_privs_2 ++ (lw_privs_3 ++ (lw_privs_4)))
def lw_tbl : List Cond := k2_sels lw_privs ++ tables_1
theorem lw_privs_ok : ∀ q ∈ lw_privs, lw_okq q := by
  show ∀ q ∈ lw_privs_1 ++ (lw_privs_2 ++ (lw_privs_3 ++ (lw_privs_4))), lw_okq q
  exact List.forall_mem_append.mpr ⟨lw_r1, List.forall_mem_append.mpr ⟨lw_r2, List.forall_mem_append.mpr ⟨lw_r3, lw_r4⟩⟩⟩
-- ===== end of PART A =====
def RX0 : String := "BarterRings$CircleSets"
def TX0 : u_T := fun k => match k with
  | 0 => ("BarterRings$CircleSets", "takersOf", "[I", true)
  | 1 => ("BarterRings$CircleSets", "lastOnes", "[I", true)
  | 2 => ("BarterRings$CircleSets", "isCircle", "[Z", true)
  | 3 => ("BarterRings$CircleSets", "isBarter", "[Z", true)
  | 4 => ("BarterRings$CircleSets", "size", "I", false)
  | _ => ("BarterRings$CircleSets", "sets", "I", false)
def tyX0 : Nat → FieldType := fun k => match k with
  | 0 => .array .int
  | 1 => .array .int
  | 2 => .array .boolean
  | 3 => .array .boolean
  | 4 => .int
  | _ => .int
theorem nmX0 : ∀ a, a < 6 → ∀ b, b < 6 → a ≠ b → (TX0 a).2.1 ≠ (TX0 b).2.1 := by decide +kernel
theorem tyX0_ok : ∀ k, k < 6 → parseFieldDescriptor (TX0 k).2.2.1 = some (tyX0 k) := by decide +kernel
abbrev cX0_init : ByteArray := prog_2_method_1_code
def yX0_init : MethodName := ⟨RX0, "<init>", "()V"⟩
abbrev cX0_mostTraders : ByteArray := prog_2_method_2_code
def yX0_mostTraders : MethodName := ⟨RX0, "mostTraders", "(LBarterRings$Market;I)I"⟩
abbrev cX0_readTakers : ByteArray := prog_2_method_3_code
def yX0_readTakers : MethodName := ⟨RX0, "readTakers", "(LBarterRings$Market;)V"⟩
abbrev cX0_findChains : ByteArray := prog_2_method_4_code
def yX0_findChains : MethodName := ⟨RX0, "findChains", "()V"⟩
abbrev cX0_findCircles : ByteArray := prog_2_method_5_code
def yX0_findCircles : MethodName := ⟨RX0, "findCircles", "(I)V"⟩
abbrev cX0_findBarters : ByteArray := prog_2_method_6_code
def yX0_findBarters : MethodName := ⟨RX0, "findBarters", "()I"⟩
abbrev cX0_isMadeOfCircles : ByteArray := prog_2_method_7_code
def yX0_isMadeOfCircles : MethodName := ⟨RX0, "isMadeOfCircles", "(I)Z"⟩
abbrev cX0_leastOf : ByteArray := prog_2_method_8_code
def yX0_leastOf : MethodName := ⟨RX0, "leastOf", "(I)I"⟩
def RX1 : String := "BarterRings$History"
def TX1 : u_T := fun k => match k with
  | 0 => ("BarterRings$History", "held", "I", false)
  | 1 => ("BarterRings$History", "rows", "[LBarterRings$Market;", true)
  | _ => ("BarterRings$History", "newest", "I", false)
def tyX1 : Nat → FieldType := fun k => match k with
  | 0 => .int
  | 1 => .array (.object "BarterRings$Market")
  | _ => .int
theorem nmX1 : ∀ a, a < 3 → ∀ b, b < 3 → a ≠ b → (TX1 a).2.1 ≠ (TX1 b).2.1 := by decide +kernel
theorem tyX1_ok : ∀ k, k < 3 → parseFieldDescriptor (TX1 k).2.2.1 = some (tyX1 k) := by decide +kernel
abbrev cX1_init : ByteArray := prog_3_method_1_code
def yX1_init : MethodName := ⟨RX1, "<init>", "()V"⟩
abbrev cX1_record : ByteArray := prog_3_method_2_code
def yX1_record : MethodName := ⟨RX1, "record", "(LBarterRings$Market;)V"⟩
abbrev cX1_takeBack : ByteArray := prog_3_method_3_code
def yX1_takeBack : MethodName := ⟨RX1, "takeBack", "(LBarterRings$Market;)V"⟩
abbrev cX1_rowAt : ByteArray := prog_3_method_4_code
def yX1_rowAt : MethodName := ⟨RX1, "rowAt", "(I)LBarterRings$Market;"⟩
def RX2 : String := "BarterRings$Market"
def TX2 : u_T := fun k => match k with
  | 0 => ("BarterRings$Market", "makes", "[I", true)
  | 1 => ("BarterRings$Market", "wants", "[I", true)
  | 2 => ("BarterRings$Market", "ware", "[I", true)
  | 3 => ("BarterRings$Market", "age", "[I", true)
  | 4 => ("BarterRings$Market", "met", "[I", true)
  | 5 => ("BarterRings$Market", "life", "[I", true)
  | 6 => ("BarterRings$Market", "metOfKind", "[I", true)
  | 7 => ("BarterRings$Market", "size", "I", false)
  | 8 => ("BarterRings$Market", "longestCircle", "I", false)
  | 9 => ("BarterRings$Market", "day", "I", false)
  | 10 => ("BarterRings$Market", "lot", "I", false)
  | 11 => ("BarterRings$Market", "shut", "I", false)
  | 12 => ("BarterRings$Market", "thrownAway", "I", false)
  | 13 => ("BarterRings$Market", "made", "I", false)
  | 14 => ("BarterRings$Market", "calls", "I", false)
  | 15 => ("BarterRings$Market", "refused", "I", false)
  | 16 => ("BarterRings$Market", "wareBefore", "[I", true)
  | _ => ("BarterRings$Market", "ageBefore", "[I", true)
def tyX2 : Nat → FieldType := fun k => match k with
  | 0 => .array .int
  | 1 => .array .int
  | 2 => .array .int
  | 3 => .array .int
  | 4 => .array .int
  | 5 => .array .int
  | 6 => .array .int
  | 7 => .int
  | 8 => .int
  | 9 => .int
  | 10 => .int
  | 11 => .int
  | 12 => .int
  | 13 => .int
  | 14 => .int
  | 15 => .int
  | 16 => .array .int
  | _ => .array .int
theorem nmX2 : ∀ a, a < 18 → ∀ b, b < 18 → a ≠ b → (TX2 a).2.1 ≠ (TX2 b).2.1 := by decide +kernel
theorem tyX2_ok : ∀ k, k < 18 → parseFieldDescriptor (TX2 k).2.2.1 = some (tyX2 k) := by decide +kernel
abbrev cX2_init : ByteArray := prog_4_method_1_code
def yX2_init : MethodName := ⟨RX2, "<init>", "()V"⟩
abbrev cX2_copyFrom : ByteArray := prog_4_method_2_code
def yX2_copyFrom : MethodName := ⟨RX2, "copyFrom", "(LBarterRings$Market;)V"⟩
abbrev cX2_has : ByteArray := prog_4_method_3_code
def yX2_has : MethodName := ⟨RX2, "has", "(I)Z"⟩
abbrev cX2_hasBoth : ByteArray := prog_4_method_4_code
def yX2_hasBoth : MethodName := ⟨RX2, "hasBoth", "(II)Z"⟩
abbrev cX2_add : ByteArray := prog_4_method_5_code
def yX2_add : MethodName := ⟨RX2, "add", "(II)V"⟩
abbrev cX2_remove : ByteArray := prog_4_method_6_code
def yX2_remove : MethodName := ⟨RX2, "remove", "(I)V"⟩
abbrev cX2_makeWare : ByteArray := prog_4_method_7_code
def yX2_makeWare : MethodName := ⟨RX2, "makeWare", "(I)V"⟩
abbrev cX2_hasWare : ByteArray := prog_4_method_8_code
def yX2_hasWare : MethodName := ⟨RX2, "hasWare", "(I)Z"⟩
abbrev cX2_hasSoundWare : ByteArray := prog_4_method_9_code
def yX2_hasSoundWare : MethodName := ⟨RX2, "hasSoundWare", "(I)Z"⟩
abbrev cX2_daysLeft : ByteArray := prog_4_method_10_code
def yX2_daysLeft : MethodName := ⟨RX2, "daysLeft", "(I)I"⟩
abbrev cX2_wantsWareOf : ByteArray := prog_4_method_11_code
def yX2_wantsWareOf : MethodName := ⟨RX2, "wantsWareOf", "(II)Z"⟩
abbrev cX2_canTake : ByteArray := prog_4_method_12_code
def yX2_canTake : MethodName := ⟨RX2, "canTake", "(II)Z"⟩
abbrev cX2_giversOf : ByteArray := prog_4_method_13_code
def yX2_giversOf : MethodName := ⟨RX2, "giversOf", "(I)I"⟩
abbrev cX2_numberOfTakers : ByteArray := prog_4_method_14_code
def yX2_numberOfTakers : MethodName := ⟨RX2, "numberOfTakers", "(I)I"⟩
abbrev cX2_refusal : ByteArray := prog_4_method_15_code
def yX2_refusal : MethodName := ⟨RX2, "refusal", "(II)I"⟩
abbrev cX2_barterByHand : ByteArray := prog_4_method_16_code
def yX2_barterByHand : MethodName := ⟨RX2, "barterByHand", "(II)I"⟩
abbrev cX2_doBarter : ByteArray := prog_4_method_17_code
def yX2_doBarter : MethodName := ⟨RX2, "doBarter", "([I)V"⟩
abbrev cX2_keepWares : ByteArray := prog_4_method_18_code
def yX2_keepWares : MethodName := ⟨RX2, "keepWares", "()V"⟩
abbrev cX2_takeWare : ByteArray := prog_4_method_19_code
def yX2_takeWare : MethodName := ⟨RX2, "takeWare", "(II)V"⟩
abbrev cX2_passDay : ByteArray := prog_4_method_20_code
def yX2_passDay : MethodName := ⟨RX2, "passDay", "()I"⟩
abbrev cX2_renewWare : ByteArray := prog_4_method_21_code
def yX2_renewWare : MethodName := ⟨RX2, "renewWare", "(I)V"⟩
abbrev cX2_drawLot : ByteArray := prog_4_method_22_code
def yX2_drawLot : MethodName := ⟨RX2, "drawLot", "()V"⟩
abbrev cX2_needs : ByteArray := prog_4_method_23_code
def yX2_needs : MethodName := ⟨RX2, "needs", "()I"⟩
abbrev cX2_needsMet : ByteArray := prog_4_method_24_code
def yX2_needsMet : MethodName := ⟨RX2, "needsMet", "()I"⟩
abbrev cX2_waresOfKind : ByteArray := prog_4_method_25_code
def yX2_waresOfKind : MethodName := ⟨RX2, "waresOfKind", "(I)I"⟩
abbrev cX2_soundWaresOfKind : ByteArray := prog_4_method_26_code
def yX2_soundWaresOfKind : MethodName := ⟨RX2, "soundWaresOfKind", "(I)I"⟩
abbrev cX2_soundWares : ByteArray := prog_4_method_27_code
def yX2_soundWares : MethodName := ⟨RX2, "soundWares", "()I"⟩
abbrev cX2_spoiltWares : ByteArray := prog_4_method_28_code
def yX2_spoiltWares : MethodName := ⟨RX2, "spoiltWares", "()I"⟩
abbrev cX2_daysLeftOfAll : ByteArray := prog_4_method_29_code
def yX2_daysLeftOfAll : MethodName := ⟨RX2, "daysLeftOfAll", "()I"⟩
abbrev cX2_tradersWhoWant : ByteArray := prog_4_method_30_code
def yX2_tradersWhoWant : MethodName := ⟨RX2, "tradersWhoWant", "(I)I"⟩
abbrev cX2_tradersWhoMake : ByteArray := prog_4_method_31_code
def yX2_tradersWhoMake : MethodName := ⟨RX2, "tradersWhoMake", "(I)I"⟩
abbrev cX2_stuckTraders : ByteArray := prog_4_method_32_code
def yX2_stuckTraders : MethodName := ⟨RX2, "stuckTraders", "()I"⟩
def RX3 : String := "BarterRings$Pad"
def TX3 : u_T := fun k => match k with
  | 0 => ("BarterRings$Pad", "length", "I", false)
  | _ => ("BarterRings$Pad", "signs", "[C", true)
def tyX3 : Nat → FieldType := fun k => match k with
  | 0 => .int
  | _ => .array .char
theorem nmX3 : ∀ a, a < 2 → ∀ b, b < 2 → a ≠ b → (TX3 a).2.1 ≠ (TX3 b).2.1 := by decide +kernel
theorem tyX3_ok : ∀ k, k < 2 → parseFieldDescriptor (TX3 k).2.2.1 = some (tyX3 k) := by decide +kernel
abbrev cX3_init : ByteArray := prog_5_method_1_code
def yX3_init : MethodName := ⟨RX3, "<init>", "()V"⟩
abbrev cX3_put : ByteArray := prog_5_method_2_code
def yX3_put : MethodName := ⟨RX3, "put", "(C)V"⟩
abbrev cX3_signAt : ByteArray := prog_5_method_3_code
def yX3_signAt : MethodName := ⟨RX3, "signAt", "(I)C"⟩
abbrev cX3_digitAt : ByteArray := prog_5_method_4_code
def yX3_digitAt : MethodName := ⟨RX3, "digitAt", "(I)I"⟩
abbrev cX3_faultAsTraders : ByteArray := prog_5_method_5_code
def yX3_faultAsTraders : MethodName := ⟨RX3, "faultAsTraders", "()I"⟩
abbrev cX3_faultAsDays : ByteArray := prog_5_method_6_code
def yX3_faultAsDays : MethodName := ⟨RX3, "faultAsDays", "()I"⟩
abbrev cX3_numberOfTraders : ByteArray := prog_5_method_7_code
def yX3_numberOfTraders : MethodName := ⟨RX3, "numberOfTraders", "()I"⟩
abbrev cX3_wantsBehind : ByteArray := prog_5_method_8_code
def yX3_wantsBehind : MethodName := ⟨RX3, "wantsBehind", "(I)I"⟩
def RX4 : String := "BarterRings$TakerSearch"
def TX4 : u_T := fun k => match k with
  | 0 => ("BarterRings$TakerSearch", "bestGiverOf", "[I", true)
  | 1 => ("BarterRings$TakerSearch", "giversOf", "[I", true)
  | 2 => ("BarterRings$TakerSearch", "giverOf", "[I", true)
  | 3 => ("BarterRings$TakerSearch", "size", "I", false)
  | 4 => ("BarterRings$TakerSearch", "longestCircle", "I", false)
  | _ => ("BarterRings$TakerSearch", "most", "I", false)
def tyX4 : Nat → FieldType := fun k => match k with
  | 0 => .array .int
  | 1 => .array .int
  | 2 => .array .int
  | 3 => .int
  | 4 => .int
  | _ => .int
theorem nmX4 : ∀ a, a < 6 → ∀ b, b < 6 → a ≠ b → (TX4 a).2.1 ≠ (TX4 b).2.1 := by decide +kernel
theorem tyX4_ok : ∀ k, k < 6 → parseFieldDescriptor (TX4 k).2.2.1 = some (tyX4 k) := by decide +kernel
abbrev cX4_init : ByteArray := prog_6_method_1_code
def yX4_init : MethodName := ⟨RX4, "<init>", "()V"⟩
abbrev cX4_findBest : ByteArray := prog_6_method_2_code
def yX4_findBest : MethodName := ⟨RX4, "findBest", "(LBarterRings$Market;)I"⟩
abbrev cX4_chooseGiver : ByteArray := prog_6_method_3_code
def yX4_chooseGiver : MethodName := ⟨RX4, "chooseGiver", "(III)V"⟩
abbrev cX4_goOn : ByteArray := prog_6_method_4_code
def yX4_goOn : MethodName := ⟨RX4, "goOn", "(IIII)V"⟩
abbrev cX4_fitsInCircle : ByteArray := prog_6_method_5_code
def yX4_fitsInCircle : MethodName := ⟨RX4, "fitsInCircle", "(II)Z"⟩
def RX5 : String := "BarterRings"
def TX5 : u_T := fun k => match k with
  | 0 => ("BarterRings", "market", "LBarterRings$Market;", true)
  | 1 => ("BarterRings", "trial", "LBarterRings$Market;", true)
  | 2 => ("BarterRings", "snapshot", "LBarterRings$Market;", true)
  | 3 => ("BarterRings", "history", "LBarterRings$History;", true)
  | 4 => ("BarterRings", "pad", "LBarterRings$Pad;", true)
  | 5 => ("BarterRings", "circleSets", "LBarterRings$CircleSets;", true)
  | 6 => ("BarterRings", "takerSearch", "LBarterRings$TakerSearch;", true)
  | 7 => ("BarterRings", "hasSnapshot", "Z", false)
  | 8 => ("BarterRings", "stopReason", "I", false)
  | _ => ("BarterRings", "stopPlace", "I", false)
def tyX5 : Nat → FieldType := fun k => match k with
  | 0 => .object "BarterRings$Market"
  | 1 => .object "BarterRings$Market"
  | 2 => .object "BarterRings$Market"
  | 3 => .object "BarterRings$History"
  | 4 => .object "BarterRings$Pad"
  | 5 => .object "BarterRings$CircleSets"
  | 6 => .object "BarterRings$TakerSearch"
  | 7 => .boolean
  | 8 => .int
  | _ => .int
theorem nmX5 : ∀ a, a < 10 → ∀ b, b < 10 → a ≠ b → (TX5 a).2.1 ≠ (TX5 b).2.1 := by decide +kernel
theorem tyX5_ok : ∀ k, k < 10 → parseFieldDescriptor (TX5 k).2.2.1 = some (tyX5 k) := by decide +kernel
abbrev cX5_init : ByteArray := prog_1_method_1_code
def yX5_init : MethodName := ⟨RX5, "<init>", "()V"⟩
abbrev cX5_come : ByteArray := prog_1_method_2_code
def yX5_come : MethodName := ⟨RX5, "come", "(II)I"⟩
abbrev cX5_go : ByteArray := prog_1_method_3_code
def yX5_go : MethodName := ⟨RX5, "go", "(I)I"⟩
abbrev cX5_want : ByteArray := prog_1_method_4_code
def yX5_want : MethodName := ⟨RX5, "want", "(II)I"⟩
abbrev cX5_life : ByteArray := prog_1_method_5_code
def yX5_life : MethodName := ⟨RX5, "life", "(II)I"⟩
abbrev cX5_circle : ByteArray := prog_1_method_6_code
def yX5_circle : MethodName := ⟨RX5, "circle", "(I)I"⟩
abbrev cX5_lot : ByteArray := prog_1_method_7_code
def yX5_lot : MethodName := ⟨RX5, "lot", "(I)I"⟩
abbrev cX5_barter : ByteArray := prog_1_method_8_code
def yX5_barter : MethodName := ⟨RX5, "barter", "(II)I"⟩
abbrev cX5_call : ByteArray := prog_1_method_9_code
def yX5_call : MethodName := ⟨RX5, "call", "()I"⟩
abbrev cX5_day : ByteArray := prog_1_method_10_code
def yX5_day : MethodName := ⟨RX5, "day", "()I"⟩
abbrev cX5_append : ByteArray := prog_1_method_11_code
def yX5_append : MethodName := ⟨RX5, "append", "(I)I"⟩
abbrev cX5_clear : ByteArray := prog_1_method_12_code
def yX5_clear : MethodName := ⟨RX5, "clear", "()I"⟩
abbrev cX5_fault : ByteArray := prog_1_method_13_code
def yX5_fault : MethodName := ⟨RX5, "fault", "(I)I"⟩
abbrev cX5_traders : ByteArray := prog_1_method_14_code
def yX5_traders : MethodName := ⟨RX5, "traders", "()I"⟩
abbrev cX5_days : ByteArray := prog_1_method_15_code
def yX5_days : MethodName := ⟨RX5, "days", "()I"⟩
abbrev cX5_why : ByteArray := prog_1_method_16_code
def yX5_why : MethodName := ⟨RX5, "why", "(I)I"⟩
abbrev cX5_trader : ByteArray := prog_1_method_17_code
def yX5_trader : MethodName := ⟨RX5, "trader", "(II)I"⟩
abbrev cX5_can : ByteArray := prog_1_method_18_code
def yX5_can : MethodName := ⟨RX5, "can", "(II)I"⟩
abbrev cX5_whyNot : ByteArray := prog_1_method_19_code
def yX5_whyNot : MethodName := ⟨RX5, "whyNot", "(II)I"⟩
abbrev cX5_most : ByteArray := prog_1_method_20_code
def yX5_most : MethodName := ⟨RX5, "most", "(I)I"⟩
abbrev cX5_kind : ByteArray := prog_1_method_21_code
def yX5_kind : MethodName := ⟨RX5, "kind", "(II)I"⟩
abbrev cX5_count : ByteArray := prog_1_method_22_code
def yX5_count : MethodName := ⟨RX5, "count", "(I)I"⟩
abbrev cX5_freshness : ByteArray := prog_1_method_23_code
def yX5_freshness : MethodName := ⟨RX5, "freshness", "()D"⟩
abbrev cX5_ifCircle : ByteArray := prog_1_method_24_code
def yX5_ifCircle : MethodName := ⟨RX5, "ifCircle", "(I)I"⟩
abbrev cX5_ifDays : ByteArray := prog_1_method_25_code
def yX5_ifDays : MethodName := ⟨RX5, "ifDays", "(II)I"⟩
abbrev cX5_bestWant : ByteArray := prog_1_method_26_code
def yX5_bestWant : MethodName := ⟨RX5, "bestWant", "(I)I"⟩
abbrev cX5_undo : ByteArray := prog_1_method_27_code
def yX5_undo : MethodName := ⟨RX5, "undo", "()I"⟩
abbrev cX5_save : ByteArray := prog_1_method_28_code
def yX5_save : MethodName := ⟨RX5, "save", "()I"⟩
abbrev cX5_restore : ByteArray := prog_1_method_29_code
def yX5_restore : MethodName := ⟨RX5, "restore", "()I"⟩
abbrev cX5_isKind : ByteArray := prog_1_method_30_code
def yX5_isKind : MethodName := ⟨RX5, "isKind", "(I)Z"⟩
abbrev cX5_isSetOfKinds : ByteArray := prog_1_method_31_code
def yX5_isSetOfKinds : MethodName := ⟨RX5, "isSetOfKinds", "(I)Z"⟩
abbrev cX5_isCircleLength : ByteArray := prog_1_method_32_code
def yX5_isCircleLength : MethodName := ⟨RX5, "isCircleLength", "(I)Z"⟩
abbrev cX5_holds : ByteArray := prog_1_method_33_code
def yX5_holds : MethodName := ⟨RX5, "holds", "(II)Z"⟩
abbrev cX5_with : ByteArray := prog_1_method_34_code
def yX5_with : MethodName := ⟨RX5, "with", "(II)I"⟩
abbrev cX5_callMarket : ByteArray := prog_1_method_35_code
def yX5_callMarket : MethodName := ⟨RX5, "callMarket", "(LBarterRings$Market;)I"⟩
abbrev cX5_bestGiver : ByteArray := prog_1_method_36_code
def yX5_bestGiver : MethodName := ⟨RX5, "bestGiver", "(I)I"⟩
abbrev cX5_doBarterOfPad : ByteArray := prog_1_method_37_code
def yX5_doBarterOfPad : MethodName := ⟨RX5, "doBarterOfPad", "(I)V"⟩
def RX6 : String := "BarterRingsModel"
def TX6 : u_T := fun k => match k with
  | 0 => ("BarterRingsModel", "s", "[I", true)
  | 1 => ("BarterRingsModel", "aside", "[I", true)
  | 2 => ("BarterRingsModel", "history", "[I", true)
  | 3 => ("BarterRingsModel", "kept", "I", false)
  | 4 => ("BarterRingsModel", "snapshot", "[I", true)
  | 5 => ("BarterRingsModel", "isSaved", "Z", false)
  | 6 => ("BarterRingsModel", "pad", "[I", true)
  | 7 => ("BarterRingsModel", "length", "I", false)
  | 8 => ("BarterRingsModel", "stopBy", "I", false)
  | 9 => ("BarterRingsModel", "stopAt", "I", false)
  | 10 => ("BarterRingsModel", "best", "[I", true)
  | 11 => ("BarterRingsModel", "bestMany", "I", false)
  | 12 => ("BarterRingsModel", "tried", "[I", true)
  | 13 => ("BarterRingsModel", "begin", "[I", true)
  | 14 => ("BarterRingsModel", "wares", "[I", true)
  | 15 => ("BarterRingsModel", "ages", "[I", true)
  | _ => ("BarterRingsModel", "told", "I", false)
def tyX6 : Nat → FieldType := fun k => match k with
  | 0 => .array .int
  | 1 => .array .int
  | 2 => .array .int
  | 3 => .int
  | 4 => .array .int
  | 5 => .boolean
  | 6 => .array .int
  | 7 => .int
  | 8 => .int
  | 9 => .int
  | 10 => .array .int
  | 11 => .int
  | 12 => .array .int
  | 13 => .array .int
  | 14 => .array .int
  | 15 => .array .int
  | _ => .int
theorem nmX6 : ∀ a, a < 17 → ∀ b, b < 17 → a ≠ b → (TX6 a).2.1 ≠ (TX6 b).2.1 := by decide +kernel
theorem tyX6_ok : ∀ k, k < 17 → parseFieldDescriptor (TX6 k).2.2.1 = some (tyX6 k) := by decide +kernel
abbrev cX6_init : ByteArray := prog_8_method_1_code
def yX6_init : MethodName := ⟨RX6, "<init>", "()V"⟩
abbrev cX6_in : ByteArray := prog_8_method_3_code
def yX6_in : MethodName := ⟨RX6, "in", "(III)Z"⟩
abbrev cX6_isTrader : ByteArray := prog_8_method_4_code
def yX6_isTrader : MethodName := ⟨RX6, "isTrader", "(I)Z"⟩
abbrev cX6_arePair : ByteArray := prog_8_method_5_code
def yX6_arePair : MethodName := ⟨RX6, "arePair", "(II)Z"⟩
abbrev cX6_isKind : ByteArray := prog_8_method_6_code
def yX6_isKind : MethodName := ⟨RX6, "isKind", "(I)Z"⟩
abbrev cX6_ofKind : ByteArray := prog_8_method_7_code
def yX6_ofKind : MethodName := ⟨RX6, "ofKind", "(II)I"⟩
abbrev cX6_at : ByteArray := prog_8_method_8_code
def yX6_at : MethodName := ⟨RX6, "at", "(II)I"⟩
abbrev cX6_of : ByteArray := prog_8_method_9_code
def yX6_of : MethodName := ⟨RX6, "of", "(II)I"⟩
abbrev cX6_bits : ByteArray := prog_8_method_10_code
def yX6_bits : MethodName := ⟨RX6, "bits", "(I)I"⟩
abbrev cX6_record : ByteArray := prog_8_method_11_code
def yX6_record : MethodName := ⟨RX6, "record", "()V"⟩
abbrev cX6_putAside : ByteArray := prog_8_method_12_code
def yX6_putAside : MethodName := ⟨RX6, "putAside", "()V"⟩
abbrev cX6_putBack : ByteArray := prog_8_method_13_code
def yX6_putBack : MethodName := ⟨RX6, "putBack", "()V"⟩
abbrev cX6_daysLeft : ByteArray := prog_8_method_14_code
def yX6_daysLeft : MethodName := ⟨RX6, "daysLeft", "(I)I"⟩
abbrev cX6_wants : ByteArray := prog_8_method_15_code
def yX6_wants : MethodName := ⟨RX6, "wants", "(II)Z"⟩
abbrev cX6_takes : ByteArray := prog_8_method_16_code
def yX6_takes : MethodName := ⟨RX6, "takes", "(II)Z"⟩
abbrev cX6_areCircles : ByteArray := prog_8_method_17_code
def yX6_areCircles : MethodName := ⟨RX6, "areCircles", "(I)Z"⟩
abbrev cX6_keepsBest : ByteArray := prog_8_method_18_code
def yX6_keepsBest : MethodName := ⟨RX6, "keepsBest", "(I)V"⟩
abbrev cX6_may : ByteArray := prog_8_method_19_code
def yX6_may : MethodName := ⟨RX6, "may", "(III)Z"⟩
abbrev cX6_layBest : ByteArray := prog_8_method_20_code
def yX6_layBest : MethodName := ⟨RX6, "layBest", "(I)V"⟩
abbrev cX6_gets : ByteArray := prog_8_method_21_code
def yX6_gets : MethodName := ⟨RX6, "gets", "(III)V"⟩
abbrev cX6_looksAtWares : ByteArray := prog_8_method_22_code
def yX6_looksAtWares : MethodName := ⟨RX6, "looksAtWares", "()V"⟩
abbrev cX6_calls : ByteArray := prog_8_method_23_code
def yX6_calls : MethodName := ⟨RX6, "calls", "()I"⟩
abbrev cX6_reason : ByteArray := prog_8_method_24_code
def yX6_reason : MethodName := ⟨RX6, "reason", "(II)I"⟩
abbrev cX6_barters : ByteArray := prog_8_method_25_code
def yX6_barters : MethodName := ⟨RX6, "barters", "(II)I"⟩
abbrev cX6_passes : ByteArray := prog_8_method_26_code
def yX6_passes : MethodName := ⟨RX6, "passes", "()I"⟩
abbrev cX6_comes : ByteArray := prog_8_method_27_code
def yX6_comes : MethodName := ⟨RX6, "comes", "(II)I"⟩
abbrev cX6_come : ByteArray := prog_8_method_28_code
def yX6_come : MethodName := ⟨RX6, "come", "(II)I"⟩
abbrev cX6_go : ByteArray := prog_8_method_29_code
def yX6_go : MethodName := ⟨RX6, "go", "(I)I"⟩
abbrev cX6_lays : ByteArray := prog_8_method_30_code
def yX6_lays : MethodName := ⟨RX6, "lays", "(II)I"⟩
abbrev cX6_want : ByteArray := prog_8_method_31_code
def yX6_want : MethodName := ⟨RX6, "want", "(II)I"⟩
abbrev cX6_life : ByteArray := prog_8_method_32_code
def yX6_life : MethodName := ⟨RX6, "life", "(II)I"⟩
abbrev cX6_circle : ByteArray := prog_8_method_33_code
def yX6_circle : MethodName := ⟨RX6, "circle", "(I)I"⟩
abbrev cX6_lot : ByteArray := prog_8_method_34_code
def yX6_lot : MethodName := ⟨RX6, "lot", "(I)I"⟩
abbrev cX6_barter : ByteArray := prog_8_method_35_code
def yX6_barter : MethodName := ⟨RX6, "barter", "(II)I"⟩
abbrev cX6_call : ByteArray := prog_8_method_36_code
def yX6_call : MethodName := ⟨RX6, "call", "()I"⟩
abbrev cX6_day : ByteArray := prog_8_method_37_code
def yX6_day : MethodName := ⟨RX6, "day", "()I"⟩
abbrev cX6_append : ByteArray := prog_8_method_38_code
def yX6_append : MethodName := ⟨RX6, "append", "(I)I"⟩
abbrev cX6_clear : ByteArray := prog_8_method_39_code
def yX6_clear : MethodName := ⟨RX6, "clear", "()I"⟩
abbrev cX6_next : ByteArray := prog_8_method_40_code
def yX6_next : MethodName := ⟨RX6, "next", "(I)I"⟩
abbrev cX6_behindTrader : ByteArray := prog_8_method_41_code
def yX6_behindTrader : MethodName := ⟨RX6, "behindTrader", "(I)I"⟩
abbrev cX6_faultOfTraders : ByteArray := prog_8_method_42_code
def yX6_faultOfTraders : MethodName := ⟨RX6, "faultOfTraders", "()I"⟩
abbrev cX6_faultOfDays : ByteArray := prog_8_method_43_code
def yX6_faultOfDays : MethodName := ⟨RX6, "faultOfDays", "()I"⟩
abbrev cX6_fault : ByteArray := prog_8_method_44_code
def yX6_fault : MethodName := ⟨RX6, "fault", "(I)I"⟩
abbrev cX6_traders : ByteArray := prog_8_method_45_code
def yX6_traders : MethodName := ⟨RX6, "traders", "()I"⟩
abbrev cX6_isDone : ByteArray := prog_8_method_46_code
def yX6_isDone : MethodName := ⟨RX6, "isDone", "(I)Z"⟩
abbrev cX6_days : ByteArray := prog_8_method_47_code
def yX6_days : MethodName := ⟨RX6, "days", "()I"⟩
abbrev cX6_why : ByteArray := prog_8_method_48_code
def yX6_why : MethodName := ⟨RX6, "why", "(I)I"⟩
abbrev cX6_takesFrom : ByteArray := prog_8_method_49_code
def yX6_takesFrom : MethodName := ⟨RX6, "takesFrom", "(I)I"⟩
abbrev cX6_givesTo : ByteArray := prog_8_method_50_code
def yX6_givesTo : MethodName := ⟨RX6, "givesTo", "(I)I"⟩
abbrev cX6_bestFor : ByteArray := prog_8_method_51_code
def yX6_bestFor : MethodName := ⟨RX6, "bestFor", "(I)I"⟩
abbrev cX6_trader : ByteArray := prog_8_method_52_code
def yX6_trader : MethodName := ⟨RX6, "trader", "(II)I"⟩
abbrev cX6_can : ByteArray := prog_8_method_53_code
def yX6_can : MethodName := ⟨RX6, "can", "(II)I"⟩
abbrev cX6_whyNot : ByteArray := prog_8_method_54_code
def yX6_whyNot : MethodName := ⟨RX6, "whyNot", "(II)I"⟩
abbrev cX6_mostWith : ByteArray := prog_8_method_55_code
def yX6_mostWith : MethodName := ⟨RX6, "mostWith", "(I)I"⟩
abbrev cX6_most : ByteArray := prog_8_method_56_code
def yX6_most : MethodName := ⟨RX6, "most", "(I)I"⟩
abbrev cX6_sumOf : ByteArray := prog_8_method_57_code
def yX6_sumOf : MethodName := ⟨RX6, "sumOf", "(II)I"⟩
abbrev cX6_kind : ByteArray := prog_8_method_58_code
def yX6_kind : MethodName := ⟨RX6, "kind", "(II)I"⟩
abbrev cX6_needs : ByteArray := prog_8_method_59_code
def yX6_needs : MethodName := ⟨RX6, "needs", "()I"⟩
abbrev cX6_spoilt : ByteArray := prog_8_method_60_code
def yX6_spoilt : MethodName := ⟨RX6, "spoilt", "()I"⟩
abbrev cX6_stuck : ByteArray := prog_8_method_61_code
def yX6_stuck : MethodName := ⟨RX6, "stuck", "()I"⟩
abbrev cX6_count : ByteArray := prog_8_method_62_code
def yX6_count : MethodName := ⟨RX6, "count", "(I)I"⟩
abbrev cX6_freshness : ByteArray := prog_8_method_63_code
def yX6_freshness : MethodName := ⟨RX6, "freshness", "()D"⟩
abbrev cX6_ifCircle : ByteArray := prog_8_method_64_code
def yX6_ifCircle : MethodName := ⟨RX6, "ifCircle", "(I)I"⟩
abbrev cX6_ifDays : ByteArray := prog_8_method_65_code
def yX6_ifDays : MethodName := ⟨RX6, "ifDays", "(II)I"⟩
abbrev cX6_bestWant : ByteArray := prog_8_method_66_code
def yX6_bestWant : MethodName := ⟨RX6, "bestWant", "(I)I"⟩
abbrev cX6_undo : ByteArray := prog_8_method_67_code
def yX6_undo : MethodName := ⟨RX6, "undo", "()I"⟩
abbrev cX6_save : ByteArray := prog_8_method_68_code
def yX6_save : MethodName := ⟨RX6, "save", "()I"⟩
abbrev cX6_restore : ByteArray := prog_8_method_69_code
def yX6_restore : MethodName := ⟨RX6, "restore", "()I"⟩
def RJ6 : String := "java/lang/Integer"
abbrev cJ6_bitCount_0f7a4 : ByteArray := prog_9_method_49_code
def yJ6_bitCount_0f7a4 : MethodName := ⟨RJ6, "bitCount", "(I)I"⟩
def RJ9 : String := "java/lang/Math"
abbrev cJ9_max_7cf53 : ByteArray := prog_10_method_65_code
def yJ9_max_7cf53 : MethodName := ⟨RJ9, "max", "(II)I"⟩
abbrev cJ9_min_7cf53 : ByteArray := prog_10_method_69_code
def yJ9_min_7cf53 : MethodName := ⟨RJ9, "min", "(II)I"⟩
def RJ10 : String := "java/lang/System"
def RJ7 : String := "java/util/Arrays"
abbrev cJ7_fill_53178 : ByteArray := prog_12_method_103_code
def yJ7_fill_53178 : MethodName := ⟨RJ7, "fill", "([II)V"⟩
def RL : String := "BarterRingsLaw"
abbrev cL_law : ByteArray := code
def yL_law : MethodName := ⟨RL, "law", "([I)Z"⟩
abbrev vwCl : List vw_C := [(RX0, TX0, 6), (RX1, TX1, 3), (RX2, TX2, 18), (RX3, TX3, 2), (RX4, TX4, 6), (RX5, TX5, 10), (RX6, TX6, 17)]
