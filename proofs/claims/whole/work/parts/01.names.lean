-- ===== PART A: goes FIRST, ahead of the names: the tables' words, and 'selects' of the private methods out of them =====
/-- a private method of a class that the tables say can be made, by its rows of tables_1 -/
def lw_okq (q : MethodName × Nat) : Prop := (q.1.cls ≠ "java/lang/invoke/MethodHandle" ∧ q.1.cls ≠ "java/lang/invoke/VarHandle") ∧ Cond.instantiable q.1.cls q.2 ∈ tables_1 ∧ Cond.privateMethod q.1 ∈ tables_1 ∧ Cond.instanceMethod q.1 ∈ tables_1
theorem lw_p0 : lw_okq (⟨"SightBlocks", "recorded", "(I)I"⟩, 4) := ⟨⟨by decide +kernel, by decide +kernel⟩, List.mem_of_getElem? (i := 17) (by decide +kernel), List.mem_of_getElem? (i := 260) (by decide +kernel), List.mem_of_getElem? (i := 261) (by decide +kernel)⟩
theorem lw_p1 : lw_okq (⟨"SightBlocks$Floor", "isStage", "(I)Z"⟩, 6) := ⟨⟨by decide +kernel, by decide +kernel⟩, List.mem_of_getElem? (i := 31) (by decide +kernel), List.mem_of_getElem? (i := 284) (by decide +kernel), List.mem_of_getElem? (i := 285) (by decide +kernel)⟩
theorem lw_p2 : lw_okq (⟨"SightBlocks$Floor", "isPiece", "(II)Z"⟩, 6) := ⟨⟨by decide +kernel, by decide +kernel⟩, List.mem_of_getElem? (i := 31) (by decide +kernel), List.mem_of_getElem? (i := 288) (by decide +kernel), List.mem_of_getElem? (i := 289) (by decide +kernel)⟩
theorem lw_p3 : lw_okq (⟨"SightBlocks$Floor", "isChair", "(I)Z"⟩, 6) := ⟨⟨by decide +kernel, by decide +kernel⟩, List.mem_of_getElem? (i := 31) (by decide +kernel), List.mem_of_getElem? (i := 292) (by decide +kernel), List.mem_of_getElem? (i := 293) (by decide +kernel)⟩
theorem lw_p4 : lw_okq (⟨"SightBlocks$Floor", "isUp", "(I)Z"⟩, 6) := ⟨⟨by decide +kernel, by decide +kernel⟩, List.mem_of_getElem? (i := 31) (by decide +kernel), List.mem_of_getElem? (i := 300) (by decide +kernel), List.mem_of_getElem? (i := 301) (by decide +kernel)⟩
theorem lw_p5 : lw_okq (⟨"SightBlocks$Floor", "chairsUnder", "(I)I"⟩, 6) := ⟨⟨by decide +kernel, by decide +kernel⟩, List.mem_of_getElem? (i := 31) (by decide +kernel), List.mem_of_getElem? (i := 304) (by decide +kernel), List.mem_of_getElem? (i := 305) (by decide +kernel)⟩
theorem lw_p6 : lw_okq (⟨"SightBlocks$Floor", "hasTakenChairUnder", "(I)Z"⟩, 6) := ⟨⟨by decide +kernel, by decide +kernel⟩, List.mem_of_getElem? (i := 31) (by decide +kernel), List.mem_of_getElem? (i := 316) (by decide +kernel), List.mem_of_getElem? (i := 317) (by decide +kernel)⟩
theorem lw_p7 : lw_okq (⟨"SightBlocks$Floor", "usableInRow", "(LSightBlocks$Block;II)I"⟩, 6) := ⟨⟨by decide +kernel, by decide +kernel⟩, List.mem_of_getElem? (i := 31) (by decide +kernel), List.mem_of_getElem? (i := 348) (by decide +kernel), List.mem_of_getElem? (i := 349) (by decide +kernel)⟩
theorem lw_p8 : lw_okq (⟨"SightBlocks$Stadium", "holdAt", "(I)LSightBlocks$Hold;"⟩, 10) := ⟨⟨by decide +kernel, by decide +kernel⟩, List.mem_of_getElem? (i := 25) (by decide +kernel), List.mem_of_getElem? (i := 370) (by decide +kernel), List.mem_of_getElem? (i := 371) (by decide +kernel)⟩
theorem lw_p9 : lw_okq (⟨"SightBlocks$Stadium", "moveTicket", "(II)I"⟩, 10) := ⟨⟨by decide +kernel, by decide +kernel⟩, List.mem_of_getElem? (i := 25) (by decide +kernel), List.mem_of_getElem? (i := 431) (by decide +kernel), List.mem_of_getElem? (i := 432) (by decide +kernel)⟩
theorem lw_p10 : lw_okq (⟨"SightBlocks$Stadium", "nextMover", "(I)I"⟩, 10) := ⟨⟨by decide +kernel, by decide +kernel⟩, List.mem_of_getElem? (i := 25) (by decide +kernel), List.mem_of_getElem? (i := 435) (by decide +kernel), List.mem_of_getElem? (i := 436) (by decide +kernel)⟩
theorem lw_p11 : lw_okq (⟨"SightBlocks$Program", "readToken", "()V"⟩, 5) := ⟨⟨by decide +kernel, by decide +kernel⟩, List.mem_of_getElem? (i := 188) (by decide +kernel), List.mem_of_getElem? (i := 492) (by decide +kernel), List.mem_of_getElem? (i := 493) (by decide +kernel)⟩
theorem lw_p12 : lw_okq (⟨"SightBlocks$Program", "runOrder", "(LSightBlocks$Stadium;)I"⟩, 5) := ⟨⟨by decide +kernel, by decide +kernel⟩, List.mem_of_getElem? (i := 188) (by decide +kernel), List.mem_of_getElem? (i := 499) (by decide +kernel), List.mem_of_getElem? (i := 500) (by decide +kernel)⟩
theorem lw_p13 : lw_okq (⟨"SightBlocks$Program", "orderOfToken", "()I"⟩, 5) := ⟨⟨by decide +kernel, by decide +kernel⟩, List.mem_of_getElem? (i := 188) (by decide +kernel), List.mem_of_getElem? (i := 503) (by decide +kernel), List.mem_of_getElem? (i := 504) (by decide +kernel)⟩
theorem lw_p14 : lw_okq (⟨"SightBlocks$Program", "tokenIs", "(Ljava/lang/String;)Z"⟩, 5) := ⟨⟨by decide +kernel, by decide +kernel⟩, List.mem_of_getElem? (i := 188) (by decide +kernel), List.mem_of_getElem? (i := 508) (by decide +kernel), List.mem_of_getElem? (i := 509) (by decide +kernel)⟩
theorem lw_p15 : lw_okq (⟨"SightBlocks$Program", "numberOfToken", "()I"⟩, 5) := ⟨⟨by decide +kernel, by decide +kernel⟩, List.mem_of_getElem? (i := 188) (by decide +kernel), List.mem_of_getElem? (i := 566) (by decide +kernel), List.mem_of_getElem? (i := 567) (by decide +kernel)⟩
def lw_privs_1 : List (MethodName × Nat) := [(⟨"SightBlocks", "recorded", "(I)I"⟩, 4), (⟨"SightBlocks$Floor", "isStage", "(I)Z"⟩, 6), (⟨"SightBlocks$Floor", "isPiece", "(II)Z"⟩, 6), (⟨"SightBlocks$Floor", "isChair", "(I)Z"⟩, 6), (⟨"SightBlocks$Floor", "isUp", "(I)Z"⟩, 6), (⟨"SightBlocks$Floor", "chairsUnder", "(I)I"⟩, 6), (⟨"SightBlocks$Floor", "hasTakenChairUnder", "(I)Z"⟩, 6), (⟨"SightBlocks$Floor", "usableInRow", "(LSightBlocks$Block;II)I"⟩, 6), (⟨"SightBlocks$Stadium", "holdAt", "(I)LSightBlocks$Hold;"⟩, 10), (⟨"SightBlocks$Stadium", "moveTicket", "(II)I"⟩, 10), (⟨"SightBlocks$Stadium", "nextMover", "(I)I"⟩, 10), (⟨"SightBlocks$Program", "readToken", "()V"⟩, 5), (⟨"SightBlocks$Program", "runOrder", "(LSightBlocks$Stadium;)I"⟩, 5), (⟨"SightBlocks$Program", "orderOfToken", "()I"⟩, 5), (⟨"SightBlocks$Program", "tokenIs", "(Ljava/lang/String;)Z"⟩, 5), (⟨"SightBlocks$Program", "numberOfToken", "()I"⟩, 5)]
theorem lw_r1 : ∀ q ∈ lw_privs_1, lw_okq q := List.forall_mem_cons.mpr ⟨lw_p0, List.forall_mem_cons.mpr ⟨lw_p1, List.forall_mem_cons.mpr ⟨lw_p2, List.forall_mem_cons.mpr ⟨lw_p3, List.forall_mem_cons.mpr ⟨lw_p4, List.forall_mem_cons.mpr ⟨lw_p5, List.forall_mem_cons.mpr ⟨lw_p6, List.forall_mem_cons.mpr ⟨lw_p7, List.forall_mem_cons.mpr ⟨lw_p8, List.forall_mem_cons.mpr ⟨lw_p9, List.forall_mem_cons.mpr ⟨lw_p10, List.forall_mem_cons.mpr ⟨lw_p11, List.forall_mem_cons.mpr ⟨lw_p12, List.forall_mem_cons.mpr ⟨lw_p13, List.forall_mem_cons.mpr ⟨lw_p14, List.forall_mem_cons.mpr ⟨lw_p15, fun _ h => absurd h List.not_mem_nil⟩⟩⟩⟩⟩⟩⟩⟩⟩⟩⟩⟩⟩⟩⟩⟩
theorem lw_p16 : lw_okq (⟨"SightBlocks$Program", "perform", "(ILSightBlocks$Stadium;)I"⟩, 5) := ⟨⟨by decide +kernel, by decide +kernel⟩, List.mem_of_getElem? (i := 188) (by decide +kernel), List.mem_of_getElem? (i := 571) (by decide +kernel), List.mem_of_getElem? (i := 572) (by decide +kernel)⟩
theorem lw_p17 : lw_okq (⟨"SightBlocks$Stadium", "openHolds", "()I"⟩, 10) := ⟨⟨by decide +kernel, by decide +kernel⟩, List.mem_of_getElem? (i := 25) (by decide +kernel), List.mem_of_getElem? (i := 605) (by decide +kernel), List.mem_of_getElem? (i := 606) (by decide +kernel)⟩
theorem lw_p18 : lw_okq (⟨"SightBlocks$Stadium", "ticketsThatAre", "(I)I"⟩, 10) := ⟨⟨by decide +kernel, by decide +kernel⟩, List.mem_of_getElem? (i := 25) (by decide +kernel), List.mem_of_getElem? (i := 609) (by decide +kernel), List.mem_of_getElem? (i := 610) (by decide +kernel)⟩
theorem lw_p19 : lw_okq (⟨"SightBlocks$Floor", "chairsThatAre", "(II)I"⟩, 6) := ⟨⟨by decide +kernel, by decide +kernel⟩, List.mem_of_getElem? (i := 31) (by decide +kernel), List.mem_of_getElem? (i := 621) (by decide +kernel), List.mem_of_getElem? (i := 622) (by decide +kernel)⟩
theorem lw_p20 : lw_okq (⟨"SightBlocks$Floor", "usableIn", "(I)I"⟩, 6) := ⟨⟨by decide +kernel, by decide +kernel⟩, List.mem_of_getElem? (i := 31) (by decide +kernel), List.mem_of_getElem? (i := 625) (by decide +kernel), List.mem_of_getElem? (i := 626) (by decide +kernel)⟩
theorem lw_p21 : lw_okq (⟨"SightBlocksModel", "record", "()V"⟩, 12) := ⟨⟨by decide +kernel, by decide +kernel⟩, List.mem_of_getElem? (i := 693) (by decide +kernel), List.mem_of_getElem? (i := 743) (by decide +kernel), List.mem_of_getElem? (i := 744) (by decide +kernel)⟩
theorem lw_p22 : lw_okq (⟨"SightBlocksModel", "keep", "()V"⟩, 12) := ⟨⟨by decide +kernel, by decide +kernel⟩, List.mem_of_getElem? (i := 693) (by decide +kernel), List.mem_of_getElem? (i := 747) (by decide +kernel), List.mem_of_getElem? (i := 748) (by decide +kernel)⟩
theorem lw_p23 : lw_okq (⟨"SightBlocksModel", "isStage", "(I)Z"⟩, 12) := ⟨⟨by decide +kernel, by decide +kernel⟩, List.mem_of_getElem? (i := 693) (by decide +kernel), List.mem_of_getElem? (i := 759) (by decide +kernel), List.mem_of_getElem? (i := 760) (by decide +kernel)⟩
theorem lw_p24 : lw_okq (⟨"SightBlocksModel", "isPiece", "(II)Z"⟩, 12) := ⟨⟨by decide +kernel, by decide +kernel⟩, List.mem_of_getElem? (i := 693) (by decide +kernel), List.mem_of_getElem? (i := 763) (by decide +kernel), List.mem_of_getElem? (i := 764) (by decide +kernel)⟩
theorem lw_p25 : lw_okq (⟨"SightBlocksModel", "isChair", "(I)Z"⟩, 12) := ⟨⟨by decide +kernel, by decide +kernel⟩, List.mem_of_getElem? (i := 693) (by decide +kernel), List.mem_of_getElem? (i := 767) (by decide +kernel), List.mem_of_getElem? (i := 768) (by decide +kernel)⟩
theorem lw_p26 : lw_okq (⟨"SightBlocksModel", "isBlock", "(I)Z"⟩, 12) := ⟨⟨by decide +kernel, by decide +kernel⟩, List.mem_of_getElem? (i := 693) (by decide +kernel), List.mem_of_getElem? (i := 771) (by decide +kernel), List.mem_of_getElem? (i := 772) (by decide +kernel)⟩
theorem lw_p27 : lw_okq (⟨"SightBlocksModel", "of", "(II)I"⟩, 12) := ⟨⟨by decide +kernel, by decide +kernel⟩, List.mem_of_getElem? (i := 693) (by decide +kernel), List.mem_of_getElem? (i := 775) (by decide +kernel), List.mem_of_getElem? (i := 776) (by decide +kernel)⟩
theorem lw_p28 : lw_okq (⟨"SightBlocksModel", "isUp", "(I)Z"⟩, 12) := ⟨⟨by decide +kernel, by decide +kernel⟩, List.mem_of_getElem? (i := 693) (by decide +kernel), List.mem_of_getElem? (i := 779) (by decide +kernel), List.mem_of_getElem? (i := 780) (by decide +kernel)⟩
theorem lw_p29 : lw_okq (⟨"SightBlocksModel", "killedBy", "(IZZ)I"⟩, 12) := ⟨⟨by decide +kernel, by decide +kernel⟩, List.mem_of_getElem? (i := 693) (by decide +kernel), List.mem_of_getElem? (i := 786) (by decide +kernel), List.mem_of_getElem? (i := 787) (by decide +kernel)⟩
theorem lw_p30 : lw_okq (⟨"SightBlocksModel", "isFor", "(II)Z"⟩, 12) := ⟨⟨by decide +kernel, by decide +kernel⟩, List.mem_of_getElem? (i := 693) (by decide +kernel), List.mem_of_getElem? (i := 790) (by decide +kernel), List.mem_of_getElem? (i := 791) (by decide +kernel)⟩
theorem lw_p31 : lw_okq (⟨"SightBlocksModel", "isKilled", "(I)Z"⟩, 12) := ⟨⟨by decide +kernel, by decide +kernel⟩, List.mem_of_getElem? (i := 693) (by decide +kernel), List.mem_of_getElem? (i := 794) (by decide +kernel), List.mem_of_getElem? (i := 795) (by decide +kernel)⟩
def lw_privs_2 : List (MethodName × Nat) := [(⟨"SightBlocks$Program", "perform", "(ILSightBlocks$Stadium;)I"⟩, 5), (⟨"SightBlocks$Stadium", "openHolds", "()I"⟩, 10), (⟨"SightBlocks$Stadium", "ticketsThatAre", "(I)I"⟩, 10), (⟨"SightBlocks$Floor", "chairsThatAre", "(II)I"⟩, 6), (⟨"SightBlocks$Floor", "usableIn", "(I)I"⟩, 6), (⟨"SightBlocksModel", "record", "()V"⟩, 12), (⟨"SightBlocksModel", "keep", "()V"⟩, 12), (⟨"SightBlocksModel", "isStage", "(I)Z"⟩, 12), (⟨"SightBlocksModel", "isPiece", "(II)Z"⟩, 12), (⟨"SightBlocksModel", "isChair", "(I)Z"⟩, 12), (⟨"SightBlocksModel", "isBlock", "(I)Z"⟩, 12), (⟨"SightBlocksModel", "of", "(II)I"⟩, 12), (⟨"SightBlocksModel", "isUp", "(I)Z"⟩, 12), (⟨"SightBlocksModel", "killedBy", "(IZZ)I"⟩, 12), (⟨"SightBlocksModel", "isFor", "(II)Z"⟩, 12), (⟨"SightBlocksModel", "isKilled", "(I)Z"⟩, 12)]
theorem lw_r2 : ∀ q ∈ lw_privs_2, lw_okq q := List.forall_mem_cons.mpr ⟨lw_p16, List.forall_mem_cons.mpr ⟨lw_p17, List.forall_mem_cons.mpr ⟨lw_p18, List.forall_mem_cons.mpr ⟨lw_p19, List.forall_mem_cons.mpr ⟨lw_p20, List.forall_mem_cons.mpr ⟨lw_p21, List.forall_mem_cons.mpr ⟨lw_p22, List.forall_mem_cons.mpr ⟨lw_p23, List.forall_mem_cons.mpr ⟨lw_p24, List.forall_mem_cons.mpr ⟨lw_p25, List.forall_mem_cons.mpr ⟨lw_p26, List.forall_mem_cons.mpr ⟨lw_p27, List.forall_mem_cons.mpr ⟨lw_p28, List.forall_mem_cons.mpr ⟨lw_p29, List.forall_mem_cons.mpr ⟨lw_p30, List.forall_mem_cons.mpr ⟨lw_p31, fun _ h => absurd h List.not_mem_nil⟩⟩⟩⟩⟩⟩⟩⟩⟩⟩⟩⟩⟩⟩⟩⟩
theorem lw_p32 : lw_okq (⟨"SightBlocksModel", "isWhat", "(I)I"⟩, 12) := ⟨⟨by decide +kernel, by decide +kernel⟩, List.mem_of_getElem? (i := 693) (by decide +kernel), List.mem_of_getElem? (i := 798) (by decide +kernel), List.mem_of_getElem? (i := 799) (by decide +kernel)⟩
theorem lw_p33 : lw_okq (⟨"SightBlocksModel", "aside", "()V"⟩, 12) := ⟨⟨by decide +kernel, by decide +kernel⟩, List.mem_of_getElem? (i := 693) (by decide +kernel), List.mem_of_getElem? (i := 806) (by decide +kernel), List.mem_of_getElem? (i := 807) (by decide +kernel)⟩
theorem lw_p34 : lw_okq (⟨"SightBlocksModel", "puts", "(I)I"⟩, 12) := ⟨⟨by decide +kernel, by decide +kernel⟩, List.mem_of_getElem? (i := 693) (by decide +kernel), List.mem_of_getElem? (i := 810) (by decide +kernel), List.mem_of_getElem? (i := 811) (by decide +kernel)⟩
theorem lw_p35 : lw_okq (⟨"SightBlocksModel", "countedAll", "(I)I"⟩, 12) := ⟨⟨by decide +kernel, by decide +kernel⟩, List.mem_of_getElem? (i := 693) (by decide +kernel), List.mem_of_getElem? (i := 814) (by decide +kernel), List.mem_of_getElem? (i := 815) (by decide +kernel)⟩
theorem lw_p36 : lw_okq (⟨"SightBlocksModel", "counted", "(II)I"⟩, 12) := ⟨⟨by decide +kernel, by decide +kernel⟩, List.mem_of_getElem? (i := 693) (by decide +kernel), List.mem_of_getElem? (i := 818) (by decide +kernel), List.mem_of_getElem? (i := 819) (by decide +kernel)⟩
theorem lw_p37 : lw_okq (⟨"SightBlocksModel", "acted", "(I)I"⟩, 12) := ⟨⟨by decide +kernel, by decide +kernel⟩, List.mem_of_getElem? (i := 693) (by decide +kernel), List.mem_of_getElem? (i := 822) (by decide +kernel), List.mem_of_getElem? (i := 823) (by decide +kernel)⟩
theorem lw_p38 : lw_okq (⟨"SightBlocksModel", "holds", "(III)I"⟩, 12) := ⟨⟨by decide +kernel, by decide +kernel⟩, List.mem_of_getElem? (i := 693) (by decide +kernel), List.mem_of_getElem? (i := 834) (by decide +kernel), List.mem_of_getElem? (i := 835) (by decide +kernel)⟩
theorem lw_p39 : lw_okq (⟨"SightBlocksModel", "placeIn", "(II)I"⟩, 12) := ⟨⟨by decide +kernel, by decide +kernel⟩, List.mem_of_getElem? (i := 693) (by decide +kernel), List.mem_of_getElem? (i := 838) (by decide +kernel), List.mem_of_getElem? (i := 839) (by decide +kernel)⟩
theorem lw_p40 : lw_okq (⟨"SightBlocksModel", "areOpen", "(III)Z"⟩, 12) := ⟨⟨by decide +kernel, by decide +kernel⟩, List.mem_of_getElem? (i := 693) (by decide +kernel), List.mem_of_getElem? (i := 842) (by decide +kernel), List.mem_of_getElem? (i := 843) (by decide +kernel)⟩
theorem lw_p41 : lw_okq (⟨"SightBlocksModel", "isOpen", "(II)Z"⟩, 12) := ⟨⟨by decide +kernel, by decide +kernel⟩, List.mem_of_getElem? (i := 693) (by decide +kernel), List.mem_of_getElem? (i := 846) (by decide +kernel), List.mem_of_getElem? (i := 847) (by decide +kernel)⟩
theorem lw_p42 : lw_okq (⟨"SightBlocksModel", "leftAlone", "(III)I"⟩, 12) := ⟨⟨by decide +kernel, by decide +kernel⟩, List.mem_of_getElem? (i := 693) (by decide +kernel), List.mem_of_getElem? (i := 850) (by decide +kernel), List.mem_of_getElem? (i := 851) (by decide +kernel)⟩
theorem lw_p43 : lw_okq (⟨"SightBlocksModel", "become", "(III)V"⟩, 12) := ⟨⟨by decide +kernel, by decide +kernel⟩, List.mem_of_getElem? (i := 693) (by decide +kernel), List.mem_of_getElem? (i := 854) (by decide +kernel), List.mem_of_getElem? (i := 855) (by decide +kernel)⟩
theorem lw_p44 : lw_okq (⟨"SightBlocksModel", "buys", "(I)I"⟩, 12) := ⟨⟨by decide +kernel, by decide +kernel⟩, List.mem_of_getElem? (i := 693) (by decide +kernel), List.mem_of_getElem? (i := 862) (by decide +kernel), List.mem_of_getElem? (i := 863) (by decide +kernel)⟩
theorem lw_p45 : lw_okq (⟨"SightBlocksModel", "isHold", "(I)Z"⟩, 12) := ⟨⟨by decide +kernel, by decide +kernel⟩, List.mem_of_getElem? (i := 693) (by decide +kernel), List.mem_of_getElem? (i := 866) (by decide +kernel), List.mem_of_getElem? (i := 867) (by decide +kernel)⟩
theorem lw_p46 : lw_okq (⟨"SightBlocksModel", "ofHold", "(II)I"⟩, 12) := ⟨⟨by decide +kernel, by decide +kernel⟩, List.mem_of_getElem? (i := 693) (by decide +kernel), List.mem_of_getElem? (i := 870) (by decide +kernel), List.mem_of_getElem? (i := 871) (by decide +kernel)⟩
theorem lw_p47 : lw_okq (⟨"SightBlocksModel", "drops", "(I)I"⟩, 12) := ⟨⟨by decide +kernel, by decide +kernel⟩, List.mem_of_getElem? (i := 693) (by decide +kernel), List.mem_of_getElem? (i := 878) (by decide +kernel), List.mem_of_getElem? (i := 879) (by decide +kernel)⟩
def lw_privs_3 : List (MethodName × Nat) := [(⟨"SightBlocksModel", "isWhat", "(I)I"⟩, 12), (⟨"SightBlocksModel", "aside", "()V"⟩, 12), (⟨"SightBlocksModel", "puts", "(I)I"⟩, 12), (⟨"SightBlocksModel", "countedAll", "(I)I"⟩, 12), (⟨"SightBlocksModel", "counted", "(II)I"⟩, 12), (⟨"SightBlocksModel", "acted", "(I)I"⟩, 12), (⟨"SightBlocksModel", "holds", "(III)I"⟩, 12), (⟨"SightBlocksModel", "placeIn", "(II)I"⟩, 12), (⟨"SightBlocksModel", "areOpen", "(III)Z"⟩, 12), (⟨"SightBlocksModel", "isOpen", "(II)Z"⟩, 12), (⟨"SightBlocksModel", "leftAlone", "(III)I"⟩, 12), (⟨"SightBlocksModel", "become", "(III)V"⟩, 12), (⟨"SightBlocksModel", "buys", "(I)I"⟩, 12), (⟨"SightBlocksModel", "isHold", "(I)Z"⟩, 12), (⟨"SightBlocksModel", "ofHold", "(II)I"⟩, 12), (⟨"SightBlocksModel", "drops", "(I)I"⟩, 12)]
theorem lw_r3 : ∀ q ∈ lw_privs_3, lw_okq q := List.forall_mem_cons.mpr ⟨lw_p32, List.forall_mem_cons.mpr ⟨lw_p33, List.forall_mem_cons.mpr ⟨lw_p34, List.forall_mem_cons.mpr ⟨lw_p35, List.forall_mem_cons.mpr ⟨lw_p36, List.forall_mem_cons.mpr ⟨lw_p37, List.forall_mem_cons.mpr ⟨lw_p38, List.forall_mem_cons.mpr ⟨lw_p39, List.forall_mem_cons.mpr ⟨lw_p40, List.forall_mem_cons.mpr ⟨lw_p41, List.forall_mem_cons.mpr ⟨lw_p42, List.forall_mem_cons.mpr ⟨lw_p43, List.forall_mem_cons.mpr ⟨lw_p44, List.forall_mem_cons.mpr ⟨lw_p45, List.forall_mem_cons.mpr ⟨lw_p46, List.forall_mem_cons.mpr ⟨lw_p47, fun _ h => absurd h List.not_mem_nil⟩⟩⟩⟩⟩⟩⟩⟩⟩⟩⟩⟩⟩⟩⟩⟩
theorem lw_p48 : lw_okq (⟨"SightBlocksModel", "givesBack", "(I)I"⟩, 12) := ⟨⟨by decide +kernel, by decide +kernel⟩, List.mem_of_getElem? (i := 693) (by decide +kernel), List.mem_of_getElem? (i := 886) (by decide +kernel), List.mem_of_getElem? (i := 887) (by decide +kernel)⟩
theorem lw_p49 : lw_okq (⟨"SightBlocksModel", "whyNot", "(I)I"⟩, 12) := ⟨⟨by decide +kernel, by decide +kernel⟩, List.mem_of_getElem? (i := 693) (by decide +kernel), List.mem_of_getElem? (i := 890) (by decide +kernel), List.mem_of_getElem? (i := 891) (by decide +kernel)⟩
theorem lw_p50 : lw_okq (⟨"SightBlocksModel", "isTicket", "(I)Z"⟩, 12) := ⟨⟨by decide +kernel, by decide +kernel⟩, List.mem_of_getElem? (i := 693) (by decide +kernel), List.mem_of_getElem? (i := 894) (by decide +kernel), List.mem_of_getElem? (i := 895) (by decide +kernel)⟩
theorem lw_p51 : lw_okq (⟨"SightBlocksModel", "ofTicket", "(II)I"⟩, 12) := ⟨⟨by decide +kernel, by decide +kernel⟩, List.mem_of_getElem? (i := 693) (by decide +kernel), List.mem_of_getElem? (i := 898) (by decide +kernel), List.mem_of_getElem? (i := 899) (by decide +kernel)⟩
theorem lw_p52 : lw_okq (⟨"SightBlocksModel", "ends", "(III)V"⟩, 12) := ⟨⟨by decide +kernel, by decide +kernel⟩, List.mem_of_getElem? (i := 693) (by decide +kernel), List.mem_of_getElem? (i := 902) (by decide +kernel), List.mem_of_getElem? (i := 903) (by decide +kernel)⟩
theorem lw_p53 : lw_okq (⟨"SightBlocksModel", "comes", "(I)I"⟩, 12) := ⟨⟨by decide +kernel, by decide +kernel⟩, List.mem_of_getElem? (i := 693) (by decide +kernel), List.mem_of_getElem? (i := 910) (by decide +kernel), List.mem_of_getElem? (i := 911) (by decide +kernel)⟩
theorem lw_p54 : lw_okq (⟨"SightBlocksModel", "better", "(I)I"⟩, 12) := ⟨⟨by decide +kernel, by decide +kernel⟩, List.mem_of_getElem? (i := 693) (by decide +kernel), List.mem_of_getElem? (i := 918) (by decide +kernel), List.mem_of_getElem? (i := 919) (by decide +kernel)⟩
theorem lw_p55 : lw_okq (⟨"SightBlocksModel", "rank", "(I)I"⟩, 12) := ⟨⟨by decide +kernel, by decide +kernel⟩, List.mem_of_getElem? (i := 693) (by decide +kernel), List.mem_of_getElem? (i := 922) (by decide +kernel), List.mem_of_getElem? (i := 923) (by decide +kernel)⟩
theorem lw_p56 : lw_okq (⟨"SightBlocksModel", "chains", "(I)I"⟩, 12) := ⟨⟨by decide +kernel, by decide +kernel⟩, List.mem_of_getElem? (i := 693) (by decide +kernel), List.mem_of_getElem? (i := 926) (by decide +kernel), List.mem_of_getElem? (i := 927) (by decide +kernel)⟩
theorem lw_p57 : lw_okq (⟨"SightBlocksModel", "moves", "(II)V"⟩, 12) := ⟨⟨by decide +kernel, by decide +kernel⟩, List.mem_of_getElem? (i := 693) (by decide +kernel), List.mem_of_getElem? (i := 930) (by decide +kernel), List.mem_of_getElem? (i := 931) (by decide +kernel)⟩
theorem lw_p58 : lw_okq (⟨"SightBlocksModel", "follower", "(I)I"⟩, 12) := ⟨⟨by decide +kernel, by decide +kernel⟩, List.mem_of_getElem? (i := 693) (by decide +kernel), List.mem_of_getElem? (i := 934) (by decide +kernel), List.mem_of_getElem? (i := 935) (by decide +kernel)⟩
theorem lw_p59 : lw_okq (⟨"SightBlocksModel", "passes", "(I)I"⟩, 12) := ⟨⟨by decide +kernel, by decide +kernel⟩, List.mem_of_getElem? (i := 693) (by decide +kernel), List.mem_of_getElem? (i := 942) (by decide +kernel), List.mem_of_getElem? (i := 943) (by decide +kernel)⟩
theorem lw_p60 : lw_okq (⟨"SightBlocksModel", "next", "()V"⟩, 12) := ⟨⟨by decide +kernel, by decide +kernel⟩, List.mem_of_getElem? (i := 693) (by decide +kernel), List.mem_of_getElem? (i := 966) (by decide +kernel), List.mem_of_getElem? (i := 967) (by decide +kernel)⟩
theorem lw_p61 : lw_okq (⟨"SightBlocksModel", "byteAt", "(I)I"⟩, 12) := ⟨⟨by decide +kernel, by decide +kernel⟩, List.mem_of_getElem? (i := 693) (by decide +kernel), List.mem_of_getElem? (i := 970) (by decide +kernel), List.mem_of_getElem? (i := 971) (by decide +kernel)⟩
theorem lw_p62 : lw_okq (⟨"SightBlocksModel", "isLetter", "(I)Z"⟩, 12) := ⟨⟨by decide +kernel, by decide +kernel⟩, List.mem_of_getElem? (i := 693) (by decide +kernel), List.mem_of_getElem? (i := 974) (by decide +kernel), List.mem_of_getElem? (i := 975) (by decide +kernel)⟩
theorem lw_p63 : lw_okq (⟨"SightBlocksModel", "isFigure", "(I)Z"⟩, 12) := ⟨⟨by decide +kernel, by decide +kernel⟩, List.mem_of_getElem? (i := 693) (by decide +kernel), List.mem_of_getElem? (i := 978) (by decide +kernel), List.mem_of_getElem? (i := 979) (by decide +kernel)⟩
def lw_privs_4 : List (MethodName × Nat) := [(⟨"SightBlocksModel", "givesBack", "(I)I"⟩, 12), (⟨"SightBlocksModel", "whyNot", "(I)I"⟩, 12), (⟨"SightBlocksModel", "isTicket", "(I)Z"⟩, 12), (⟨"SightBlocksModel", "ofTicket", "(II)I"⟩, 12), (⟨"SightBlocksModel", "ends", "(III)V"⟩, 12), (⟨"SightBlocksModel", "comes", "(I)I"⟩, 12), (⟨"SightBlocksModel", "better", "(I)I"⟩, 12), (⟨"SightBlocksModel", "rank", "(I)I"⟩, 12), (⟨"SightBlocksModel", "chains", "(I)I"⟩, 12), (⟨"SightBlocksModel", "moves", "(II)V"⟩, 12), (⟨"SightBlocksModel", "follower", "(I)I"⟩, 12), (⟨"SightBlocksModel", "passes", "(I)I"⟩, 12), (⟨"SightBlocksModel", "next", "()V"⟩, 12), (⟨"SightBlocksModel", "byteAt", "(I)I"⟩, 12), (⟨"SightBlocksModel", "isLetter", "(I)Z"⟩, 12), (⟨"SightBlocksModel", "isFigure", "(I)Z"⟩, 12)]
theorem lw_r4 : ∀ q ∈ lw_privs_4, lw_okq q := List.forall_mem_cons.mpr ⟨lw_p48, List.forall_mem_cons.mpr ⟨lw_p49, List.forall_mem_cons.mpr ⟨lw_p50, List.forall_mem_cons.mpr ⟨lw_p51, List.forall_mem_cons.mpr ⟨lw_p52, List.forall_mem_cons.mpr ⟨lw_p53, List.forall_mem_cons.mpr ⟨lw_p54, List.forall_mem_cons.mpr ⟨lw_p55, List.forall_mem_cons.mpr ⟨lw_p56, List.forall_mem_cons.mpr ⟨lw_p57, List.forall_mem_cons.mpr ⟨lw_p58, List.forall_mem_cons.mpr ⟨lw_p59, List.forall_mem_cons.mpr ⟨lw_p60, List.forall_mem_cons.mpr ⟨lw_p61, List.forall_mem_cons.mpr ⟨lw_p62, List.forall_mem_cons.mpr ⟨lw_p63, fun _ h => absurd h List.not_mem_nil⟩⟩⟩⟩⟩⟩⟩⟩⟩⟩⟩⟩⟩⟩⟩⟩
theorem lw_p64 : lw_okq (⟨"SightBlocksModel", "fails", "()I"⟩, 12) := ⟨⟨by decide +kernel, by decide +kernel⟩, List.mem_of_getElem? (i := 693) (by decide +kernel), List.mem_of_getElem? (i := 982) (by decide +kernel), List.mem_of_getElem? (i := 983) (by decide +kernel)⟩
theorem lw_p65 : lw_okq (⟨"SightBlocksModel", "word", "()J"⟩, 12) := ⟨⟨by decide +kernel, by decide +kernel⟩, List.mem_of_getElem? (i := 693) (by decide +kernel), List.mem_of_getElem? (i := 986) (by decide +kernel), List.mem_of_getElem? (i := 987) (by decide +kernel)⟩
theorem lw_p66 : lw_okq (⟨"SightBlocksModel", "orderBy", "(J)I"⟩, 12) := ⟨⟨by decide +kernel, by decide +kernel⟩, List.mem_of_getElem? (i := 693) (by decide +kernel), List.mem_of_getElem? (i := 990) (by decide +kernel), List.mem_of_getElem? (i := 991) (by decide +kernel)⟩
theorem lw_p67 : lw_okq (⟨"SightBlocksModel", "isNumber", "()Z"⟩, 12) := ⟨⟨by decide +kernel, by decide +kernel⟩, List.mem_of_getElem? (i := 693) (by decide +kernel), List.mem_of_getElem? (i := 1001) (by decide +kernel), List.mem_of_getElem? (i := 1002) (by decide +kernel)⟩
theorem lw_p68 : lw_okq (⟨"SightBlocksModel", "value", "()I"⟩, 12) := ⟨⟨by decide +kernel, by decide +kernel⟩, List.mem_of_getElem? (i := 693) (by decide +kernel), List.mem_of_getElem? (i := 1005) (by decide +kernel), List.mem_of_getElem? (i := 1006) (by decide +kernel)⟩
theorem lw_p69 : lw_okq (⟨"SightBlocksModel", "done", "(I)I"⟩, 12) := ⟨⟨by decide +kernel, by decide +kernel⟩, List.mem_of_getElem? (i := 693) (by decide +kernel), List.mem_of_getElem? (i := 1009) (by decide +kernel), List.mem_of_getElem? (i := 1010) (by decide +kernel)⟩
theorem lw_p70 : lw_okq (⟨"SightBlocksModel", "many", "(III)I"⟩, 12) := ⟨⟨by decide +kernel, by decide +kernel⟩, List.mem_of_getElem? (i := 693) (by decide +kernel), List.mem_of_getElem? (i := 1017) (by decide +kernel), List.mem_of_getElem? (i := 1018) (by decide +kernel)⟩
theorem lw_p71 : lw_okq (⟨"SightBlocksModel", "greatest", "(I)I"⟩, 12) := ⟨⟨by decide +kernel, by decide +kernel⟩, List.mem_of_getElem? (i := 693) (by decide +kernel), List.mem_of_getElem? (i := 1025) (by decide +kernel), List.mem_of_getElem? (i := 1026) (by decide +kernel)⟩
def lw_privs_5 : List (MethodName × Nat) := [(⟨"SightBlocksModel", "fails", "()I"⟩, 12), (⟨"SightBlocksModel", "word", "()J"⟩, 12), (⟨"SightBlocksModel", "orderBy", "(J)I"⟩, 12), (⟨"SightBlocksModel", "isNumber", "()Z"⟩, 12), (⟨"SightBlocksModel", "value", "()I"⟩, 12), (⟨"SightBlocksModel", "done", "(I)I"⟩, 12), (⟨"SightBlocksModel", "many", "(III)I"⟩, 12), (⟨"SightBlocksModel", "greatest", "(I)I"⟩, 12)]
theorem lw_r5 : ∀ q ∈ lw_privs_5, lw_okq q := List.forall_mem_cons.mpr ⟨lw_p64, List.forall_mem_cons.mpr ⟨lw_p65, List.forall_mem_cons.mpr ⟨lw_p66, List.forall_mem_cons.mpr ⟨lw_p67, List.forall_mem_cons.mpr ⟨lw_p68, List.forall_mem_cons.mpr ⟨lw_p69, List.forall_mem_cons.mpr ⟨lw_p70, List.forall_mem_cons.mpr ⟨lw_p71, fun _ h => absurd h List.not_mem_nil⟩⟩⟩⟩⟩⟩⟩⟩
def lw_privs : List (MethodName × Nat) := lw_privs_1 ++ (lw_privs_2 ++ (lw_privs_3 ++ (lw_privs_4 ++ (lw_privs_5))))
def lw_tbl : List Cond := k2_sels lw_privs ++ tables_1
theorem lw_privs_ok : ∀ q ∈ lw_privs, lw_okq q := by
  show ∀ q ∈ lw_privs_1 ++ (lw_privs_2 ++ (lw_privs_3 ++ (lw_privs_4 ++ (lw_privs_5)))), lw_okq q
  exact List.forall_mem_append.mpr ⟨lw_r1, List.forall_mem_append.mpr ⟨lw_r2, List.forall_mem_append.mpr ⟨lw_r3, List.forall_mem_append.mpr ⟨lw_r4, lw_r5⟩⟩⟩⟩
def RX0 : String := "SightBlocks$Block"
def TX0 : u_T := fun k => match k with
  | 0 => ("SightBlocks$Block", "rows", "I", false)
  | 1 => ("SightBlocks$Block", "chairs", "I", false)
  | _ => ("SightBlocks$Block", "price", "I", false)
def tyX0 : Nat → FieldType := fun k => match k with
  | 0 => .int
  | 1 => .int
  | _ => .int
abbrev wsX00 : List Cond := u_ws RX0 TX0 3
theorem nmX0 : ∀ a, a < 3 → ∀ b, b < 3 → a ≠ b → (TX0 a).2.1 ≠ (TX0 b).2.1 := by decide +kernel
theorem tyX0_ok : ∀ k, k < 3 → parseFieldDescriptor (TX0 k).2.2.1 = some (tyX0 k) := by decide +kernel
abbrev cX0_init : ByteArray := prog_2_method_1_code
def yX0_init : MethodName := ⟨RX0, "<init>", "()V"⟩
abbrev cX0_copyFrom : ByteArray := prog_2_method_2_code
def yX0_copyFrom : MethodName := ⟨RX0, "copyFrom", "(LSightBlocks$Block;)V"⟩
def RX1 : String := "SightBlocks$Floor"
def TX1 : u_T := fun k => match k with
  | 0 => ("SightBlocks$Floor", "blocks", "[LSightBlocks$Block;", true)
  | 1 => ("SightBlocks$Floor", "taken", "[I", true)
  | 2 => ("SightBlocks$Floor", "stagesOver", "[I", true)
  | 3 => ("SightBlocks$Floor", "blockCount", "I", false)
  | 4 => ("SightBlocks$Floor", "stageCount", "I", false)
  | _ => ("SightBlocks$Floor", "stagesUp", "I", false)
def tyX1 : Nat → FieldType := fun k => match k with
  | 0 => .array (.object "SightBlocks$Block")
  | 1 => .array .int
  | 2 => .array .int
  | 3 => .int
  | 4 => .int
  | _ => .int
abbrev wsX10 : List Cond := u_ws RX1 TX1 6
theorem nmX1 : ∀ a, a < 6 → ∀ b, b < 6 → a ≠ b → (TX1 a).2.1 ≠ (TX1 b).2.1 := by decide +kernel
theorem tyX1_ok : ∀ k, k < 6 → parseFieldDescriptor (TX1 k).2.2.1 = some (tyX1 k) := by decide +kernel
abbrev cX1_init : ByteArray := prog_3_method_1_code
def yX1_init : MethodName := ⟨RX1, "<init>", "()V"⟩
abbrev cX1_copyFrom : ByteArray := prog_3_method_2_code
def yX1_copyFrom : MethodName := ⟨RX1, "copyFrom", "(LSightBlocks$Floor;)V"⟩
abbrev cX1_makeBlock : ByteArray := prog_3_method_3_code
def yX1_makeBlock : MethodName := ⟨RX1, "makeBlock", "(III)I"⟩
abbrev cX1_makeStage : ByteArray := prog_3_method_4_code
def yX1_makeStage : MethodName := ⟨RX1, "makeStage", "()I"⟩
abbrev cX1_makePiece : ByteArray := prog_3_method_5_code
def yX1_makePiece : MethodName := ⟨RX1, "makePiece", "(III)I"⟩
abbrev cX1_raiseStage : ByteArray := prog_3_method_6_code
def yX1_raiseStage : MethodName := ⟨RX1, "raiseStage", "(I)I"⟩
abbrev cX1_lowerStage : ByteArray := prog_3_method_7_code
def yX1_lowerStage : MethodName := ⟨RX1, "lowerStage", "(I)I"⟩
abbrev cX1_newlyKilled : ByteArray := prog_3_method_8_code
def yX1_newlyKilled : MethodName := ⟨RX1, "newlyKilled", "(I)I"⟩
abbrev cX1_stagesThatAreUp : ByteArray := prog_3_method_9_code
def yX1_stagesThatAreUp : MethodName := ⟨RX1, "stagesThatAreUp", "()I"⟩
abbrev cX1_blockAt : ByteArray := prog_3_method_10_code
def yX1_blockAt : MethodName := ⟨RX1, "blockAt", "(I)LSightBlocks$Block;"⟩
abbrev cX1_rankOf : ByteArray := prog_3_method_11_code
def yX1_rankOf : MethodName := ⟨RX1, "rankOf", "(I)I"⟩
abbrev cX1_priceOf : ByteArray := prog_3_method_12_code
def yX1_priceOf : MethodName := ⟨RX1, "priceOf", "(I)I"⟩
abbrev cX1_chairFigure : ByteArray := prog_3_method_13_code
def yX1_chairFigure : MethodName := ⟨RX1, "chairFigure", "(I)I"⟩
abbrev cX1_blockFigure : ByteArray := prog_3_method_14_code
def yX1_blockFigure : MethodName := ⟨RX1, "blockFigure", "(II)I"⟩
abbrev cX1_chairsIn : ByteArray := prog_3_method_15_code
def yX1_chairsIn : MethodName := ⟨RX1, "chairsIn", "()I"⟩
abbrev cX1_mark : ByteArray := prog_3_method_16_code
def yX1_mark : MethodName := ⟨RX1, "mark", "(III)V"⟩
abbrev cX1_findPlace : ByteArray := prog_3_method_17_code
def yX1_findPlace : MethodName := ⟨RX1, "findPlace", "(II)I"⟩
abbrev cX1_greatestGroup : ByteArray := prog_3_method_18_code
def yX1_greatestGroup : MethodName := ⟨RX1, "greatestGroup", "(I)I"⟩
abbrev cX1_cheapestFor : ByteArray := prog_3_method_19_code
def yX1_cheapestFor : MethodName := ⟨RX1, "cheapestFor", "(I)I"⟩
abbrev cX1_upgradeFor : ByteArray := prog_3_method_20_code
def yX1_upgradeFor : MethodName := ⟨RX1, "upgradeFor", "(II)I"⟩
abbrev cX1_isGroup : ByteArray := prog_3_method_21_code
def yX1_isGroup : MethodName := ⟨RX1, "isGroup", "(I)Z"⟩
abbrev cX1_isStage : ByteArray := prog_3_method_22_code
def yX1_isStage : MethodName := ⟨RX1, "isStage", "(I)Z"⟩
abbrev cX1_isUp : ByteArray := prog_3_method_23_code
def yX1_isUp : MethodName := ⟨RX1, "isUp", "(I)Z"⟩
abbrev cX1_isChair : ByteArray := prog_3_method_24_code
def yX1_isChair : MethodName := ⟨RX1, "isChair", "(I)Z"⟩
abbrev cX1_isPiece : ByteArray := prog_3_method_25_code
def yX1_isPiece : MethodName := ⟨RX1, "isPiece", "(II)Z"⟩
abbrev cX1_chairsUnder : ByteArray := prog_3_method_26_code
def yX1_chairsUnder : MethodName := ⟨RX1, "chairsUnder", "(I)I"⟩
abbrev cX1_hasTakenChairUnder : ByteArray := prog_3_method_27_code
def yX1_hasTakenChairUnder : MethodName := ⟨RX1, "hasTakenChairUnder", "(I)Z"⟩
abbrev cX1_chairsThatAre : ByteArray := prog_3_method_28_code
def yX1_chairsThatAre : MethodName := ⟨RX1, "chairsThatAre", "(II)I"⟩
abbrev cX1_usableIn : ByteArray := prog_3_method_29_code
def yX1_usableIn : MethodName := ⟨RX1, "usableIn", "(I)I"⟩
abbrev cX1_usableInRow : ByteArray := prog_3_method_30_code
def yX1_usableInRow : MethodName := ⟨RX1, "usableInRow", "(LSightBlocks$Block;II)I"⟩
abbrev cX1_hasRoom : ByteArray := prog_3_method_31_code
def yX1_hasRoom : MethodName := ⟨RX1, "hasRoom", "(III)Z"⟩
abbrev cX1_leftAlone : ByteArray := prog_3_method_32_code
def yX1_leftAlone : MethodName := ⟨RX1, "leftAlone", "(III)I"⟩
def RX2 : String := "SightBlocks$History"
def TX2 : u_T := fun k => match k with
  | 0 => ("SightBlocks$History", "ring", "[LSightBlocks$Stadium;", true)
  | 1 => ("SightBlocks$History", "oldest", "I", false)
  | _ => ("SightBlocks$History", "size", "I", false)
def tyX2 : Nat → FieldType := fun k => match k with
  | 0 => .array (.object "SightBlocks$Stadium")
  | 1 => .int
  | _ => .int
abbrev wsX20 : List Cond := u_ws RX2 TX2 3
theorem nmX2 : ∀ a, a < 3 → ∀ b, b < 3 → a ≠ b → (TX2 a).2.1 ≠ (TX2 b).2.1 := by decide +kernel
theorem tyX2_ok : ∀ k, k < 3 → parseFieldDescriptor (TX2 k).2.2.1 = some (tyX2 k) := by decide +kernel
abbrev cX2_init : ByteArray := prog_4_method_1_code
def yX2_init : MethodName := ⟨RX2, "<init>", "()V"⟩
abbrev cX2_prepare : ByteArray := prog_4_method_2_code
def yX2_prepare : MethodName := ⟨RX2, "prepare", "(LSightBlocks$Stadium;)V"⟩
abbrev cX2_keepPrepared : ByteArray := prog_4_method_3_code
def yX2_keepPrepared : MethodName := ⟨RX2, "keepPrepared", "()V"⟩
abbrev cX2_takeBack : ByteArray := prog_4_method_4_code
def yX2_takeBack : MethodName := ⟨RX2, "takeBack", "(LSightBlocks$Stadium;)V"⟩
abbrev cX2_stepBack : ByteArray := prog_4_method_5_code
def yX2_stepBack : MethodName := ⟨RX2, "stepBack", "(LSightBlocks$Stadium;)I"⟩
def RX3 : String := "SightBlocks$Hold"
def TX3 : u_T := fun k => match k with
  | 0 => ("SightBlocks$Hold", "state", "I", false)
  | 1 => ("SightBlocks$Hold", "first", "I", false)
  | 2 => ("SightBlocks$Hold", "many", "I", false)
  | 3 => ("SightBlocks$Hold", "expiry", "I", false)
  | _ => ("SightBlocks$Hold", "ticket", "I", false)
def tyX3 : Nat → FieldType := fun k => match k with
  | 0 => .int
  | 1 => .int
  | 2 => .int
  | 3 => .int
  | _ => .int
abbrev wsX30 : List Cond := u_ws RX3 TX3 5
theorem nmX3 : ∀ a, a < 5 → ∀ b, b < 5 → a ≠ b → (TX3 a).2.1 ≠ (TX3 b).2.1 := by decide +kernel
theorem tyX3_ok : ∀ k, k < 5 → parseFieldDescriptor (TX3 k).2.2.1 = some (tyX3 k) := by decide +kernel
abbrev cX3_init : ByteArray := prog_5_method_1_code
def yX3_init : MethodName := ⟨RX3, "<init>", "()V"⟩
abbrev cX3_copyFrom : ByteArray := prog_5_method_2_code
def yX3_copyFrom : MethodName := ⟨RX3, "copyFrom", "(LSightBlocks$Hold;)V"⟩
def RX4 : String := "SightBlocks$Program"
def TX4 : u_T := fun k => match k with
  | 0 => ("SightBlocks$Program", "text", "[C", true)
  | 1 => ("SightBlocks$Program", "numbers", "[I", true)
  | 2 => ("SightBlocks$Program", "length", "I", false)
  | 3 => ("SightBlocks$Program", "tokenStart", "I", false)
  | _ => ("SightBlocks$Program", "tokenEnd", "I", false)
def tyX4 : Nat → FieldType := fun k => match k with
  | 0 => .array .char
  | 1 => .array .int
  | 2 => .int
  | 3 => .int
  | _ => .int
abbrev wsX40 : List Cond := u_ws RX4 TX4 5
theorem nmX4 : ∀ a, a < 5 → ∀ b, b < 5 → a ≠ b → (TX4 a).2.1 ≠ (TX4 b).2.1 := by decide +kernel
theorem tyX4_ok : ∀ k, k < 5 → parseFieldDescriptor (TX4 k).2.2.1 = some (tyX4 k) := by decide +kernel
abbrev cX4_init : ByteArray := prog_6_method_1_code
def yX4_init : MethodName := ⟨RX4, "<init>", "()V"⟩
abbrev cX4_addCharacter : ByteArray := prog_6_method_2_code
def yX4_addCharacter : MethodName := ⟨RX4, "addCharacter", "(I)I"⟩
abbrev cX4_makeEmpty : ByteArray := prog_6_method_3_code
def yX4_makeEmpty : MethodName := ⟨RX4, "makeEmpty", "()I"⟩
abbrev cX4_runOn : ByteArray := prog_6_method_4_code
def yX4_runOn : MethodName := ⟨RX4, "runOn", "(LSightBlocks$Stadium;)I"⟩
abbrev cX4_runOrder : ByteArray := prog_6_method_5_code
def yX4_runOrder : MethodName := ⟨RX4, "runOrder", "(LSightBlocks$Stadium;)I"⟩
abbrev cX4_perform : ByteArray := prog_6_method_6_code
def yX4_perform : MethodName := ⟨RX4, "perform", "(ILSightBlocks$Stadium;)I"⟩
abbrev cX4_orderOfToken : ByteArray := prog_6_method_7_code
def yX4_orderOfToken : MethodName := ⟨RX4, "orderOfToken", "()I"⟩
abbrev cX4_readToken : ByteArray := prog_6_method_8_code
def yX4_readToken : MethodName := ⟨RX4, "readToken", "()V"⟩
abbrev cX4_tokenIs : ByteArray := prog_6_method_9_code
def yX4_tokenIs : MethodName := ⟨RX4, "tokenIs", "(Ljava/lang/String;)Z"⟩
abbrev cX4_numberOfToken : ByteArray := prog_6_method_10_code
def yX4_numberOfToken : MethodName := ⟨RX4, "numberOfToken", "()I"⟩
abbrev cX4_kindOf : ByteArray := prog_6_method_11_code
def yX4_kindOf : MethodName := ⟨RX4, "kindOf", "(C)I"⟩
def RX5 : String := "SightBlocks$Stadium"
def TX5 : u_T := fun k => match k with
  | 0 => ("SightBlocks$Stadium", "floor", "LSightBlocks$Floor;", true)
  | 1 => ("SightBlocks$Stadium", "holds", "[LSightBlocks$Hold;", true)
  | 2 => ("SightBlocks$Stadium", "tickets", "[LSightBlocks$Ticket;", true)
  | 3 => ("SightBlocks$Stadium", "holdCount", "I", false)
  | 4 => ("SightBlocks$Stadium", "ticketCount", "I", false)
  | 5 => ("SightBlocks$Stadium", "minute", "I", false)
  | 6 => ("SightBlocks$Stadium", "closed", "Z", false)
  | 7 => ("SightBlocks$Stadium", "paid", "I", false)
  | 8 => ("SightBlocks$Stadium", "paidBack", "I", false)
  | _ => ("SightBlocks$Stadium", "moves", "I", false)
def tyX5 : Nat → FieldType := fun k => match k with
  | 0 => .object "SightBlocks$Floor"
  | 1 => .array (.object "SightBlocks$Hold")
  | 2 => .array (.object "SightBlocks$Ticket")
  | 3 => .int
  | 4 => .int
  | 5 => .int
  | 6 => .boolean
  | 7 => .int
  | 8 => .int
  | _ => .int
abbrev wsX50 : List Cond := u_ws RX5 TX5 10
theorem nmX5 : ∀ a, a < 10 → ∀ b, b < 10 → a ≠ b → (TX5 a).2.1 ≠ (TX5 b).2.1 := by decide +kernel
theorem tyX5_ok : ∀ k, k < 10 → parseFieldDescriptor (TX5 k).2.2.1 = some (tyX5 k) := by decide +kernel
abbrev cX5_init : ByteArray := prog_7_method_1_code
def yX5_init : MethodName := ⟨RX5, "<init>", "()V"⟩
abbrev cX5_copyFrom : ByteArray := prog_7_method_2_code
def yX5_copyFrom : MethodName := ⟨RX5, "copyFrom", "(LSightBlocks$Stadium;)V"⟩
abbrev cX5_makeHold : ByteArray := prog_7_method_3_code
def yX5_makeHold : MethodName := ⟨RX5, "makeHold", "(III)I"⟩
abbrev cX5_buyHold : ByteArray := prog_7_method_4_code
def yX5_buyHold : MethodName := ⟨RX5, "buyHold", "(I)I"⟩
abbrev cX5_dropHold : ByteArray := prog_7_method_5_code
def yX5_dropHold : MethodName := ⟨RX5, "dropHold", "(I)I"⟩
abbrev cX5_returnTicket : ByteArray := prog_7_method_6_code
def yX5_returnTicket : MethodName := ⟨RX5, "returnTicket", "(I)I"⟩
abbrev cX5_admit : ByteArray := prog_7_method_7_code
/-- this method as the tables name it: its own word is one that rows may not hold -/
def yX5_admit : MethodName := match (tables_1_2[162]? : Option Cond) with
  | some (Cond.instanceMethod m) => m
  | _ => ⟨RX5, "", "(I)I"⟩
abbrev cX5_upgradeTicket : ByteArray := prog_7_method_8_code
def yX5_upgradeTicket : MethodName := ⟨RX5, "upgradeTicket", "(I)I"⟩
abbrev cX5_moveChain : ByteArray := prog_7_method_9_code
def yX5_moveChain : MethodName := ⟨RX5, "moveChain", "(I)I"⟩
abbrev cX5_letPass : ByteArray := prog_7_method_10_code
def yX5_letPass : MethodName := ⟨RX5, "letPass", "(I)I"⟩
abbrev cX5_shutDoors : ByteArray := prog_7_method_11_code
def yX5_shutDoors : MethodName := ⟨RX5, "shutDoors", "()I"⟩
abbrev cX5_numberOf : ByteArray := prog_7_method_12_code
def yX5_numberOf : MethodName := ⟨RX5, "numberOf", "(I)I"⟩
abbrev cX5_holdFigure : ByteArray := prog_7_method_13_code
def yX5_holdFigure : MethodName := ⟨RX5, "holdFigure", "(II)I"⟩
abbrev cX5_ticketFigure : ByteArray := prog_7_method_14_code
def yX5_ticketFigure : MethodName := ⟨RX5, "ticketFigure", "(II)I"⟩
abbrev cX5_minutesToExpiry : ByteArray := prog_7_method_15_code
def yX5_minutesToExpiry : MethodName := ⟨RX5, "minutesToExpiry", "()I"⟩
abbrev cX5_ticketAt : ByteArray := prog_7_method_16_code
def yX5_ticketAt : MethodName := ⟨RX5, "ticketAt", "(I)LSightBlocks$Ticket;"⟩
abbrev cX5_holdAt : ByteArray := prog_7_method_17_code
def yX5_holdAt : MethodName := ⟨RX5, "holdAt", "(I)LSightBlocks$Hold;"⟩
abbrev cX5_moveTicket : ByteArray := prog_7_method_18_code
def yX5_moveTicket : MethodName := ⟨RX5, "moveTicket", "(II)I"⟩
abbrev cX5_nextMover : ByteArray := prog_7_method_19_code
def yX5_nextMover : MethodName := ⟨RX5, "nextMover", "(I)I"⟩
abbrev cX5_isWait : ByteArray := prog_7_method_20_code
def yX5_isWait : MethodName := ⟨RX5, "isWait", "(I)Z"⟩
abbrev cX5_openHolds : ByteArray := prog_7_method_21_code
def yX5_openHolds : MethodName := ⟨RX5, "openHolds", "()I"⟩
abbrev cX5_ticketsThatAre : ByteArray := prog_7_method_22_code
def yX5_ticketsThatAre : MethodName := ⟨RX5, "ticketsThatAre", "(I)I"⟩
def RX6 : String := "SightBlocks$Ticket"
def TX6 : u_T := fun k => match k with
  | 0 => ("SightBlocks$Ticket", "state", "I", false)
  | 1 => ("SightBlocks$Ticket", "first", "I", false)
  | 2 => ("SightBlocks$Ticket", "many", "I", false)
  | 3 => ("SightBlocks$Ticket", "paid", "I", false)
  | _ => ("SightBlocks$Ticket", "moves", "I", false)
def tyX6 : Nat → FieldType := fun k => match k with
  | 0 => .int
  | 1 => .int
  | 2 => .int
  | 3 => .int
  | _ => .int
abbrev wsX60 : List Cond := u_ws RX6 TX6 5
theorem nmX6 : ∀ a, a < 5 → ∀ b, b < 5 → a ≠ b → (TX6 a).2.1 ≠ (TX6 b).2.1 := by decide +kernel
theorem tyX6_ok : ∀ k, k < 5 → parseFieldDescriptor (TX6 k).2.2.1 = some (tyX6 k) := by decide +kernel
abbrev cX6_init : ByteArray := prog_8_method_1_code
def yX6_init : MethodName := ⟨RX6, "<init>", "()V"⟩
abbrev cX6_copyFrom : ByteArray := prog_8_method_2_code
def yX6_copyFrom : MethodName := ⟨RX6, "copyFrom", "(LSightBlocks$Ticket;)V"⟩
def RX7 : String := "SightBlocks"
def TX7 : u_T := fun k => match k with
  | 0 => ("SightBlocks", "stadium", "LSightBlocks$Stadium;", true)
  | 1 => ("SightBlocks", "trial", "LSightBlocks$Stadium;", true)
  | 2 => ("SightBlocks", "history", "LSightBlocks$History;", true)
  | _ => ("SightBlocks", "program", "LSightBlocks$Program;", true)
def tyX7 : Nat → FieldType := fun k => match k with
  | 0 => .object "SightBlocks$Stadium"
  | 1 => .object "SightBlocks$Stadium"
  | 2 => .object "SightBlocks$History"
  | _ => .object "SightBlocks$Program"
abbrev wsX70 : List Cond := u_ws RX7 TX7 4
theorem nmX7 : ∀ a, a < 4 → ∀ b, b < 4 → a ≠ b → (TX7 a).2.1 ≠ (TX7 b).2.1 := by decide +kernel
theorem tyX7_ok : ∀ k, k < 4 → parseFieldDescriptor (TX7 k).2.2.1 = some (tyX7 k) := by decide +kernel
abbrev cX7_init : ByteArray := prog_1_method_1_code
def yX7_init : MethodName := ⟨RX7, "<init>", "()V"⟩
abbrev cX7_addBlock : ByteArray := prog_1_method_2_code
def yX7_addBlock : MethodName := ⟨RX7, "addBlock", "(III)I"⟩
abbrev cX7_addStage : ByteArray := prog_1_method_3_code
def yX7_addStage : MethodName := ⟨RX7, "addStage", "()I"⟩
abbrev cX7_addPiece : ByteArray := prog_1_method_4_code
def yX7_addPiece : MethodName := ⟨RX7, "addPiece", "(III)I"⟩
abbrev cX7_putUp : ByteArray := prog_1_method_5_code
def yX7_putUp : MethodName := ⟨RX7, "putUp", "(I)I"⟩
abbrev cX7_takeDown : ByteArray := prog_1_method_6_code
def yX7_takeDown : MethodName := ⟨RX7, "takeDown", "(I)I"⟩
abbrev cX7_hold : ByteArray := prog_1_method_7_code
def yX7_hold : MethodName := ⟨RX7, "hold", "(III)I"⟩
abbrev cX7_buy : ByteArray := prog_1_method_8_code
def yX7_buy : MethodName := ⟨RX7, "buy", "(I)I"⟩
abbrev cX7_drop : ByteArray := prog_1_method_9_code
def yX7_drop : MethodName := ⟨RX7, "drop", "(I)I"⟩
abbrev cX7_giveBack : ByteArray := prog_1_method_10_code
def yX7_giveBack : MethodName := ⟨RX7, "giveBack", "(I)I"⟩
abbrev cX7_comeIn : ByteArray := prog_1_method_11_code
def yX7_comeIn : MethodName := ⟨RX7, "comeIn", "(I)I"⟩
abbrev cX7_upgrade : ByteArray := prog_1_method_12_code
def yX7_upgrade : MethodName := ⟨RX7, "upgrade", "(I)I"⟩
abbrev cX7_pass : ByteArray := prog_1_method_13_code
def yX7_pass : MethodName := ⟨RX7, "pass", "(I)I"⟩
abbrev cX7_closeDoors : ByteArray := prog_1_method_14_code
def yX7_closeDoors : MethodName := ⟨RX7, "closeDoors", "()I"⟩
abbrev cX7_undo : ByteArray := prog_1_method_15_code
def yX7_undo : MethodName := ⟨RX7, "undo", "()I"⟩
abbrev cX7_append : ByteArray := prog_1_method_16_code
def yX7_append : MethodName := ⟨RX7, "append", "(I)I"⟩
abbrev cX7_clearText : ByteArray := prog_1_method_17_code
def yX7_clearText : MethodName := ⟨RX7, "clearText", "()I"⟩
abbrev cX7_run : ByteArray := prog_1_method_18_code
def yX7_run : MethodName := ⟨RX7, "run", "()I"⟩
abbrev cX7_count : ByteArray := prog_1_method_19_code
def yX7_count : MethodName := ⟨RX7, "count", "(I)I"⟩
abbrev cX7_block : ByteArray := prog_1_method_20_code
def yX7_block : MethodName := ⟨RX7, "block", "(II)I"⟩
abbrev cX7_chair : ByteArray := prog_1_method_21_code
def yX7_chair : MethodName := ⟨RX7, "chair", "(I)I"⟩
abbrev cX7_holdOf : ByteArray := prog_1_method_22_code
def yX7_holdOf : MethodName := ⟨RX7, "holdOf", "(II)I"⟩
abbrev cX7_ticket : ByteArray := prog_1_method_23_code
def yX7_ticket : MethodName := ⟨RX7, "ticket", "(II)I"⟩
abbrev cX7_place : ByteArray := prog_1_method_24_code
def yX7_place : MethodName := ⟨RX7, "place", "(II)I"⟩
abbrev cX7_wouldKill : ByteArray := prog_1_method_25_code
def yX7_wouldKill : MethodName := ⟨RX7, "wouldKill", "(I)I"⟩
abbrev cX7_chain : ByteArray := prog_1_method_26_code
def yX7_chain : MethodName := ⟨RX7, "chain", "(I)I"⟩
abbrev cX7_cheapest : ByteArray := prog_1_method_27_code
def yX7_cheapest : MethodName := ⟨RX7, "cheapest", "(I)I"⟩
abbrev cX7_nextExpiry : ByteArray := prog_1_method_28_code
def yX7_nextExpiry : MethodName := ⟨RX7, "nextExpiry", "()I"⟩
abbrev cX7_recorded : ByteArray := prog_1_method_29_code
def yX7_recorded : MethodName := ⟨RX7, "recorded", "(I)I"⟩
def RX8 : String := "SightBlocksModel"
def TX8 : u_T := fun k => match k with
  | 0 => ("SightBlocksModel", "thrown", "I", false)
  | 1 => ("SightBlocksModel", "now", "[I", true)
  | 2 => ("SightBlocksModel", "put", "[I", true)
  | 3 => ("SightBlocksModel", "was", "[I", true)
  | 4 => ("SightBlocksModel", "acts", "I", false)
  | 5 => ("SightBlocksModel", "text", "[I", true)
  | 6 => ("SightBlocksModel", "typed", "I", false)
  | 7 => ("SightBlocksModel", "moved", "I", false)
  | 8 => ("SightBlocksModel", "start", "I", false)
  | 9 => ("SightBlocksModel", "till", "I", false)
  | 10 => ("SightBlocksModel", "sort", "I", false)
  | _ => ("SightBlocksModel", "numbers", "[I", true)
def tyX8 : Nat → FieldType := fun k => match k with
  | 0 => .int
  | 1 => .array .int
  | 2 => .array .int
  | 3 => .array .int
  | 4 => .int
  | 5 => .array .int
  | 6 => .int
  | 7 => .int
  | 8 => .int
  | 9 => .int
  | 10 => .int
  | _ => .array .int
abbrev wsX80 : List Cond := u_ws RX8 TX8 12
theorem nmX8 : ∀ a, a < 12 → ∀ b, b < 12 → a ≠ b → (TX8 a).2.1 ≠ (TX8 b).2.1 := by decide +kernel
theorem tyX8_ok : ∀ k, k < 12 → parseFieldDescriptor (TX8 k).2.2.1 = some (tyX8 k) := by decide +kernel
abbrev cX8_init : ByteArray := prog_10_method_1_code
def yX8_init : MethodName := ⟨RX8, "<init>", "()V"⟩
abbrev cX8_in : ByteArray := prog_10_method_3_code
def yX8_in : MethodName := ⟨RX8, "in", "(III)Z"⟩
abbrev cX8_record : ByteArray := prog_10_method_4_code
def yX8_record : MethodName := ⟨RX8, "record", "()V"⟩
abbrev cX8_keep : ByteArray := prog_10_method_5_code
def yX8_keep : MethodName := ⟨RX8, "keep", "()V"⟩
abbrev cX8_of : ByteArray := prog_10_method_6_code
def yX8_of : MethodName := ⟨RX8, "of", "(II)I"⟩
abbrev cX8_isBlock : ByteArray := prog_10_method_7_code
def yX8_isBlock : MethodName := ⟨RX8, "isBlock", "(I)Z"⟩
abbrev cX8_isStage : ByteArray := prog_10_method_8_code
def yX8_isStage : MethodName := ⟨RX8, "isStage", "(I)Z"⟩
abbrev cX8_isHold : ByteArray := prog_10_method_9_code
def yX8_isHold : MethodName := ⟨RX8, "isHold", "(I)Z"⟩
abbrev cX8_isTicket : ByteArray := prog_10_method_10_code
def yX8_isTicket : MethodName := ⟨RX8, "isTicket", "(I)Z"⟩
abbrev cX8_ofHold : ByteArray := prog_10_method_11_code
def yX8_ofHold : MethodName := ⟨RX8, "ofHold", "(II)I"⟩
abbrev cX8_ofTicket : ByteArray := prog_10_method_12_code
def yX8_ofTicket : MethodName := ⟨RX8, "ofTicket", "(II)I"⟩
abbrev cX8_isUp : ByteArray := prog_10_method_13_code
def yX8_isUp : MethodName := ⟨RX8, "isUp", "(I)Z"⟩
abbrev cX8_isChair : ByteArray := prog_10_method_14_code
def yX8_isChair : MethodName := ⟨RX8, "isChair", "(I)Z"⟩
abbrev cX8_atChair : ByteArray := prog_10_method_15_code
def yX8_atChair : MethodName := ⟨RX8, "atChair", "(I)I"⟩
abbrev cX8_isWhat : ByteArray := prog_10_method_16_code
def yX8_isWhat : MethodName := ⟨RX8, "isWhat", "(I)I"⟩
abbrev cX8_isKilled : ByteArray := prog_10_method_17_code
def yX8_isKilled : MethodName := ⟨RX8, "isKilled", "(I)Z"⟩
abbrev cX8_isFor : ByteArray := prog_10_method_18_code
def yX8_isFor : MethodName := ⟨RX8, "isFor", "(II)Z"⟩
abbrev cX8_become : ByteArray := prog_10_method_19_code
def yX8_become : MethodName := ⟨RX8, "become", "(III)V"⟩
abbrev cX8_isOpen : ByteArray := prog_10_method_20_code
def yX8_isOpen : MethodName := ⟨RX8, "isOpen", "(II)Z"⟩
abbrev cX8_areOpen : ByteArray := prog_10_method_21_code
def yX8_areOpen : MethodName := ⟨RX8, "areOpen", "(III)Z"⟩
abbrev cX8_leftAlone : ByteArray := prog_10_method_22_code
def yX8_leftAlone : MethodName := ⟨RX8, "leftAlone", "(III)I"⟩
abbrev cX8_placeIn : ByteArray := prog_10_method_23_code
def yX8_placeIn : MethodName := ⟨RX8, "placeIn", "(II)I"⟩
abbrev cX8_rank : ByteArray := prog_10_method_24_code
def yX8_rank : MethodName := ⟨RX8, "rank", "(I)I"⟩
abbrev cX8_counted : ByteArray := prog_10_method_25_code
def yX8_counted : MethodName := ⟨RX8, "counted", "(II)I"⟩
abbrev cX8_countedAll : ByteArray := prog_10_method_26_code
def yX8_countedAll : MethodName := ⟨RX8, "countedAll", "(I)I"⟩
abbrev cX8_addBlock : ByteArray := prog_10_method_27_code
def yX8_addBlock : MethodName := ⟨RX8, "addBlock", "(III)I"⟩
abbrev cX8_addStage : ByteArray := prog_10_method_28_code
def yX8_addStage : MethodName := ⟨RX8, "addStage", "()I"⟩
abbrev cX8_isPiece : ByteArray := prog_10_method_29_code
def yX8_isPiece : MethodName := ⟨RX8, "isPiece", "(II)Z"⟩
abbrev cX8_killedBy : ByteArray := prog_10_method_30_code
def yX8_killedBy : MethodName := ⟨RX8, "killedBy", "(IZZ)I"⟩
abbrev cX8_addPiece : ByteArray := prog_10_method_31_code
def yX8_addPiece : MethodName := ⟨RX8, "addPiece", "(III)I"⟩
abbrev cX8_puts : ByteArray := prog_10_method_32_code
def yX8_puts : MethodName := ⟨RX8, "puts", "(I)I"⟩
abbrev cX8_acted : ByteArray := prog_10_method_33_code
def yX8_acted : MethodName := ⟨RX8, "acted", "(I)I"⟩
abbrev cX8_aside : ByteArray := prog_10_method_34_code
def yX8_aside : MethodName := ⟨RX8, "aside", "()V"⟩
abbrev cX8_putUp : ByteArray := prog_10_method_35_code
def yX8_putUp : MethodName := ⟨RX8, "putUp", "(I)I"⟩
abbrev cX8_takeDown : ByteArray := prog_10_method_36_code
def yX8_takeDown : MethodName := ⟨RX8, "takeDown", "(I)I"⟩
abbrev cX8_holds : ByteArray := prog_10_method_37_code
def yX8_holds : MethodName := ⟨RX8, "holds", "(III)I"⟩
abbrev cX8_hold : ByteArray := prog_10_method_38_code
def yX8_hold : MethodName := ⟨RX8, "hold", "(III)I"⟩
abbrev cX8_buys : ByteArray := prog_10_method_39_code
def yX8_buys : MethodName := ⟨RX8, "buys", "(I)I"⟩
abbrev cX8_buy : ByteArray := prog_10_method_40_code
def yX8_buy : MethodName := ⟨RX8, "buy", "(I)I"⟩
abbrev cX8_drops : ByteArray := prog_10_method_41_code
def yX8_drops : MethodName := ⟨RX8, "drops", "(I)I"⟩
abbrev cX8_drop : ByteArray := prog_10_method_42_code
def yX8_drop : MethodName := ⟨RX8, "drop", "(I)I"⟩
abbrev cX8_ends : ByteArray := prog_10_method_43_code
def yX8_ends : MethodName := ⟨RX8, "ends", "(III)V"⟩
abbrev cX8_whyNot : ByteArray := prog_10_method_44_code
def yX8_whyNot : MethodName := ⟨RX8, "whyNot", "(I)I"⟩
abbrev cX8_givesBack : ByteArray := prog_10_method_45_code
def yX8_givesBack : MethodName := ⟨RX8, "givesBack", "(I)I"⟩
abbrev cX8_giveBack : ByteArray := prog_10_method_46_code
def yX8_giveBack : MethodName := ⟨RX8, "giveBack", "(I)I"⟩
abbrev cX8_comes : ByteArray := prog_10_method_47_code
def yX8_comes : MethodName := ⟨RX8, "comes", "(I)I"⟩
abbrev cX8_comeIn : ByteArray := prog_10_method_48_code
def yX8_comeIn : MethodName := ⟨RX8, "comeIn", "(I)I"⟩
abbrev cX8_better : ByteArray := prog_10_method_49_code
def yX8_better : MethodName := ⟨RX8, "better", "(I)I"⟩
abbrev cX8_moves : ByteArray := prog_10_method_50_code
def yX8_moves : MethodName := ⟨RX8, "moves", "(II)V"⟩
abbrev cX8_follower : ByteArray := prog_10_method_51_code
def yX8_follower : MethodName := ⟨RX8, "follower", "(I)I"⟩
abbrev cX8_chains : ByteArray := prog_10_method_52_code
def yX8_chains : MethodName := ⟨RX8, "chains", "(I)I"⟩
abbrev cX8_upgrade : ByteArray := prog_10_method_53_code
def yX8_upgrade : MethodName := ⟨RX8, "upgrade", "(I)I"⟩
abbrev cX8_passes : ByteArray := prog_10_method_54_code
def yX8_passes : MethodName := ⟨RX8, "passes", "(I)I"⟩
abbrev cX8_pass : ByteArray := prog_10_method_55_code
def yX8_pass : MethodName := ⟨RX8, "pass", "(I)I"⟩
abbrev cX8_closeDoors : ByteArray := prog_10_method_56_code
def yX8_closeDoors : MethodName := ⟨RX8, "closeDoors", "()I"⟩
abbrev cX8_undo : ByteArray := prog_10_method_57_code
def yX8_undo : MethodName := ⟨RX8, "undo", "()I"⟩
abbrev cX8_append : ByteArray := prog_10_method_58_code
def yX8_append : MethodName := ⟨RX8, "append", "(I)I"⟩
abbrev cX8_clearText : ByteArray := prog_10_method_59_code
def yX8_clearText : MethodName := ⟨RX8, "clearText", "()I"⟩
abbrev cX8_byteAt : ByteArray := prog_10_method_60_code
def yX8_byteAt : MethodName := ⟨RX8, "byteAt", "(I)I"⟩
abbrev cX8_isLetter : ByteArray := prog_10_method_61_code
def yX8_isLetter : MethodName := ⟨RX8, "isLetter", "(I)Z"⟩
abbrev cX8_isFigure : ByteArray := prog_10_method_62_code
def yX8_isFigure : MethodName := ⟨RX8, "isFigure", "(I)Z"⟩
abbrev cX8_next : ByteArray := prog_10_method_63_code
def yX8_next : MethodName := ⟨RX8, "next", "()V"⟩
abbrev cX8_word : ByteArray := prog_10_method_64_code
def yX8_word : MethodName := ⟨RX8, "word", "()J"⟩
abbrev cX8_orderBy : ByteArray := prog_10_method_65_code
def yX8_orderBy : MethodName := ⟨RX8, "orderBy", "(J)I"⟩
abbrev cX8_isNumber : ByteArray := prog_10_method_66_code
def yX8_isNumber : MethodName := ⟨RX8, "isNumber", "()Z"⟩
abbrev cX8_value : ByteArray := prog_10_method_67_code
def yX8_value : MethodName := ⟨RX8, "value", "()I"⟩
abbrev cX8_done : ByteArray := prog_10_method_68_code
def yX8_done : MethodName := ⟨RX8, "done", "(I)I"⟩
abbrev cX8_fails : ByteArray := prog_10_method_69_code
def yX8_fails : MethodName := ⟨RX8, "fails", "()I"⟩
abbrev cX8_run : ByteArray := prog_10_method_70_code
def yX8_run : MethodName := ⟨RX8, "run", "()I"⟩
abbrev cX8_many : ByteArray := prog_10_method_71_code
def yX8_many : MethodName := ⟨RX8, "many", "(III)I"⟩
abbrev cX8_count : ByteArray := prog_10_method_72_code
def yX8_count : MethodName := ⟨RX8, "count", "(I)I"⟩
abbrev cX8_greatest : ByteArray := prog_10_method_73_code
def yX8_greatest : MethodName := ⟨RX8, "greatest", "(I)I"⟩
abbrev cX8_block : ByteArray := prog_10_method_74_code
def yX8_block : MethodName := ⟨RX8, "block", "(II)I"⟩
abbrev cX8_chair : ByteArray := prog_10_method_75_code
def yX8_chair : MethodName := ⟨RX8, "chair", "(I)I"⟩
abbrev cX8_holdOf : ByteArray := prog_10_method_76_code
def yX8_holdOf : MethodName := ⟨RX8, "holdOf", "(II)I"⟩
abbrev cX8_ticket : ByteArray := prog_10_method_77_code
def yX8_ticket : MethodName := ⟨RX8, "ticket", "(II)I"⟩
abbrev cX8_place : ByteArray := prog_10_method_78_code
def yX8_place : MethodName := ⟨RX8, "place", "(II)I"⟩
abbrev cX8_wouldKill : ByteArray := prog_10_method_79_code
def yX8_wouldKill : MethodName := ⟨RX8, "wouldKill", "(I)I"⟩
abbrev cX8_chain : ByteArray := prog_10_method_80_code
def yX8_chain : MethodName := ⟨RX8, "chain", "(I)I"⟩
abbrev cX8_cheapest : ByteArray := prog_10_method_81_code
def yX8_cheapest : MethodName := ⟨RX8, "cheapest", "(I)I"⟩
abbrev cX8_nextExpiry : ByteArray := prog_10_method_82_code
def yX8_nextExpiry : MethodName := ⟨RX8, "nextExpiry", "()I"⟩
def RJ6 : String := "java/lang/Integer"
abbrev cJ6_bitCount_0f7a4 : ByteArray := prog_11_method_49_code
def yJ6_bitCount_0f7a4 : MethodName := ⟨RJ6, "bitCount", "(I)I"⟩
def RJ0 : String := "java/lang/String"
abbrev cJ0_length_8abf5 : ByteArray := prog_12_method_54_code
def yJ0_length_8abf5 : MethodName := ⟨RJ0, "length", "()I"⟩
abbrev cJ0_charAt_5068e : ByteArray := prog_12_method_56_code
def yJ0_charAt_5068e : MethodName := ⟨RJ0, "charAt", "(I)C"⟩
abbrev cJ0_coder_7d493 : ByteArray := prog_12_method_152_code
def yJ0_coder_7d493 : MethodName := ⟨RJ0, "coder", "()B"⟩
abbrev cJ0_isLatin1_aae02 : ByteArray := prog_12_method_154_code
def yJ0_isLatin1_aae02 : MethodName := ⟨RJ0, "isLatin1", "()Z"⟩
abbrev cJ0_checkIndex_df160 : ByteArray := prog_12_method_155_code
def yJ0_checkIndex_df160 : MethodName := ⟨RJ0, "checkIndex", "(II)V"⟩
def RJ1 : String := "java/lang/StringLatin1"
abbrev cJ1_charAt_3b067 : ByteArray := prog_13_method_2_code
def yJ1_charAt_3b067 : MethodName := ⟨RJ1, "charAt", "([BI)C"⟩
def RJ2 : String := "java/lang/StringUTF16"
abbrev cJ2_getChar_3b067 : ByteArray := prog_14_method_5_code
def yJ2_getChar_3b067 : MethodName := ⟨RJ2, "getChar", "([BI)C"⟩
abbrev cJ2_length_9d52b : ByteArray := prog_14_method_6_code
def yJ2_length_9d52b : MethodName := ⟨RJ2, "length", "([B)I"⟩
abbrev cJ2_charAt_3b067 : ByteArray := prog_14_method_83_code
def yJ2_charAt_3b067 : MethodName := ⟨RJ2, "charAt", "([BI)C"⟩
abbrev cJ2_checkIndex_2214a : ByteArray := prog_14_method_91_code
def yJ2_checkIndex_2214a : MethodName := ⟨RJ2, "checkIndex", "(I[B)V"⟩
def RJ10 : String := "java/lang/System"
def RJ3 : String := "jdk/internal/util/Preconditions"
abbrev cJ3_checkIndex_8e157 : ByteArray := prog_16_method_11_code
def yJ3_checkIndex_8e157 : MethodName := ⟨RJ3, "checkIndex", "(IILjava/util/function/BiFunction;)I"⟩
def RL : String := "SightBlocksLaw"
abbrev cL_law : ByteArray := code
def yL_law : MethodName := ⟨RL, "law", "([I)Z"⟩
abbrev vwCl : List vw_C := [(RX0, TX0, 3), (RX1, TX1, 6), (RX2, TX2, 3), (RX3, TX3, 5), (RX4, TX4, 5), (RX5, TX5, 10), (RX6, TX6, 5), (RX7, TX7, 4), (RX8, TX8, 12)]
