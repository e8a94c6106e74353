section
-- ===== PART A: goes FIRST, ahead of the names: the tables' words, and 'selects' of the private methods out of them =====
/-- a private method of a class that the tables say can be made, by its rows of tables_1 -/
def lw_okq (q : MethodName × Nat) : Prop := (q.1.cls ≠ "java/lang/invoke/MethodHandle" ∧ q.1.cls ≠ "java/lang/invoke/VarHandle") ∧ Cond.instantiable q.1.cls q.2 ∈ tables_1 ∧ Cond.privateMethod q.1 ∈ tables_1 ∧ Cond.instanceMethod q.1 ∈ tables_1
theorem lw_p0 : lw_okq (⟨"SightBlocks", "recorded", "(I)I"⟩, 4) := ⟨⟨by decide +kernel, by decide +kernel⟩, List.mem_of_getElem? (i := 17) (by decide +kernel), List.mem_of_getElem? (i := 260) (by decide +kernel), List.mem_of_getElem? (i := 261) (by decide +kernel)⟩
theorem lw_p1 : lw_okq (⟨"SightBlocks$Floor", "isStage", "(I)Z"⟩, 6) := ⟨⟨by decide +kernel, by decide +kernel⟩, List.mem_of_getElem? (i := 31) (by decide +kernel), List.mem_of_getElem? (i := 284) (by decide +kernel), List.mem_of_getElem? (i := 285) (by decide +kernel)⟩
theorem lw_p2 : lw_okq (⟨"SightBlocks$Floor", "isPiece", "(II)Z"⟩, 6) := ⟨⟨by decide +kernel, by decide +kernel⟩, List.mem_of_getElem? (i := 31) (by decide +kernel), List.mem_of_getElem? (i := 288) (by decide +kernel), List.mem_of_getElem? (i := 289) (by decide +kernel)⟩
theorem lw_p3 : lw_okq (⟨"SightBlocks$Floor", "isChair", "(I)Z"⟩, 6) := ⟨⟨by decide +kernel, by decide +kernel⟩, List.mem_of_getElem? (i := 31) (by decide +kernel), List.mem_of_getElem? (i := 292) (by decide +kernel), List.mem_of_getElem? (i := 293) (by decide +kernel)⟩
theorem lw_p4 : lw_okq (⟨"SightBlocks$Floor", "isUp", "(I)Z"⟩, 6) := ⟨⟨by decide +kernel, by decide +kernel⟩, List.mem_of_getElem? (i := 31) (by decide +kernel), List.mem_of_getElem? (i := 300) (by decide +kernel), List.mem_of_getElem? (i := 301) (by decide +kernel)⟩
theorem lw_p5 : lw_okq (⟨"SightBlocks$Floor", "chairsUnder", "(I)I"⟩, 6) := ⟨⟨by decide +kernel, by decide +kernel⟩, List.mem_of_getElem? (i := 31) (by decide +kernel), List.mem_of_getElem? (i := 304) (by decide +kernel), List.mem_of_getElem? (i := 305) (by decide +kernel)⟩
theorem lw_p6 : lw_okq (⟨"SightBlocks$Floor", "hasTakenChairUnder", "(I)Z"⟩, 6) := ⟨⟨by decide +kernel, by decide +kernel⟩, List.mem_of_getElem? (i := 31) (by decide +kernel), List.mem_of_getElem? (i := 316) (by decide +kernel), List.mem_of_getElem? (i := 317) (by decide +kernel)⟩
theorem lw_p7 : lw_okq (⟨"SightBlocks$Floor", "usableInRow", "(LSightBlocks$Block;II)I"⟩, 6) := ⟨⟨by decide +kernel, by decide +kernel⟩, List.mem_of_getElem? (i := 31) (by decide +kernel), List.mem_of_getElem? (i := 348) (by decide +kernel), List.mem_of_getElem? (i := 349) (by decide +kernel)⟩
theorem lw_p8 : lw_okq (⟨"SightBlocks$Stadium", "holdAt", "(I)LSightBlocks$Hold;"⟩, 10) := ⟨⟨by decide +kernel, by decide +kernel⟩, List.mem_of_getElem? (i := 25) (by decide +kernel), List.mem_of_getElem? (i := 370) (by decide +kernel), List.mem_of_getElem? (i := 371) (by decide +kernel)⟩
theorem lw_p9 : lw_okq (⟨"SightBlocks$Floor", "chairsThatAre", "(II)I"⟩, 6) := ⟨⟨by decide +kernel, by decide +kernel⟩, List.mem_of_getElem? (i := 31) (by decide +kernel), List.mem_of_getElem? (i := 410) (by decide +kernel), List.mem_of_getElem? (i := 411) (by decide +kernel)⟩
theorem lw_p10 : lw_okq (⟨"SightBlocks$Stadium", "moveTicket", "(II)I"⟩, 10) := ⟨⟨by decide +kernel, by decide +kernel⟩, List.mem_of_getElem? (i := 25) (by decide +kernel), List.mem_of_getElem? (i := 435) (by decide +kernel), List.mem_of_getElem? (i := 436) (by decide +kernel)⟩
theorem lw_p11 : lw_okq (⟨"SightBlocks$Stadium", "nextMover", "(I)I"⟩, 10) := ⟨⟨by decide +kernel, by decide +kernel⟩, List.mem_of_getElem? (i := 25) (by decide +kernel), List.mem_of_getElem? (i := 439) (by decide +kernel), List.mem_of_getElem? (i := 440) (by decide +kernel)⟩
theorem lw_p12 : lw_okq (⟨"SightBlocks$Program", "readToken", "()V"⟩, 5) := ⟨⟨by decide +kernel, by decide +kernel⟩, List.mem_of_getElem? (i := 188) (by decide +kernel), List.mem_of_getElem? (i := 496) (by decide +kernel), List.mem_of_getElem? (i := 497) (by decide +kernel)⟩
theorem lw_p13 : lw_okq (⟨"SightBlocks$Program", "runOrder", "(LSightBlocks$Stadium;)I"⟩, 5) := ⟨⟨by decide +kernel, by decide +kernel⟩, List.mem_of_getElem? (i := 188) (by decide +kernel), List.mem_of_getElem? (i := 503) (by decide +kernel), List.mem_of_getElem? (i := 504) (by decide +kernel)⟩
theorem lw_p14 : lw_okq (⟨"SightBlocks$Program", "orderOfToken", "()I"⟩, 5) := ⟨⟨by decide +kernel, by decide +kernel⟩, List.mem_of_getElem? (i := 188) (by decide +kernel), List.mem_of_getElem? (i := 507) (by decide +kernel), List.mem_of_getElem? (i := 508) (by decide +kernel)⟩
theorem lw_p15 : lw_okq (⟨"SightBlocks$Program", "tokenIs", "(Ljava/lang/String;)Z"⟩, 5) := ⟨⟨by decide +kernel, by decide +kernel⟩, List.mem_of_getElem? (i := 188) (by decide +kernel), List.mem_of_getElem? (i := 512) (by decide +kernel), List.mem_of_getElem? (i := 513) (by decide +kernel)⟩
def lw_privs_1 : List (MethodName × Nat) := [(⟨"SightBlocks", "recorded", "(I)I"⟩, 4), (⟨"SightBlocks$Floor", "isStage", "(I)Z"⟩, 6), (⟨"SightBlocks$Floor", "isPiece", "(II)Z"⟩, 6), (⟨"SightBlocks$Floor", "isChair", "(I)Z"⟩, 6), (⟨"SightBlocks$Floor", "isUp", "(I)Z"⟩, 6), (⟨"SightBlocks$Floor", "chairsUnder", "(I)I"⟩, 6), (⟨"SightBlocks$Floor", "hasTakenChairUnder", "(I)Z"⟩, 6), (⟨"SightBlocks$Floor", "usableInRow", "(LSightBlocks$Block;II)I"⟩, 6), (⟨"SightBlocks$Stadium", "holdAt", "(I)LSightBlocks$Hold;"⟩, 10), (⟨"SightBlocks$Floor", "chairsThatAre", "(II)I"⟩, 6), (⟨"SightBlocks$Stadium", "moveTicket", "(II)I"⟩, 10), (⟨"SightBlocks$Stadium", "nextMover", "(I)I"⟩, 10), (⟨"SightBlocks$Program", "readToken", "()V"⟩, 5), (⟨"SightBlocks$Program", "runOrder", "(LSightBlocks$Stadium;)I"⟩, 5), (⟨"SightBlocks$Program", "orderOfToken", "()I"⟩, 5), (⟨"SightBlocks$Program", "tokenIs", "(Ljava/lang/String;)Z"⟩, 5)]
theorem lw_r1 : ∀ q ∈ lw_privs_1, lw_okq q := List.forall_mem_cons.mpr ⟨lw_p0, List.forall_mem_cons.mpr ⟨lw_p1, List.forall_mem_cons.mpr ⟨lw_p2, List.forall_mem_cons.mpr ⟨lw_p3, List.forall_mem_cons.mpr ⟨lw_p4, List.forall_mem_cons.mpr ⟨lw_p5, List.forall_mem_cons.mpr ⟨lw_p6, List.forall_mem_cons.mpr ⟨lw_p7, List.forall_mem_cons.mpr ⟨lw_p8, List.forall_mem_cons.mpr ⟨lw_p9, List.forall_mem_cons.mpr ⟨lw_p10, List.forall_mem_cons.mpr ⟨lw_p11, List.forall_mem_cons.mpr ⟨lw_p12, List.forall_mem_cons.mpr ⟨lw_p13, List.forall_mem_cons.mpr ⟨lw_p14, List.forall_mem_cons.mpr ⟨lw_p15, fun _ h => absurd h List.not_mem_nil⟩⟩⟩⟩⟩⟩⟩⟩⟩⟩⟩⟩⟩⟩⟩⟩
theorem lw_p16 : lw_okq (⟨"SightBlocks$Program", "numberOfToken", "()I"⟩, 5) := ⟨⟨by decide +kernel, by decide +kernel⟩, List.mem_of_getElem? (i := 188) (by decide +kernel), List.mem_of_getElem? (i := 570) (by decide +kernel), List.mem_of_getElem? (i := 571) (by decide +kernel)⟩
theorem lw_p17 : lw_okq (⟨"SightBlocks$Program", "perform", "(ILSightBlocks$Stadium;)I"⟩, 5) := ⟨⟨by decide +kernel, by decide +kernel⟩, List.mem_of_getElem? (i := 188) (by decide +kernel), List.mem_of_getElem? (i := 575) (by decide +kernel), List.mem_of_getElem? (i := 576) (by decide +kernel)⟩
theorem lw_p18 : lw_okq (⟨"SightBlocks$Stadium", "openHolds", "()I"⟩, 10) := ⟨⟨by decide +kernel, by decide +kernel⟩, List.mem_of_getElem? (i := 25) (by decide +kernel), List.mem_of_getElem? (i := 609) (by decide +kernel), List.mem_of_getElem? (i := 610) (by decide +kernel)⟩
theorem lw_p19 : lw_okq (⟨"SightBlocks$Stadium", "ticketsThatAre", "(I)I"⟩, 10) := ⟨⟨by decide +kernel, by decide +kernel⟩, List.mem_of_getElem? (i := 25) (by decide +kernel), List.mem_of_getElem? (i := 613) (by decide +kernel), List.mem_of_getElem? (i := 614) (by decide +kernel)⟩
theorem lw_p20 : lw_okq (⟨"SightBlocks$Floor", "usableIn", "(I)I"⟩, 6) := ⟨⟨by decide +kernel, by decide +kernel⟩, List.mem_of_getElem? (i := 31) (by decide +kernel), List.mem_of_getElem? (i := 625) (by decide +kernel), List.mem_of_getElem? (i := 626) (by decide +kernel)⟩
theorem lw_p21 : lw_okq (⟨"SightBlocksModel", "record", "()V"⟩, 12) := ⟨⟨by decide +kernel, by decide +kernel⟩, List.mem_of_getElem? (i := 693) (by decide +kernel), List.mem_of_getElem? (i := 743) (by decide +kernel), List.mem_of_getElem? (i := 744) (by decide +kernel)⟩
theorem lw_p22 : lw_okq (⟨"SightBlocksModel", "keep", "()V"⟩, 12) := ⟨⟨by decide +kernel, by decide +kernel⟩, List.mem_of_getElem? (i := 693) (by decide +kernel), List.mem_of_getElem? (i := 747) (by decide +kernel), List.mem_of_getElem? (i := 748) (by decide +kernel)⟩
theorem lw_p23 : lw_okq (⟨"SightBlocksModel", "isStage", "(I)Z"⟩, 12) := ⟨⟨by decide +kernel, by decide +kernel⟩, List.mem_of_getElem? (i := 693) (by decide +kernel), List.mem_of_getElem? (i := 759) (by decide +kernel), List.mem_of_getElem? (i := 760) (by decide +kernel)⟩
theorem lw_p24 : lw_okq (⟨"SightBlocksModel", "isPiece", "(II)Z"⟩, 12) := ⟨⟨by decide +kernel, by decide +kernel⟩, List.mem_of_getElem? (i := 693) (by decide +kernel), List.mem_of_getElem? (i := 763) (by decide +kernel), List.mem_of_getElem? (i := 764) (by decide +kernel)⟩
theorem lw_p25 : lw_okq (⟨"SightBlocksModel", "isChair", "(I)Z"⟩, 12) := ⟨⟨by decide +kernel, by decide +kernel⟩, List.mem_of_getElem? (i := 693) (by decide +kernel), List.mem_of_getElem? (i := 767) (by decide +kernel), List.mem_of_getElem? (i := 768) (by decide +kernel)⟩
theorem lw_p26 : lw_okq (⟨"SightBlocksModel", "isBlock", "(I)Z"⟩, 12) := ⟨⟨by decide +kernel, by decide +kernel⟩, List.mem_of_getElem? (i := 693) (by decide +kernel), List.mem_of_getElem? (i := 771) (by decide +kernel), List.mem_of_getElem? (i := 772) (by decide +kernel)⟩
theorem lw_p27 : lw_okq (⟨"SightBlocksModel", "of", "(II)I"⟩, 12) := ⟨⟨by decide +kernel, by decide +kernel⟩, List.mem_of_getElem? (i := 693) (by decide +kernel), List.mem_of_getElem? (i := 775) (by decide +kernel), List.mem_of_getElem? (i := 776) (by decide +kernel)⟩
theorem lw_p28 : lw_okq (⟨"SightBlocksModel", "isUp", "(I)Z"⟩, 12) := ⟨⟨by decide +kernel, by decide +kernel⟩, List.mem_of_getElem? (i := 693) (by decide +kernel), List.mem_of_getElem? (i := 779) (by decide +kernel), List.mem_of_getElem? (i := 780) (by decide +kernel)⟩
theorem lw_p29 : lw_okq (⟨"SightBlocksModel", "killedBy", "(IZZ)I"⟩, 12) := ⟨⟨by decide +kernel, by decide +kernel⟩, List.mem_of_getElem? (i := 693) (by decide +kernel), List.mem_of_getElem? (i := 786) (by decide +kernel), List.mem_of_getElem? (i := 787) (by decide +kernel)⟩
theorem lw_p30 : lw_okq (⟨"SightBlocksModel", "isFor", "(II)Z"⟩, 12) := ⟨⟨by decide +kernel, by decide +kernel⟩, List.mem_of_getElem? (i := 693) (by decide +kernel), List.mem_of_getElem? (i := 790) (by decide +kernel), List.mem_of_getElem? (i := 791) (by decide +kernel)⟩
theorem lw_p31 : lw_okq (⟨"SightBlocksModel", "isKilled", "(I)Z"⟩, 12) := ⟨⟨by decide +kernel, by decide +kernel⟩, List.mem_of_getElem? (i := 693) (by decide +kernel), List.mem_of_getElem? (i := 794) (by decide +kernel), List.mem_of_getElem? (i := 795) (by decide +kernel)⟩
def lw_privs_2 : List (MethodName × Nat) := [(⟨"SightBlocks$Program", "numberOfToken", "()I"⟩, 5), (⟨"SightBlocks$Program", "perform", "(ILSightBlocks$Stadium;)I"⟩, 5), (⟨"SightBlocks$Stadium", "openHolds", "()I"⟩, 10), (⟨"SightBlocks$Stadium", "ticketsThatAre", "(I)I"⟩, 10), (⟨"SightBlocks$Floor", "usableIn", "(I)I"⟩, 6), (⟨"SightBlocksModel", "record", "()V"⟩, 12), (⟨"SightBlocksModel", "keep", "()V"⟩, 12), (⟨"SightBlocksModel", "isStage", "(I)Z"⟩, 12), (⟨"SightBlocksModel", "isPiece", "(II)Z"⟩, 12), (⟨"SightBlocksModel", "isChair", "(I)Z"⟩, 12), (⟨"SightBlocksModel", "isBlock", "(I)Z"⟩, 12), (⟨"SightBlocksModel", "of", "(II)I"⟩, 12), (⟨"SightBlocksModel", "isUp", "(I)Z"⟩, 12), (⟨"SightBlocksModel", "killedBy", "(IZZ)I"⟩, 12), (⟨"SightBlocksModel", "isFor", "(II)Z"⟩, 12), (⟨"SightBlocksModel", "isKilled", "(I)Z"⟩, 12)]
theorem lw_r2 : ∀ q ∈ lw_privs_2, lw_okq q := List.forall_mem_cons.mpr ⟨lw_p16, List.forall_mem_cons.mpr ⟨lw_p17, List.forall_mem_cons.mpr ⟨lw_p18, List.forall_mem_cons.mpr ⟨lw_p19, List.forall_mem_cons.mpr ⟨lw_p20, List.forall_mem_cons.mpr ⟨lw_p21, List.forall_mem_cons.mpr ⟨lw_p22, List.forall_mem_cons.mpr ⟨lw_p23, List.forall_mem_cons.mpr ⟨lw_p24, List.forall_mem_cons.mpr ⟨lw_p25, List.forall_mem_cons.mpr ⟨lw_p26, List.forall_mem_cons.mpr ⟨lw_p27, List.forall_mem_cons.mpr ⟨lw_p28, List.forall_mem_cons.mpr ⟨lw_p29, List.forall_mem_cons.mpr ⟨lw_p30, List.forall_mem_cons.mpr ⟨lw_p31, fun _ h => absurd h List.not_mem_nil⟩⟩⟩⟩⟩⟩⟩⟩⟩⟩⟩⟩⟩⟩⟩⟩
theorem lw_p32 : lw_okq (⟨"SightBlocksModel", "isWhat", "(I)I"⟩, 12) := ⟨⟨by decide +kernel, by decide +kernel⟩, List.mem_of_getElem? (i := 693) (by decide +kernel), List.mem_of_getElem? (i := 798) (by decide +kernel), List.mem_of_getElem? (i := 799) (by decide +kernel)⟩
theorem lw_p33 : lw_okq (⟨"SightBlocksModel", "aside", "()V"⟩, 12) := ⟨⟨by decide +kernel, by decide +kernel⟩, List.mem_of_getElem? (i := 693) (by decide +kernel), List.mem_of_getElem? (i := 806) (by decide +kernel), List.mem_of_getElem? (i := 807) (by decide +kernel)⟩
theorem lw_p34 : lw_okq (⟨"SightBlocksModel", "puts", "(I)I"⟩, 12) := ⟨⟨by decide +kernel, by decide +kernel⟩, List.mem_of_getElem? (i := 693) (by decide +kernel), List.mem_of_getElem? (i := 810) (by decide +kernel), List.mem_of_getElem? (i := 811) (by decide +kernel)⟩
theorem lw_p35 : lw_okq (⟨"SightBlocksModel", "countedAll", "(I)I"⟩, 12) := ⟨⟨by decide +kernel, by decide +kernel⟩, List.mem_of_getElem? (i := 693) (by decide +kernel), List.mem_of_getElem? (i := 814) (by decide +kernel), List.mem_of_getElem? (i := 815) (by decide +kernel)⟩
theorem lw_p36 : lw_okq (⟨"SightBlocksModel", "counted", "(II)I"⟩, 12) := ⟨⟨by decide +kernel, by decide +kernel⟩, List.mem_of_getElem? (i := 693) (by decide +kernel), List.mem_of_getElem? (i := 818) (by decide +kernel), List.mem_of_getElem? (i := 819) (by decide +kernel)⟩
theorem lw_p37 : lw_okq (⟨"SightBlocksModel", "acted", "(I)I"⟩, 12) := ⟨⟨by decide +kernel, by decide +kernel⟩, List.mem_of_getElem? (i := 693) (by decide +kernel), List.mem_of_getElem? (i := 822) (by decide +kernel), List.mem_of_getElem? (i := 823) (by decide +kernel)⟩
theorem lw_p38 : lw_okq (⟨"SightBlocksModel", "holds", "(III)I"⟩, 12) := ⟨⟨by decide +kernel, by decide +kernel⟩, List.mem_of_getElem? (i := 693) (by decide +kernel), List.mem_of_getElem? (i := 834) (by decide +kernel), List.mem_of_getElem? (i := 835) (by decide +kernel)⟩
theorem lw_p39 : lw_okq (⟨"SightBlocksModel", "placeIn", "(II)I"⟩, 12) := ⟨⟨by decide +kernel, by decide +kernel⟩, List.mem_of_getElem? (i := 693) (by decide +kernel), List.mem_of_getElem? (i := 838) (by decide +kernel), List.mem_of_getElem? (i := 839) (by decide +kernel)⟩
theorem lw_p40 : lw_okq (⟨"SightBlocksModel", "areOpen", "(III)Z"⟩, 12) := ⟨⟨by decide +kernel, by decide +kernel⟩, List.mem_of_getElem? (i := 693) (by decide +kernel), List.mem_of_getElem? (i := 842) (by decide +kernel), List.mem_of_getElem? (i := 843) (by decide +kernel)⟩
theorem lw_p41 : lw_okq (⟨"SightBlocksModel", "isOpen", "(II)Z"⟩, 12) := ⟨⟨by decide +kernel, by decide +kernel⟩, List.mem_of_getElem? (i := 693) (by decide +kernel), List.mem_of_getElem? (i := 846) (by decide +kernel), List.mem_of_getElem? (i := 847) (by decide +kernel)⟩
theorem lw_p42 : lw_okq (⟨"SightBlocksModel", "leftAlone", "(III)I"⟩, 12) := ⟨⟨by decide +kernel, by decide +kernel⟩, List.mem_of_getElem? (i := 693) (by decide +kernel), List.mem_of_getElem? (i := 850) (by decide +kernel), List.mem_of_getElem? (i := 851) (by decide +kernel)⟩
theorem lw_p43 : lw_okq (⟨"SightBlocksModel", "become", "(III)V"⟩, 12) := ⟨⟨by decide +kernel, by decide +kernel⟩, List.mem_of_getElem? (i := 693) (by decide +kernel), List.mem_of_getElem? (i := 854) (by decide +kernel), List.mem_of_getElem? (i := 855) (by decide +kernel)⟩
theorem lw_p44 : lw_okq (⟨"SightBlocksModel", "buys", "(I)I"⟩, 12) := ⟨⟨by decide +kernel, by decide +kernel⟩, List.mem_of_getElem? (i := 693) (by decide +kernel), List.mem_of_getElem? (i := 862) (by decide +kernel), List.mem_of_getElem? (i := 863) (by decide +kernel)⟩
theorem lw_p45 : lw_okq (⟨"SightBlocksModel", "isHold", "(I)Z"⟩, 12) := ⟨⟨by decide +kernel, by decide +kernel⟩, List.mem_of_getElem? (i := 693) (by decide +kernel), List.mem_of_getElem? (i := 866) (by decide +kernel), List.mem_of_getElem? (i := 867) (by decide +kernel)⟩
theorem lw_p46 : lw_okq (⟨"SightBlocksModel", "ofHold", "(II)I"⟩, 12) := ⟨⟨by decide +kernel, by decide +kernel⟩, List.mem_of_getElem? (i := 693) (by decide +kernel), List.mem_of_getElem? (i := 870) (by decide +kernel), List.mem_of_getElem? (i := 871) (by decide +kernel)⟩
theorem lw_p47 : lw_okq (⟨"SightBlocksModel", "drops", "(I)I"⟩, 12) := ⟨⟨by decide +kernel, by decide +kernel⟩, List.mem_of_getElem? (i := 693) (by decide +kernel), List.mem_of_getElem? (i := 878) (by decide +kernel), List.mem_of_getElem? (i := 879) (by decide +kernel)⟩
def lw_privs_3 : List (MethodName × Nat) := [(⟨"SightBlocksModel", "isWhat", "(I)I"⟩, 12), (⟨"SightBlocksModel", "aside", "()V"⟩, 12), (⟨"SightBlocksModel", "puts", "(I)I"⟩, 12), (⟨"SightBlocksModel", "countedAll", "(I)I"⟩, 12), (⟨"SightBlocksModel", "counted", "(II)I"⟩, 12), (⟨"SightBlocksModel", "acted", "(I)I"⟩, 12), (⟨"SightBlocksModel", "holds", "(III)I"⟩, 12), (⟨"SightBlocksModel", "placeIn", "(II)I"⟩, 12), (⟨"SightBlocksModel", "areOpen", "(III)Z"⟩, 12), (⟨"SightBlocksModel", "isOpen", "(II)Z"⟩, 12), (⟨"SightBlocksModel", "leftAlone", "(III)I"⟩, 12), (⟨"SightBlocksModel", "become", "(III)V"⟩, 12), (⟨"SightBlocksModel", "buys", "(I)I"⟩, 12), (⟨"SightBlocksModel", "isHold", "(I)Z"⟩, 12), (⟨"SightBlocksModel", "ofHold", "(II)I"⟩, 12), (⟨"SightBlocksModel", "drops", "(I)I"⟩, 12)]
theorem lw_r3 : ∀ q ∈ lw_privs_3, lw_okq q := List.forall_mem_cons.mpr ⟨lw_p32, List.forall_mem_cons.mpr ⟨lw_p33, List.forall_mem_cons.mpr ⟨lw_p34, List.forall_mem_cons.mpr ⟨lw_p35, List.forall_mem_cons.mpr ⟨lw_p36, List.forall_mem_cons.mpr ⟨lw_p37, List.forall_mem_cons.mpr ⟨lw_p38, List.forall_mem_cons.mpr ⟨lw_p39, List.forall_mem_cons.mpr ⟨lw_p40, List.forall_mem_cons.mpr ⟨lw_p41, List.forall_mem_cons.mpr ⟨lw_p42, List.forall_mem_cons.mpr ⟨lw_p43, List.forall_mem_cons.mpr ⟨lw_p44, List.forall_mem_cons.mpr ⟨lw_p45, List.forall_mem_cons.mpr ⟨lw_p46, List.forall_mem_cons.mpr ⟨lw_p47, fun _ h => absurd h List.not_mem_nil⟩⟩⟩⟩⟩⟩⟩⟩⟩⟩⟩⟩⟩⟩⟩⟩
theorem lw_p48 : lw_okq (⟨"SightBlocksModel", "givesBack", "(I)I"⟩, 12) := ⟨⟨by decide +kernel, by decide +kernel⟩, List.mem_of_getElem? (i := 693) (by decide +kernel), List.mem_of_getElem? (i := 886) (by decide +kernel), List.mem_of_getElem? (i := 887) (by decide +kernel)⟩
theorem lw_p49 : lw_okq (⟨"SightBlocksModel", "whyNot", "(I)I"⟩, 12) := ⟨⟨by decide +kernel, by decide +kernel⟩, List.mem_of_getElem? (i := 693) (by decide +kernel), List.mem_of_getElem? (i := 890) (by decide +kernel), List.mem_of_getElem? (i := 891) (by decide +kernel)⟩
theorem lw_p50 : lw_okq (⟨"SightBlocksModel", "isTicket", "(I)Z"⟩, 12) := ⟨⟨by decide +kernel, by decide +kernel⟩, List.mem_of_getElem? (i := 693) (by decide +kernel), List.mem_of_getElem? (i := 894) (by decide +kernel), List.mem_of_getElem? (i := 895) (by decide +kernel)⟩
theorem lw_p51 : lw_okq (⟨"SightBlocksModel", "ofTicket", "(II)I"⟩, 12) := ⟨⟨by decide +kernel, by decide +kernel⟩, List.mem_of_getElem? (i := 693) (by decide +kernel), List.mem_of_getElem? (i := 898) (by decide +kernel), List.mem_of_getElem? (i := 899) (by decide +kernel)⟩
theorem lw_p52 : lw_okq (⟨"SightBlocksModel", "ends", "(III)V"⟩, 12) := ⟨⟨by decide +kernel, by decide +kernel⟩, List.mem_of_getElem? (i := 693) (by decide +kernel), List.mem_of_getElem? (i := 902) (by decide +kernel), List.mem_of_getElem? (i := 903) (by decide +kernel)⟩
theorem lw_p53 : lw_okq (⟨"SightBlocksModel", "comes", "(I)I"⟩, 12) := ⟨⟨by decide +kernel, by decide +kernel⟩, List.mem_of_getElem? (i := 693) (by decide +kernel), List.mem_of_getElem? (i := 910) (by decide +kernel), List.mem_of_getElem? (i := 911) (by decide +kernel)⟩
theorem lw_p54 : lw_okq (⟨"SightBlocksModel", "better", "(I)I"⟩, 12) := ⟨⟨by decide +kernel, by decide +kernel⟩, List.mem_of_getElem? (i := 693) (by decide +kernel), List.mem_of_getElem? (i := 918) (by decide +kernel), List.mem_of_getElem? (i := 919) (by decide +kernel)⟩
theorem lw_p55 : lw_okq (⟨"SightBlocksModel", "rank", "(I)I"⟩, 12) := ⟨⟨by decide +kernel, by decide +kernel⟩, List.mem_of_getElem? (i := 693) (by decide +kernel), List.mem_of_getElem? (i := 922) (by decide +kernel), List.mem_of_getElem? (i := 923) (by decide +kernel)⟩
theorem lw_p56 : lw_okq (⟨"SightBlocksModel", "chains", "(I)I"⟩, 12) := ⟨⟨by decide +kernel, by decide +kernel⟩, List.mem_of_getElem? (i := 693) (by decide +kernel), List.mem_of_getElem? (i := 926) (by decide +kernel), List.mem_of_getElem? (i := 927) (by decide +kernel)⟩
theorem lw_p57 : lw_okq (⟨"SightBlocksModel", "moves", "(II)V"⟩, 12) := ⟨⟨by decide +kernel, by decide +kernel⟩, List.mem_of_getElem? (i := 693) (by decide +kernel), List.mem_of_getElem? (i := 930) (by decide +kernel), List.mem_of_getElem? (i := 931) (by decide +kernel)⟩
theorem lw_p58 : lw_okq (⟨"SightBlocksModel", "follower", "(I)I"⟩, 12) := ⟨⟨by decide +kernel, by decide +kernel⟩, List.mem_of_getElem? (i := 693) (by decide +kernel), List.mem_of_getElem? (i := 934) (by decide +kernel), List.mem_of_getElem? (i := 935) (by decide +kernel)⟩
theorem lw_p59 : lw_okq (⟨"SightBlocksModel", "passes", "(I)I"⟩, 12) := ⟨⟨by decide +kernel, by decide +kernel⟩, List.mem_of_getElem? (i := 693) (by decide +kernel), List.mem_of_getElem? (i := 942) (by decide +kernel), List.mem_of_getElem? (i := 943) (by decide +kernel)⟩
theorem lw_p60 : lw_okq (⟨"SightBlocksModel", "next", "()V"⟩, 12) := ⟨⟨by decide +kernel, by decide +kernel⟩, List.mem_of_getElem? (i := 693) (by decide +kernel), List.mem_of_getElem? (i := 966) (by decide +kernel), List.mem_of_getElem? (i := 967) (by decide +kernel)⟩
theorem lw_p61 : lw_okq (⟨"SightBlocksModel", "byteAt", "(I)I"⟩, 12) := ⟨⟨by decide +kernel, by decide +kernel⟩, List.mem_of_getElem? (i := 693) (by decide +kernel), List.mem_of_getElem? (i := 970) (by decide +kernel), List.mem_of_getElem? (i := 971) (by decide +kernel)⟩
theorem lw_p62 : lw_okq (⟨"SightBlocksModel", "isLetter", "(I)Z"⟩, 12) := ⟨⟨by decide +kernel, by decide +kernel⟩, List.mem_of_getElem? (i := 693) (by decide +kernel), List.mem_of_getElem? (i := 974) (by decide +kernel), List.mem_of_getElem? (i := 975) (by decide +kernel)⟩
theorem lw_p63 : lw_okq (⟨"SightBlocksModel", "isFigure", "(I)Z"⟩, 12) := ⟨⟨by decide +kernel, by decide +kernel⟩, List.mem_of_getElem? (i := 693) (by decide +kernel), List.mem_of_getElem? (i := 978) (by decide +kernel), List.mem_of_getElem? (i := 979) (by decide +kernel)⟩
def lw_privs_4 : List (MethodName × Nat) := [(⟨"SightBlocksModel", "givesBack", "(I)I"⟩, 12), (⟨"SightBlocksModel", "whyNot", "(I)I"⟩, 12), (⟨"SightBlocksModel", "isTicket", "(I)Z"⟩, 12), (⟨"SightBlocksModel", "ofTicket", "(II)I"⟩, 12), (⟨"SightBlocksModel", "ends", "(III)V"⟩, 12), (⟨"SightBlocksModel", "comes", "(I)I"⟩, 12), (⟨"SightBlocksModel", "better", "(I)I"⟩, 12), (⟨"SightBlocksModel", "rank", "(I)I"⟩, 12), (⟨"SightBlocksModel", "chains", "(I)I"⟩, 12), (⟨"SightBlocksModel", "moves", "(II)V"⟩, 12), (⟨"SightBlocksModel", "follower", "(I)I"⟩, 12), (⟨"SightBlocksModel", "passes", "(I)I"⟩, 12), (⟨"SightBlocksModel", "next", "()V"⟩, 12), (⟨"SightBlocksModel", "byteAt", "(I)I"⟩, 12), (⟨"SightBlocksModel", "isLetter", "(I)Z"⟩, 12), (⟨"SightBlocksModel", "isFigure", "(I)Z"⟩, 12)]
theorem lw_r4 : ∀ q ∈ lw_privs_4, lw_okq q := List.forall_mem_cons.mpr ⟨lw_p48, List.forall_mem_cons.mpr ⟨lw_p49, List.forall_mem_cons.mpr ⟨lw_p50, List.forall_mem_cons.mpr ⟨lw_p51, List.forall_mem_cons.mpr ⟨lw_p52, List.forall_mem_cons.mpr ⟨lw_p53, List.forall_mem_cons.mpr ⟨lw_p54, List.forall_mem_cons.mpr ⟨lw_p55, List.forall_mem_cons.mpr ⟨lw_p56, List.forall_mem_cons.mpr ⟨lw_p57, List.forall_mem_cons.mpr ⟨lw_p58, List.forall_mem_cons.mpr ⟨lw_p59, List.forall_mem_cons.mpr ⟨lw_p60, List.forall_mem_cons.mpr ⟨lw_p61, List.forall_mem_cons.mpr ⟨lw_p62, List.forall_mem_cons.mpr ⟨lw_p63, fun _ h => absurd h List.not_mem_nil⟩⟩⟩⟩⟩⟩⟩⟩⟩⟩⟩⟩⟩⟩⟩⟩
theorem lw_p64 : lw_okq (⟨"SightBlocksModel", "fails", "()I"⟩, 12) := ⟨⟨by decide +kernel, by decide +kernel⟩, List.mem_of_getElem? (i := 693) (by decide +kernel), List.mem_of_getElem? (i := 982) (by decide +kernel), List.mem_of_getElem? (i := 983) (by decide +kernel)⟩
theorem lw_p65 : lw_okq (⟨"SightBlocksModel", "word", "()J"⟩, 12) := ⟨⟨by decide +kernel, by decide +kernel⟩, List.mem_of_getElem? (i := 693) (by decide +kernel), List.mem_of_getElem? (i := 986) (by decide +kernel), List.mem_of_getElem? (i := 987) (by decide +kernel)⟩
theorem lw_p66 : lw_okq (⟨"SightBlocksModel", "orderBy", "(J)I"⟩, 12) := ⟨⟨by decide +kernel, by decide +kernel⟩, List.mem_of_getElem? (i := 693) (by decide +kernel), List.mem_of_getElem? (i := 990) (by decide +kernel), List.mem_of_getElem? (i := 991) (by decide +kernel)⟩
theorem lw_p67 : lw_okq (⟨"SightBlocksModel", "isNumber", "()Z"⟩, 12) := ⟨⟨by decide +kernel, by decide +kernel⟩, List.mem_of_getElem? (i := 693) (by decide +kernel), List.mem_of_getElem? (i := 1001) (by decide +kernel), List.mem_of_getElem? (i := 1002) (by decide +kernel)⟩
theorem lw_p68 : lw_okq (⟨"SightBlocksModel", "value", "()I"⟩, 12) := ⟨⟨by decide +kernel, by decide +kernel⟩, List.mem_of_getElem? (i := 693) (by decide +kernel), List.mem_of_getElem? (i := 1005) (by decide +kernel), List.mem_of_getElem? (i := 1006) (by decide +kernel)⟩
theorem lw_p69 : lw_okq (⟨"SightBlocksModel", "done", "(I)I"⟩, 12) := ⟨⟨by decide +kernel, by decide +kernel⟩, List.mem_of_getElem? (i := 693) (by decide +kernel), List.mem_of_getElem? (i := 1009) (by decide +kernel), List.mem_of_getElem? (i := 1010) (by decide +kernel)⟩
theorem lw_p70 : lw_okq (⟨"SightBlocksModel", "many", "(III)I"⟩, 12) := ⟨⟨by decide +kernel, by decide +kernel⟩, List.mem_of_getElem? (i := 693) (by decide +kernel), List.mem_of_getElem? (i := 1017) (by decide +kernel), List.mem_of_getElem? (i := 1018) (by decide +kernel)⟩
theorem lw_p71 : lw_okq (⟨"SightBlocksModel", "greatest", "(I)I"⟩, 12) := ⟨⟨by decide +kernel, by decide +kernel⟩, List.mem_of_getElem? (i := 693) (by decide +kernel), List.mem_of_getElem? (i := 1025) (by decide +kernel), List.mem_of_getElem? (i := 1026) (by decide +kernel)⟩
def lw_privs_5 : List (MethodName × Nat) := [(⟨"SightBlocksModel", "fails", "()I"⟩, 12), (⟨"SightBlocksModel", "word", "()J"⟩, 12), (⟨"SightBlocksModel", "orderBy", "(J)I"⟩, 12), (⟨"SightBlocksModel", "isNumber", "()Z"⟩, 12), (⟨"SightBlocksModel", "value", "()I"⟩, 12), (⟨"SightBlocksModel", "done", "(I)I"⟩, 12), (⟨"SightBlocksModel", "many", "(III)I"⟩, 12), (⟨"SightBlocksModel", "greatest", "(I)I"⟩, 12)]
theorem lw_r5 : ∀ q ∈ lw_privs_5, lw_okq q := List.forall_mem_cons.mpr ⟨lw_p64, List.forall_mem_cons.mpr ⟨lw_p65, List.forall_mem_cons.mpr ⟨lw_p66, List.forall_mem_cons.mpr ⟨lw_p67, List.forall_mem_cons.mpr ⟨lw_p68, List.forall_mem_cons.mpr ⟨lw_p69, List.forall_mem_cons.mpr ⟨lw_p70, List.forall_mem_cons.mpr ⟨lw_p71, fun _ h => absurd h List.not_mem_nil⟩⟩⟩⟩⟩⟩⟩⟩
def lw_privs : List (MethodName × Nat) := lw_privs_1 ++ (lw_privs_2 ++ (lw_privs_3 ++ (lw_privs_4 ++ (lw_privs_5))))
def lw_tbl : List Cond := k2_sels lw_privs ++ tables_1
theorem lw_privs_ok : ∀ q ∈ lw_privs, lw_okq q := by
  show ∀ q ∈ lw_privs_1 ++ (lw_privs_2 ++ (lw_privs_3 ++ (lw_privs_4 ++ (lw_privs_5)))), lw_okq q
  exact List.forall_mem_append.mpr ⟨lw_r1, List.forall_mem_append.mpr ⟨lw_r2, List.forall_mem_append.mpr ⟨lw_r3, List.forall_mem_append.mpr ⟨lw_r4, lw_r5⟩⟩⟩⟩
def RX0 : String := "SightBlocks$Block"
def TX0 : u_T := fun k => match k with
  | 0 => ("SightBlocks$Block", "rows", "I", false)
  | 1 => ("SightBlocks$Block", "chairs", "I", false)
  | _ => ("SightBlocks$Block", "price", "I", false)
def tyX0 : Nat → FieldType := fun k => match k with
  | 0 => .int
  | 1 => .int
  | _ => .int
abbrev wsX00 : List Cond := u_ws RX0 TX0 3
theorem nmX0 : ∀ a, a < 3 → ∀ b, b < 3 → a ≠ b → (TX0 a).2.1 ≠ (TX0 b).2.1 := by decide +kernel
theorem tyX0_ok : ∀ k, k < 3 → parseFieldDescriptor (TX0 k).2.2.1 = some (tyX0 k) := by decide +kernel
abbrev cX0_init : ByteArray := prog_2_method_1_code
def yX0_init : MethodName := ⟨RX0, "<init>", "()V"⟩
abbrev cX0_copyFrom : ByteArray := prog_2_method_2_code
def yX0_copyFrom : MethodName := ⟨RX0, "copyFrom", "(LSightBlocks$Block;)V"⟩
def RX1 : String := "SightBlocks$Floor"
def TX1 : u_T := fun k => match k with
  | 0 => ("SightBlocks$Floor", "blocks", "[LSightBlocks$Block;", true)
  | 1 => ("SightBlocks$Floor", "taken", "[I", true)
  | 2 => ("SightBlocks$Floor", "stagesOver", "[I", true)
  | 3 => ("SightBlocks$Floor", "blockCount", "I", false)
  | 4 => ("SightBlocks$Floor", "stageCount", "I", false)
  | _ => ("SightBlocks$Floor", "stagesUp", "I", false)
def tyX1 : Nat → FieldType := fun k => match k with
  | 0 => .array (.object "SightBlocks$Block")
  | 1 => .array .int
  | 2 => .array .int
  | 3 => .int
  | 4 => .int
  | _ => .int
abbrev wsX10 : List Cond := u_ws RX1 TX1 6
theorem nmX1 : ∀ a, a < 6 → ∀ b, b < 6 → a ≠ b → (TX1 a).2.1 ≠ (TX1 b).2.1 := by decide +kernel
theorem tyX1_ok : ∀ k, k < 6 → parseFieldDescriptor (TX1 k).2.2.1 = some (tyX1 k) := by decide +kernel
abbrev cX1_init : ByteArray := prog_3_method_1_code
def yX1_init : MethodName := ⟨RX1, "<init>", "()V"⟩
abbrev cX1_copyFrom : ByteArray := prog_3_method_2_code
def yX1_copyFrom : MethodName := ⟨RX1, "copyFrom", "(LSightBlocks$Floor;)V"⟩
abbrev cX1_makeBlock : ByteArray := prog_3_method_3_code
def yX1_makeBlock : MethodName := ⟨RX1, "makeBlock", "(III)I"⟩
abbrev cX1_makeStage : ByteArray := prog_3_method_4_code
def yX1_makeStage : MethodName := ⟨RX1, "makeStage", "()I"⟩
abbrev cX1_makePiece : ByteArray := prog_3_method_5_code
def yX1_makePiece : MethodName := ⟨RX1, "makePiece", "(III)I"⟩
abbrev cX1_raiseStage : ByteArray := prog_3_method_6_code
def yX1_raiseStage : MethodName := ⟨RX1, "raiseStage", "(I)I"⟩
abbrev cX1_lowerStage : ByteArray := prog_3_method_7_code
def yX1_lowerStage : MethodName := ⟨RX1, "lowerStage", "(I)I"⟩
abbrev cX1_newlyKilled : ByteArray := prog_3_method_8_code
def yX1_newlyKilled : MethodName := ⟨RX1, "newlyKilled", "(I)I"⟩
abbrev cX1_stagesThatAreUp : ByteArray := prog_3_method_9_code
def yX1_stagesThatAreUp : MethodName := ⟨RX1, "stagesThatAreUp", "()I"⟩
abbrev cX1_blockAt : ByteArray := prog_3_method_10_code
def yX1_blockAt : MethodName := ⟨RX1, "blockAt", "(I)LSightBlocks$Block;"⟩
abbrev cX1_rankOf : ByteArray := prog_3_method_11_code
def yX1_rankOf : MethodName := ⟨RX1, "rankOf", "(I)I"⟩
abbrev cX1_priceOf : ByteArray := prog_3_method_12_code
def yX1_priceOf : MethodName := ⟨RX1, "priceOf", "(I)I"⟩
abbrev cX1_chairFigure : ByteArray := prog_3_method_13_code
def yX1_chairFigure : MethodName := ⟨RX1, "chairFigure", "(I)I"⟩
abbrev cX1_blockFigure : ByteArray := prog_3_method_14_code
def yX1_blockFigure : MethodName := ⟨RX1, "blockFigure", "(II)I"⟩
abbrev cX1_chairsIn : ByteArray := prog_3_method_15_code
def yX1_chairsIn : MethodName := ⟨RX1, "chairsIn", "()I"⟩
abbrev cX1_mark : ByteArray := prog_3_method_16_code
def yX1_mark : MethodName := ⟨RX1, "mark", "(III)V"⟩
abbrev cX1_findPlace : ByteArray := prog_3_method_17_code
def yX1_findPlace : MethodName := ⟨RX1, "findPlace", "(II)I"⟩
abbrev cX1_greatestGroup : ByteArray := prog_3_method_18_code
def yX1_greatestGroup : MethodName := ⟨RX1, "greatestGroup", "(I)I"⟩
abbrev cX1_cheapestFor : ByteArray := prog_3_method_19_code
def yX1_cheapestFor : MethodName := ⟨RX1, "cheapestFor", "(I)I"⟩
abbrev cX1_upgradeFor : ByteArray := prog_3_method_20_code
def yX1_upgradeFor : MethodName := ⟨RX1, "upgradeFor", "(II)I"⟩
abbrev cX1_isGroup : ByteArray := prog_3_method_21_code
def yX1_isGroup : MethodName := ⟨RX1, "isGroup", "(I)Z"⟩
abbrev cX1_isStage : ByteArray := prog_3_method_22_code
def yX1_isStage : MethodName := ⟨RX1, "isStage", "(I)Z"⟩
abbrev cX1_isUp : ByteArray := prog_3_method_23_code
def yX1_isUp : MethodName := ⟨RX1, "isUp", "(I)Z"⟩
abbrev cX1_isChair : ByteArray := prog_3_method_24_code
def yX1_isChair : MethodName := ⟨RX1, "isChair", "(I)Z"⟩
abbrev cX1_isPiece : ByteArray := prog_3_method_25_code
def yX1_isPiece : MethodName := ⟨RX1, "isPiece", "(II)Z"⟩
abbrev cX1_chairsUnder : ByteArray := prog_3_method_26_code
def yX1_chairsUnder : MethodName := ⟨RX1, "chairsUnder", "(I)I"⟩
abbrev cX1_hasTakenChairUnder : ByteArray := prog_3_method_27_code
def yX1_hasTakenChairUnder : MethodName := ⟨RX1, "hasTakenChairUnder", "(I)Z"⟩
abbrev cX1_chairsThatAre : ByteArray := prog_3_method_28_code
def yX1_chairsThatAre : MethodName := ⟨RX1, "chairsThatAre", "(II)I"⟩
abbrev cX1_usableIn : ByteArray := prog_3_method_29_code
def yX1_usableIn : MethodName := ⟨RX1, "usableIn", "(I)I"⟩
abbrev cX1_usableInRow : ByteArray := prog_3_method_30_code
def yX1_usableInRow : MethodName := ⟨RX1, "usableInRow", "(LSightBlocks$Block;II)I"⟩
abbrev cX1_hasRoom : ByteArray := prog_3_method_31_code
def yX1_hasRoom : MethodName := ⟨RX1, "hasRoom", "(III)Z"⟩
abbrev cX1_leftAlone : ByteArray := prog_3_method_32_code
def yX1_leftAlone : MethodName := ⟨RX1, "leftAlone", "(III)I"⟩
def RX2 : String := "SightBlocks$History"
def TX2 : u_T := fun k => match k with
  | 0 => ("SightBlocks$History", "ring", "[LSightBlocks$Stadium;", true)
  | 1 => ("SightBlocks$History", "oldest", "I", false)
  | _ => ("SightBlocks$History", "size", "I", false)
def tyX2 : Nat → FieldType := fun k => match k with
  | 0 => .array (.object "SightBlocks$Stadium")
  | 1 => .int
  | _ => .int
abbrev wsX20 : List Cond := u_ws RX2 TX2 3
theorem nmX2 : ∀ a, a < 3 → ∀ b, b < 3 → a ≠ b → (TX2 a).2.1 ≠ (TX2 b).2.1 := by decide +kernel
theorem tyX2_ok : ∀ k, k < 3 → parseFieldDescriptor (TX2 k).2.2.1 = some (tyX2 k) := by decide +kernel
abbrev cX2_init : ByteArray := prog_4_method_1_code
def yX2_init : MethodName := ⟨RX2, "<init>", "()V"⟩
abbrev cX2_prepare : ByteArray := prog_4_method_2_code
def yX2_prepare : MethodName := ⟨RX2, "prepare", "(LSightBlocks$Stadium;)V"⟩
abbrev cX2_keepPrepared : ByteArray := prog_4_method_3_code
def yX2_keepPrepared : MethodName := ⟨RX2, "keepPrepared", "()V"⟩
abbrev cX2_takeBack : ByteArray := prog_4_method_4_code
def yX2_takeBack : MethodName := ⟨RX2, "takeBack", "(LSightBlocks$Stadium;)V"⟩
abbrev cX2_stepBack : ByteArray := prog_4_method_5_code
def yX2_stepBack : MethodName := ⟨RX2, "stepBack", "(LSightBlocks$Stadium;)I"⟩
def RX3 : String := "SightBlocks$Hold"
def TX3 : u_T := fun k => match k with
  | 0 => ("SightBlocks$Hold", "state", "I", false)
  | 1 => ("SightBlocks$Hold", "first", "I", false)
  | 2 => ("SightBlocks$Hold", "many", "I", false)
  | 3 => ("SightBlocks$Hold", "expiry", "I", false)
  | _ => ("SightBlocks$Hold", "ticket", "I", false)
def tyX3 : Nat → FieldType := fun k => match k with
  | 0 => .int
  | 1 => .int
  | 2 => .int
  | 3 => .int
  | _ => .int
abbrev wsX30 : List Cond := u_ws RX3 TX3 5
theorem nmX3 : ∀ a, a < 5 → ∀ b, b < 5 → a ≠ b → (TX3 a).2.1 ≠ (TX3 b).2.1 := by decide +kernel
theorem tyX3_ok : ∀ k, k < 5 → parseFieldDescriptor (TX3 k).2.2.1 = some (tyX3 k) := by decide +kernel
abbrev cX3_init : ByteArray := prog_5_method_1_code
def yX3_init : MethodName := ⟨RX3, "<init>", "()V"⟩
abbrev cX3_copyFrom : ByteArray := prog_5_method_2_code
def yX3_copyFrom : MethodName := ⟨RX3, "copyFrom", "(LSightBlocks$Hold;)V"⟩
def RX4 : String := "SightBlocks$Program"
def TX4 : u_T := fun k => match k with
  | 0 => ("SightBlocks$Program", "text", "[C", true)
  | 1 => ("SightBlocks$Program", "numbers", "[I", true)
  | 2 => ("SightBlocks$Program", "length", "I", false)
  | 3 => ("SightBlocks$Program", "tokenStart", "I", false)
  | _ => ("SightBlocks$Program", "tokenEnd", "I", false)
def tyX4 : Nat → FieldType := fun k => match k with
  | 0 => .array .char
  | 1 => .array .int
  | 2 => .int
  | 3 => .int
  | _ => .int
abbrev wsX40 : List Cond := u_ws RX4 TX4 5
theorem nmX4 : ∀ a, a < 5 → ∀ b, b < 5 → a ≠ b → (TX4 a).2.1 ≠ (TX4 b).2.1 := by decide +kernel
theorem tyX4_ok : ∀ k, k < 5 → parseFieldDescriptor (TX4 k).2.2.1 = some (tyX4 k) := by decide +kernel
abbrev cX4_init : ByteArray := prog_6_method_1_code
def yX4_init : MethodName := ⟨RX4, "<init>", "()V"⟩
abbrev cX4_addCharacter : ByteArray := prog_6_method_2_code
def yX4_addCharacter : MethodName := ⟨RX4, "addCharacter", "(I)I"⟩
abbrev cX4_makeEmpty : ByteArray := prog_6_method_3_code
def yX4_makeEmpty : MethodName := ⟨RX4, "makeEmpty", "()I"⟩
abbrev cX4_runOn : ByteArray := prog_6_method_4_code
def yX4_runOn : MethodName := ⟨RX4, "runOn", "(LSightBlocks$Stadium;)I"⟩
abbrev cX4_runOrder : ByteArray := prog_6_method_5_code
def yX4_runOrder : MethodName := ⟨RX4, "runOrder", "(LSightBlocks$Stadium;)I"⟩
abbrev cX4_perform : ByteArray := prog_6_method_6_code
def yX4_perform : MethodName := ⟨RX4, "perform", "(ILSightBlocks$Stadium;)I"⟩
abbrev cX4_orderOfToken : ByteArray := prog_6_method_7_code
def yX4_orderOfToken : MethodName := ⟨RX4, "orderOfToken", "()I"⟩
abbrev cX4_readToken : ByteArray := prog_6_method_8_code
def yX4_readToken : MethodName := ⟨RX4, "readToken", "()V"⟩
abbrev cX4_tokenIs : ByteArray := prog_6_method_9_code
def yX4_tokenIs : MethodName := ⟨RX4, "tokenIs", "(Ljava/lang/String;)Z"⟩
abbrev cX4_numberOfToken : ByteArray := prog_6_method_10_code
def yX4_numberOfToken : MethodName := ⟨RX4, "numberOfToken", "()I"⟩
abbrev cX4_kindOf : ByteArray := prog_6_method_11_code
def yX4_kindOf : MethodName := ⟨RX4, "kindOf", "(C)I"⟩
def RX5 : String := "SightBlocks$Stadium"
def TX5 : u_T := fun k => match k with
  | 0 => ("SightBlocks$Stadium", "floor", "LSightBlocks$Floor;", true)
  | 1 => ("SightBlocks$Stadium", "holds", "[LSightBlocks$Hold;", true)
  | 2 => ("SightBlocks$Stadium", "tickets", "[LSightBlocks$Ticket;", true)
  | 3 => ("SightBlocks$Stadium", "holdCount", "I", false)
  | 4 => ("SightBlocks$Stadium", "ticketCount", "I", false)
  | 5 => ("SightBlocks$Stadium", "minute", "I", false)
  | 6 => ("SightBlocks$Stadium", "closed", "Z", false)
  | 7 => ("SightBlocks$Stadium", "paid", "I", false)
  | 8 => ("SightBlocks$Stadium", "paidBack", "I", false)
  | _ => ("SightBlocks$Stadium", "moves", "I", false)
def tyX5 : Nat → FieldType := fun k => match k with
  | 0 => .object "SightBlocks$Floor"
  | 1 => .array (.object "SightBlocks$Hold")
  | 2 => .array (.object "SightBlocks$Ticket")
  | 3 => .int
  | 4 => .int
  | 5 => .int
  | 6 => .boolean
  | 7 => .int
  | 8 => .int
  | _ => .int
abbrev wsX50 : List Cond := u_ws RX5 TX5 10
theorem nmX5 : ∀ a, a < 10 → ∀ b, b < 10 → a ≠ b → (TX5 a).2.1 ≠ (TX5 b).2.1 := by decide +kernel
theorem tyX5_ok : ∀ k, k < 10 → parseFieldDescriptor (TX5 k).2.2.1 = some (tyX5 k) := by decide +kernel
abbrev cX5_init : ByteArray := prog_7_method_1_code
def yX5_init : MethodName := ⟨RX5, "<init>", "()V"⟩
abbrev cX5_copyFrom : ByteArray := prog_7_method_2_code
def yX5_copyFrom : MethodName := ⟨RX5, "copyFrom", "(LSightBlocks$Stadium;)V"⟩
abbrev cX5_makeHold : ByteArray := prog_7_method_3_code
def yX5_makeHold : MethodName := ⟨RX5, "makeHold", "(III)I"⟩
abbrev cX5_buyHold : ByteArray := prog_7_method_4_code
def yX5_buyHold : MethodName := ⟨RX5, "buyHold", "(I)I"⟩
abbrev cX5_dropHold : ByteArray := prog_7_method_5_code
def yX5_dropHold : MethodName := ⟨RX5, "dropHold", "(I)I"⟩
abbrev cX5_returnTicket : ByteArray := prog_7_method_6_code
def yX5_returnTicket : MethodName := ⟨RX5, "returnTicket", "(I)I"⟩
abbrev cX5_admit : ByteArray := prog_7_method_7_code
def yX5_admit : MethodName := ⟨RX5, "admit", "(I)I"⟩
abbrev cX5_upgradeTicket : ByteArray := prog_7_method_8_code
def yX5_upgradeTicket : MethodName := ⟨RX5, "upgradeTicket", "(I)I"⟩
abbrev cX5_moveChain : ByteArray := prog_7_method_9_code
def yX5_moveChain : MethodName := ⟨RX5, "moveChain", "(I)I"⟩
abbrev cX5_letPass : ByteArray := prog_7_method_10_code
def yX5_letPass : MethodName := ⟨RX5, "letPass", "(I)I"⟩
abbrev cX5_shutDoors : ByteArray := prog_7_method_11_code
def yX5_shutDoors : MethodName := ⟨RX5, "shutDoors", "()I"⟩
abbrev cX5_numberOf : ByteArray := prog_7_method_12_code
def yX5_numberOf : MethodName := ⟨RX5, "numberOf", "(I)I"⟩
abbrev cX5_holdFigure : ByteArray := prog_7_method_13_code
def yX5_holdFigure : MethodName := ⟨RX5, "holdFigure", "(II)I"⟩
abbrev cX5_ticketFigure : ByteArray := prog_7_method_14_code
def yX5_ticketFigure : MethodName := ⟨RX5, "ticketFigure", "(II)I"⟩
abbrev cX5_minutesToExpiry : ByteArray := prog_7_method_15_code
def yX5_minutesToExpiry : MethodName := ⟨RX5, "minutesToExpiry", "()I"⟩
abbrev cX5_ticketAt : ByteArray := prog_7_method_16_code
def yX5_ticketAt : MethodName := ⟨RX5, "ticketAt", "(I)LSightBlocks$Ticket;"⟩
abbrev cX5_holdAt : ByteArray := prog_7_method_17_code
def yX5_holdAt : MethodName := ⟨RX5, "holdAt", "(I)LSightBlocks$Hold;"⟩
abbrev cX5_moveTicket : ByteArray := prog_7_method_18_code
def yX5_moveTicket : MethodName := ⟨RX5, "moveTicket", "(II)I"⟩
abbrev cX5_nextMover : ByteArray := prog_7_method_19_code
def yX5_nextMover : MethodName := ⟨RX5, "nextMover", "(I)I"⟩
abbrev cX5_isWait : ByteArray := prog_7_method_20_code
def yX5_isWait : MethodName := ⟨RX5, "isWait", "(I)Z"⟩
abbrev cX5_openHolds : ByteArray := prog_7_method_21_code
def yX5_openHolds : MethodName := ⟨RX5, "openHolds", "()I"⟩
abbrev cX5_ticketsThatAre : ByteArray := prog_7_method_22_code
def yX5_ticketsThatAre : MethodName := ⟨RX5, "ticketsThatAre", "(I)I"⟩
def RX6 : String := "SightBlocks$Ticket"
def TX6 : u_T := fun k => match k with
  | 0 => ("SightBlocks$Ticket", "state", "I", false)
  | 1 => ("SightBlocks$Ticket", "first", "I", false)
  | 2 => ("SightBlocks$Ticket", "many", "I", false)
  | 3 => ("SightBlocks$Ticket", "paid", "I", false)
  | _ => ("SightBlocks$Ticket", "moves", "I", false)
def tyX6 : Nat → FieldType := fun k => match k with
  | 0 => .int
  | 1 => .int
  | 2 => .int
  | 3 => .int
  | _ => .int
abbrev wsX60 : List Cond := u_ws RX6 TX6 5
theorem nmX6 : ∀ a, a < 5 → ∀ b, b < 5 → a ≠ b → (TX6 a).2.1 ≠ (TX6 b).2.1 := by decide +kernel
theorem tyX6_ok : ∀ k, k < 5 → parseFieldDescriptor (TX6 k).2.2.1 = some (tyX6 k) := by decide +kernel
abbrev cX6_init : ByteArray := prog_8_method_1_code
def yX6_init : MethodName := ⟨RX6, "<init>", "()V"⟩
abbrev cX6_copyFrom : ByteArray := prog_8_method_2_code
def yX6_copyFrom : MethodName := ⟨RX6, "copyFrom", "(LSightBlocks$Ticket;)V"⟩
def RX7 : String := "SightBlocks"
def TX7 : u_T := fun k => match k with
  | 0 => ("SightBlocks", "stadium", "LSightBlocks$Stadium;", true)
  | 1 => ("SightBlocks", "trial", "LSightBlocks$Stadium;", true)
  | 2 => ("SightBlocks", "history", "LSightBlocks$History;", true)
  | _ => ("SightBlocks", "program", "LSightBlocks$Program;", true)
def tyX7 : Nat → FieldType := fun k => match k with
  | 0 => .object "SightBlocks$Stadium"
  | 1 => .object "SightBlocks$Stadium"
  | 2 => .object "SightBlocks$History"
  | _ => .object "SightBlocks$Program"
abbrev wsX70 : List Cond := u_ws RX7 TX7 4
theorem nmX7 : ∀ a, a < 4 → ∀ b, b < 4 → a ≠ b → (TX7 a).2.1 ≠ (TX7 b).2.1 := by decide +kernel
theorem tyX7_ok : ∀ k, k < 4 → parseFieldDescriptor (TX7 k).2.2.1 = some (tyX7 k) := by decide +kernel
abbrev cX7_init : ByteArray := prog_1_method_1_code
def yX7_init : MethodName := ⟨RX7, "<init>", "()V"⟩
abbrev cX7_addBlock : ByteArray := prog_1_method_2_code
def yX7_addBlock : MethodName := ⟨RX7, "addBlock", "(III)I"⟩
abbrev cX7_addStage : ByteArray := prog_1_method_3_code
def yX7_addStage : MethodName := ⟨RX7, "addStage", "()I"⟩
abbrev cX7_addPiece : ByteArray := prog_1_method_4_code
def yX7_addPiece : MethodName := ⟨RX7, "addPiece", "(III)I"⟩
abbrev cX7_putUp : ByteArray := prog_1_method_5_code
def yX7_putUp : MethodName := ⟨RX7, "putUp", "(I)I"⟩
abbrev cX7_takeDown : ByteArray := prog_1_method_6_code
def yX7_takeDown : MethodName := ⟨RX7, "takeDown", "(I)I"⟩
abbrev cX7_hold : ByteArray := prog_1_method_7_code
def yX7_hold : MethodName := ⟨RX7, "hold", "(III)I"⟩
abbrev cX7_buy : ByteArray := prog_1_method_8_code
def yX7_buy : MethodName := ⟨RX7, "buy", "(I)I"⟩
abbrev cX7_drop : ByteArray := prog_1_method_9_code
def yX7_drop : MethodName := ⟨RX7, "drop", "(I)I"⟩
abbrev cX7_giveBack : ByteArray := prog_1_method_10_code
def yX7_giveBack : MethodName := ⟨RX7, "giveBack", "(I)I"⟩
abbrev cX7_comeIn : ByteArray := prog_1_method_11_code
def yX7_comeIn : MethodName := ⟨RX7, "comeIn", "(I)I"⟩
abbrev cX7_upgrade : ByteArray := prog_1_method_12_code
def yX7_upgrade : MethodName := ⟨RX7, "upgrade", "(I)I"⟩
abbrev cX7_pass : ByteArray := prog_1_method_13_code
def yX7_pass : MethodName := ⟨RX7, "pass", "(I)I"⟩
abbrev cX7_closeDoors : ByteArray := prog_1_method_14_code
def yX7_closeDoors : MethodName := ⟨RX7, "closeDoors", "()I"⟩
abbrev cX7_undo : ByteArray := prog_1_method_15_code
def yX7_undo : MethodName := ⟨RX7, "undo", "()I"⟩
abbrev cX7_append : ByteArray := prog_1_method_16_code
def yX7_append : MethodName := ⟨RX7, "append", "(I)I"⟩
abbrev cX7_clearText : ByteArray := prog_1_method_17_code
def yX7_clearText : MethodName := ⟨RX7, "clearText", "()I"⟩
abbrev cX7_run : ByteArray := prog_1_method_18_code
def yX7_run : MethodName := ⟨RX7, "run", "()I"⟩
abbrev cX7_count : ByteArray := prog_1_method_19_code
def yX7_count : MethodName := ⟨RX7, "count", "(I)I"⟩
abbrev cX7_block : ByteArray := prog_1_method_20_code
def yX7_block : MethodName := ⟨RX7, "block", "(II)I"⟩
abbrev cX7_chair : ByteArray := prog_1_method_21_code
def yX7_chair : MethodName := ⟨RX7, "chair", "(I)I"⟩
abbrev cX7_holdOf : ByteArray := prog_1_method_22_code
def yX7_holdOf : MethodName := ⟨RX7, "holdOf", "(II)I"⟩
abbrev cX7_ticket : ByteArray := prog_1_method_23_code
def yX7_ticket : MethodName := ⟨RX7, "ticket", "(II)I"⟩
abbrev cX7_place : ByteArray := prog_1_method_24_code
def yX7_place : MethodName := ⟨RX7, "place", "(II)I"⟩
abbrev cX7_wouldKill : ByteArray := prog_1_method_25_code
def yX7_wouldKill : MethodName := ⟨RX7, "wouldKill", "(I)I"⟩
abbrev cX7_chain : ByteArray := prog_1_method_26_code
def yX7_chain : MethodName := ⟨RX7, "chain", "(I)I"⟩
abbrev cX7_cheapest : ByteArray := prog_1_method_27_code
def yX7_cheapest : MethodName := ⟨RX7, "cheapest", "(I)I"⟩
abbrev cX7_nextExpiry : ByteArray := prog_1_method_28_code
def yX7_nextExpiry : MethodName := ⟨RX7, "nextExpiry", "()I"⟩
abbrev cX7_recorded : ByteArray := prog_1_method_29_code
def yX7_recorded : MethodName := ⟨RX7, "recorded", "(I)I"⟩
def RX8 : String := "SightBlocksModel"
def TX8 : u_T := fun k => match k with
  | 0 => ("SightBlocksModel", "thrown", "I", false)
  | 1 => ("SightBlocksModel", "now", "[I", true)
  | 2 => ("SightBlocksModel", "put", "[I", true)
  | 3 => ("SightBlocksModel", "was", "[I", true)
  | 4 => ("SightBlocksModel", "acts", "I", false)
  | 5 => ("SightBlocksModel", "text", "[I", true)
  | 6 => ("SightBlocksModel", "typed", "I", false)
  | 7 => ("SightBlocksModel", "moved", "I", false)
  | 8 => ("SightBlocksModel", "start", "I", false)
  | 9 => ("SightBlocksModel", "till", "I", false)
  | 10 => ("SightBlocksModel", "sort", "I", false)
  | _ => ("SightBlocksModel", "numbers", "[I", true)
def tyX8 : Nat → FieldType := fun k => match k with
  | 0 => .int
  | 1 => .array .int
  | 2 => .array .int
  | 3 => .array .int
  | 4 => .int
  | 5 => .array .int
  | 6 => .int
  | 7 => .int
  | 8 => .int
  | 9 => .int
  | 10 => .int
  | _ => .array .int
abbrev wsX80 : List Cond := u_ws RX8 TX8 12
theorem nmX8 : ∀ a, a < 12 → ∀ b, b < 12 → a ≠ b → (TX8 a).2.1 ≠ (TX8 b).2.1 := by decide +kernel
theorem tyX8_ok : ∀ k, k < 12 → parseFieldDescriptor (TX8 k).2.2.1 = some (tyX8 k) := by decide +kernel
abbrev cX8_init : ByteArray := prog_10_method_1_code
def yX8_init : MethodName := ⟨RX8, "<init>", "()V"⟩
abbrev cX8_in : ByteArray := prog_10_method_3_code
def yX8_in : MethodName := ⟨RX8, "in", "(III)Z"⟩
abbrev cX8_record : ByteArray := prog_10_method_4_code
def yX8_record : MethodName := ⟨RX8, "record", "()V"⟩
abbrev cX8_keep : ByteArray := prog_10_method_5_code
def yX8_keep : MethodName := ⟨RX8, "keep", "()V"⟩
abbrev cX8_of : ByteArray := prog_10_method_6_code
def yX8_of : MethodName := ⟨RX8, "of", "(II)I"⟩
abbrev cX8_isBlock : ByteArray := prog_10_method_7_code
def yX8_isBlock : MethodName := ⟨RX8, "isBlock", "(I)Z"⟩
abbrev cX8_isStage : ByteArray := prog_10_method_8_code
def yX8_isStage : MethodName := ⟨RX8, "isStage", "(I)Z"⟩
abbrev cX8_isHold : ByteArray := prog_10_method_9_code
def yX8_isHold : MethodName := ⟨RX8, "isHold", "(I)Z"⟩
abbrev cX8_isTicket : ByteArray := prog_10_method_10_code
def yX8_isTicket : MethodName := ⟨RX8, "isTicket", "(I)Z"⟩
abbrev cX8_ofHold : ByteArray := prog_10_method_11_code
def yX8_ofHold : MethodName := ⟨RX8, "ofHold", "(II)I"⟩
abbrev cX8_ofTicket : ByteArray := prog_10_method_12_code
def yX8_ofTicket : MethodName := ⟨RX8, "ofTicket", "(II)I"⟩
abbrev cX8_isUp : ByteArray := prog_10_method_13_code
def yX8_isUp : MethodName := ⟨RX8, "isUp", "(I)Z"⟩
abbrev cX8_isChair : ByteArray := prog_10_method_14_code
def yX8_isChair : MethodName := ⟨RX8, "isChair", "(I)Z"⟩
abbrev cX8_atChair : ByteArray := prog_10_method_15_code
def yX8_atChair : MethodName := ⟨RX8, "atChair", "(I)I"⟩
abbrev cX8_isWhat : ByteArray := prog_10_method_16_code
def yX8_isWhat : MethodName := ⟨RX8, "isWhat", "(I)I"⟩
abbrev cX8_isKilled : ByteArray := prog_10_method_17_code
def yX8_isKilled : MethodName := ⟨RX8, "isKilled", "(I)Z"⟩
abbrev cX8_isFor : ByteArray := prog_10_method_18_code
def yX8_isFor : MethodName := ⟨RX8, "isFor", "(II)Z"⟩
abbrev cX8_become : ByteArray := prog_10_method_19_code
def yX8_become : MethodName := ⟨RX8, "become", "(III)V"⟩
abbrev cX8_isOpen : ByteArray := prog_10_method_20_code
def yX8_isOpen : MethodName := ⟨RX8, "isOpen", "(II)Z"⟩
abbrev cX8_areOpen : ByteArray := prog_10_method_21_code
def yX8_areOpen : MethodName := ⟨RX8, "areOpen", "(III)Z"⟩
abbrev cX8_leftAlone : ByteArray := prog_10_method_22_code
def yX8_leftAlone : MethodName := ⟨RX8, "leftAlone", "(III)I"⟩
abbrev cX8_placeIn : ByteArray := prog_10_method_23_code
def yX8_placeIn : MethodName := ⟨RX8, "placeIn", "(II)I"⟩
abbrev cX8_rank : ByteArray := prog_10_method_24_code
def yX8_rank : MethodName := ⟨RX8, "rank", "(I)I"⟩
abbrev cX8_counted : ByteArray := prog_10_method_25_code
def yX8_counted : MethodName := ⟨RX8, "counted", "(II)I"⟩
abbrev cX8_countedAll : ByteArray := prog_10_method_26_code
def yX8_countedAll : MethodName := ⟨RX8, "countedAll", "(I)I"⟩
abbrev cX8_addBlock : ByteArray := prog_10_method_27_code
def yX8_addBlock : MethodName := ⟨RX8, "addBlock", "(III)I"⟩
abbrev cX8_addStage : ByteArray := prog_10_method_28_code
def yX8_addStage : MethodName := ⟨RX8, "addStage", "()I"⟩
abbrev cX8_isPiece : ByteArray := prog_10_method_29_code
def yX8_isPiece : MethodName := ⟨RX8, "isPiece", "(II)Z"⟩
abbrev cX8_killedBy : ByteArray := prog_10_method_30_code
def yX8_killedBy : MethodName := ⟨RX8, "killedBy", "(IZZ)I"⟩
abbrev cX8_addPiece : ByteArray := prog_10_method_31_code
def yX8_addPiece : MethodName := ⟨RX8, "addPiece", "(III)I"⟩
abbrev cX8_puts : ByteArray := prog_10_method_32_code
def yX8_puts : MethodName := ⟨RX8, "puts", "(I)I"⟩
abbrev cX8_acted : ByteArray := prog_10_method_33_code
def yX8_acted : MethodName := ⟨RX8, "acted", "(I)I"⟩
abbrev cX8_aside : ByteArray := prog_10_method_34_code
def yX8_aside : MethodName := ⟨RX8, "aside", "()V"⟩
abbrev cX8_putUp : ByteArray := prog_10_method_35_code
def yX8_putUp : MethodName := ⟨RX8, "putUp", "(I)I"⟩
abbrev cX8_takeDown : ByteArray := prog_10_method_36_code
def yX8_takeDown : MethodName := ⟨RX8, "takeDown", "(I)I"⟩
abbrev cX8_holds : ByteArray := prog_10_method_37_code
def yX8_holds : MethodName := ⟨RX8, "holds", "(III)I"⟩
abbrev cX8_hold : ByteArray := prog_10_method_38_code
def yX8_hold : MethodName := ⟨RX8, "hold", "(III)I"⟩
abbrev cX8_buys : ByteArray := prog_10_method_39_code
def yX8_buys : MethodName := ⟨RX8, "buys", "(I)I"⟩
abbrev cX8_buy : ByteArray := prog_10_method_40_code
def yX8_buy : MethodName := ⟨RX8, "buy", "(I)I"⟩
abbrev cX8_drops : ByteArray := prog_10_method_41_code
def yX8_drops : MethodName := ⟨RX8, "drops", "(I)I"⟩
abbrev cX8_drop : ByteArray := prog_10_method_42_code
def yX8_drop : MethodName := ⟨RX8, "drop", "(I)I"⟩
abbrev cX8_ends : ByteArray := prog_10_method_43_code
def yX8_ends : MethodName := ⟨RX8, "ends", "(III)V"⟩
abbrev cX8_whyNot : ByteArray := prog_10_method_44_code
def yX8_whyNot : MethodName := ⟨RX8, "whyNot", "(I)I"⟩
abbrev cX8_givesBack : ByteArray := prog_10_method_45_code
def yX8_givesBack : MethodName := ⟨RX8, "givesBack", "(I)I"⟩
abbrev cX8_giveBack : ByteArray := prog_10_method_46_code
def yX8_giveBack : MethodName := ⟨RX8, "giveBack", "(I)I"⟩
abbrev cX8_comes : ByteArray := prog_10_method_47_code
def yX8_comes : MethodName := ⟨RX8, "comes", "(I)I"⟩
abbrev cX8_comeIn : ByteArray := prog_10_method_48_code
def yX8_comeIn : MethodName := ⟨RX8, "comeIn", "(I)I"⟩
abbrev cX8_better : ByteArray := prog_10_method_49_code
def yX8_better : MethodName := ⟨RX8, "better", "(I)I"⟩
abbrev cX8_moves : ByteArray := prog_10_method_50_code
def yX8_moves : MethodName := ⟨RX8, "moves", "(II)V"⟩
abbrev cX8_follower : ByteArray := prog_10_method_51_code
def yX8_follower : MethodName := ⟨RX8, "follower", "(I)I"⟩
abbrev cX8_chains : ByteArray := prog_10_method_52_code
def yX8_chains : MethodName := ⟨RX8, "chains", "(I)I"⟩
abbrev cX8_upgrade : ByteArray := prog_10_method_53_code
def yX8_upgrade : MethodName := ⟨RX8, "upgrade", "(I)I"⟩
abbrev cX8_passes : ByteArray := prog_10_method_54_code
def yX8_passes : MethodName := ⟨RX8, "passes", "(I)I"⟩
abbrev cX8_pass : ByteArray := prog_10_method_55_code
def yX8_pass : MethodName := ⟨RX8, "pass", "(I)I"⟩
abbrev cX8_closeDoors : ByteArray := prog_10_method_56_code
def yX8_closeDoors : MethodName := ⟨RX8, "closeDoors", "()I"⟩
abbrev cX8_undo : ByteArray := prog_10_method_57_code
def yX8_undo : MethodName := ⟨RX8, "undo", "()I"⟩
abbrev cX8_append : ByteArray := prog_10_method_58_code
def yX8_append : MethodName := ⟨RX8, "append", "(I)I"⟩
abbrev cX8_clearText : ByteArray := prog_10_method_59_code
def yX8_clearText : MethodName := ⟨RX8, "clearText", "()I"⟩
abbrev cX8_byteAt : ByteArray := prog_10_method_60_code
def yX8_byteAt : MethodName := ⟨RX8, "byteAt", "(I)I"⟩
abbrev cX8_isLetter : ByteArray := prog_10_method_61_code
def yX8_isLetter : MethodName := ⟨RX8, "isLetter", "(I)Z"⟩
abbrev cX8_isFigure : ByteArray := prog_10_method_62_code
def yX8_isFigure : MethodName := ⟨RX8, "isFigure", "(I)Z"⟩
abbrev cX8_next : ByteArray := prog_10_method_63_code
def yX8_next : MethodName := ⟨RX8, "next", "()V"⟩
abbrev cX8_word : ByteArray := prog_10_method_64_code
def yX8_word : MethodName := ⟨RX8, "word", "()J"⟩
abbrev cX8_orderBy : ByteArray := prog_10_method_65_code
def yX8_orderBy : MethodName := ⟨RX8, "orderBy", "(J)I"⟩
abbrev cX8_isNumber : ByteArray := prog_10_method_66_code
def yX8_isNumber : MethodName := ⟨RX8, "isNumber", "()Z"⟩
abbrev cX8_value : ByteArray := prog_10_method_67_code
def yX8_value : MethodName := ⟨RX8, "value", "()I"⟩
abbrev cX8_done : ByteArray := prog_10_method_68_code
def yX8_done : MethodName := ⟨RX8, "done", "(I)I"⟩
abbrev cX8_fails : ByteArray := prog_10_method_69_code
def yX8_fails : MethodName := ⟨RX8, "fails", "()I"⟩
abbrev cX8_run : ByteArray := prog_10_method_70_code
def yX8_run : MethodName := ⟨RX8, "run", "()I"⟩
abbrev cX8_many : ByteArray := prog_10_method_71_code
def yX8_many : MethodName := ⟨RX8, "many", "(III)I"⟩
abbrev cX8_count : ByteArray := prog_10_method_72_code
def yX8_count : MethodName := ⟨RX8, "count", "(I)I"⟩
abbrev cX8_greatest : ByteArray := prog_10_method_73_code
def yX8_greatest : MethodName := ⟨RX8, "greatest", "(I)I"⟩
abbrev cX8_block : ByteArray := prog_10_method_74_code
def yX8_block : MethodName := ⟨RX8, "block", "(II)I"⟩
abbrev cX8_chair : ByteArray := prog_10_method_75_code
def yX8_chair : MethodName := ⟨RX8, "chair", "(I)I"⟩
abbrev cX8_holdOf : ByteArray := prog_10_method_76_code
def yX8_holdOf : MethodName := ⟨RX8, "holdOf", "(II)I"⟩
abbrev cX8_ticket : ByteArray := prog_10_method_77_code
def yX8_ticket : MethodName := ⟨RX8, "ticket", "(II)I"⟩
abbrev cX8_place : ByteArray := prog_10_method_78_code
def yX8_place : MethodName := ⟨RX8, "place", "(II)I"⟩
abbrev cX8_wouldKill : ByteArray := prog_10_method_79_code
def yX8_wouldKill : MethodName := ⟨RX8, "wouldKill", "(I)I"⟩
abbrev cX8_chain : ByteArray := prog_10_method_80_code
def yX8_chain : MethodName := ⟨RX8, "chain", "(I)I"⟩
abbrev cX8_cheapest : ByteArray := prog_10_method_81_code
def yX8_cheapest : MethodName := ⟨RX8, "cheapest", "(I)I"⟩
abbrev cX8_nextExpiry : ByteArray := prog_10_method_82_code
def yX8_nextExpiry : MethodName := ⟨RX8, "nextExpiry", "()I"⟩
def RJ6 : String := "java/lang/Integer"
abbrev cJ6_bitCount_0f7a4 : ByteArray := prog_11_method_49_code
def yJ6_bitCount_0f7a4 : MethodName := ⟨RJ6, "bitCount", "(I)I"⟩
def RJ0 : String := "java/lang/String"
abbrev cJ0_length_8abf5 : ByteArray := prog_12_method_54_code
def yJ0_length_8abf5 : MethodName := ⟨RJ0, "length", "()I"⟩
abbrev cJ0_charAt_5068e : ByteArray := prog_12_method_56_code
def yJ0_charAt_5068e : MethodName := ⟨RJ0, "charAt", "(I)C"⟩
abbrev cJ0_coder_7d493 : ByteArray := prog_12_method_152_code
def yJ0_coder_7d493 : MethodName := ⟨RJ0, "coder", "()B"⟩
abbrev cJ0_isLatin1_aae02 : ByteArray := prog_12_method_154_code
def yJ0_isLatin1_aae02 : MethodName := ⟨RJ0, "isLatin1", "()Z"⟩
abbrev cJ0_checkIndex_df160 : ByteArray := prog_12_method_155_code
def yJ0_checkIndex_df160 : MethodName := ⟨RJ0, "checkIndex", "(II)V"⟩
def RJ1 : String := "java/lang/StringLatin1"
abbrev cJ1_charAt_3b067 : ByteArray := prog_13_method_2_code
def yJ1_charAt_3b067 : MethodName := ⟨RJ1, "charAt", "([BI)C"⟩
def RJ2 : String := "java/lang/StringUTF16"
abbrev cJ2_getChar_3b067 : ByteArray := prog_14_method_5_code
def yJ2_getChar_3b067 : MethodName := ⟨RJ2, "getChar", "([BI)C"⟩
abbrev cJ2_length_9d52b : ByteArray := prog_14_method_6_code
def yJ2_length_9d52b : MethodName := ⟨RJ2, "length", "([B)I"⟩
abbrev cJ2_charAt_3b067 : ByteArray := prog_14_method_83_code
def yJ2_charAt_3b067 : MethodName := ⟨RJ2, "charAt", "([BI)C"⟩
abbrev cJ2_checkIndex_2214a : ByteArray := prog_14_method_91_code
def yJ2_checkIndex_2214a : MethodName := ⟨RJ2, "checkIndex", "(I[B)V"⟩
def RJ10 : String := "java/lang/System"
def RJ3 : String := "jdk/internal/util/Preconditions"
abbrev cJ3_checkIndex_8e157 : ByteArray := prog_16_method_11_code
def yJ3_checkIndex_8e157 : MethodName := ⟨RJ3, "checkIndex", "(IILjava/util/function/BiFunction;)I"⟩
def RL : String := "SightBlocksLaw"
abbrev cL_law : ByteArray := code
def yL_law : MethodName := ⟨RL, "law", "([I)Z"⟩
abbrev vwCl : List vw_C := [(RX0, TX0, 3), (RX1, TX1, 6), (RX2, TX2, 3), (RX3, TX3, 5), (RX4, TX4, 5), (RX5, TX5, 10), (RX6, TX6, 5), (RX7, TX7, 4), (RX8, TX8, 12)]
end
section
/-! tables of the methods: by program out of the claim's NAMES and JAVAP -/
def nth {α : Type} : List α → Nat → Option α
  | [], _ => none
  | a :: _, 0 => some a
  | _ :: l, n + 1 => nth l n
def fnd : List (Nat × Instr × Nat) → Nat → Option (Instr × Nat)
  | [], _ => none
  | q :: l, pc => bif Nat.beq q.1 pc then some q.2 else fnd l pc
/-- name, code, its locals, its answer, its class, its parameters without the receiver, static, rooms, longs in locals, instructions -/
abbrev ME : Type := MethodName × ByteArray × Nat × Option FieldType × Nat × Nat × Bool × Nat × Nat × Bool × List (Nat × Instr × Nat)
abbrev eY (e : ME) : MethodName := e.1
abbrev eB (e : ME) : ByteArray := e.2.1
abbrev eL (e : ME) : Nat := e.2.2.1
abbrev eR (e : ME) : Option FieldType := e.2.2.2.1
abbrev eO (e : ME) : Nat := e.2.2.2.2.1
abbrev eN (e : ME) : Nat := e.2.2.2.2.2.1
abbrev eS (e : ME) : Bool := e.2.2.2.2.2.2.1
abbrev eF (e : ME) : Nat := e.2.2.2.2.2.2.2.1
abbrev eW (e : ME) : Nat := e.2.2.2.2.2.2.2.2.1
abbrev eG (e : ME) : Bool := e.2.2.2.2.2.2.2.2.2.1
abbrev eI (e : ME) : List (Nat × Instr × Nat) := e.2.2.2.2.2.2.2.2.2.2
def ownS : Nat → String := fun k => (nth [RX0, RX1, RX2, RX3, RX4, RX5, RX6, RX7, RX8, RL, RJ6, RJ0, RJ1, RJ3] k).getD ""
def I_X0_copyFrom : List (Nat × Instr × Nat) := [(0, .aload_n 0, 1), (1, .aload_n 1, 1), (2, .getfield 7, 3), (5, .putfield 7, 3), (8, .aload_n 0, 1), (9, .aload_n 1, 1), (10, .getfield 13, 3), (13, .putfield 13, 3), (16, .aload_n 0, 1), (17, .aload_n 1, 1), (18, .getfield 16, 3), (21, .putfield 16, 3), (24, .return_, 1)]
set_option maxRecDepth 20000 in
theorem dc_X0_copyFrom : ∀ q ∈ I_X0_copyFrom, decode cX0_copyFrom q.1 = .ok q.2 := by decide +kernel
def I_X1_copyFrom : List (Nat × Instr × Nat) := [(0, .iconst 0, 1), (1, .istore_n 2, 1), (2, .iload_n 2, 1), (3, .bipush 6, 2), (5, .if_icmp .ge 24, 3), (8, .aload_n 0, 1), (9, .getfield 11, 3), (12, .iload_n 2, 1), (13, .aaload, 1), (14, .aload_n 1, 1), (15, .getfield 11, 3), (18, .iload_n 2, 1), (19, .aaload, 1), (20, .invokevirtual 25, 3), (23, .iinc 2 1, 3), (26, .goto (-24), 3), (29, .aload_n 1, 1), (30, .getfield 18, 3), (33, .iconst 0, 1), (34, .aload_n 0, 1), (35, .getfield 18, 3), (38, .iconst 0, 1), (39, .sipush 600, 3), (42, .invokestatic 29, 3), (45, .aload_n 1, 1), (46, .getfield 22, 3), (49, .iconst 0, 1), (50, .aload_n 0, 1), (51, .getfield 22, 3), (54, .iconst 0, 1), (55, .sipush 600, 3), (58, .invokestatic 29, 3), (61, .aload_n 0, 1), (62, .aload_n 1, 1), (63, .getfield 35, 3), (66, .putfield 35, 3), (69, .aload_n 0, 1), (70, .aload_n 1, 1), (71, .getfield 39, 3), (74, .putfield 39, 3), (77, .aload_n 0, 1), (78, .aload_n 1, 1), (79, .getfield 42, 3), (82, .putfield 42, 3), (85, .return_, 1)]
set_option maxRecDepth 20000 in
theorem dc_X1_copyFrom : ∀ q ∈ I_X1_copyFrom, decode cX1_copyFrom q.1 = .ok q.2 := by decide +kernel
def I_X1_makeBlock : List (Nat × Instr × Nat) := [(0, .iload_n 1, 1), (1, .iconst 1, 1), (2, .if_icmp .lt 20, 3), (5, .iload_n 1, 1), (6, .bipush 6, 2), (8, .if_icmp .gt 14, 3), (11, .iload_n 2, 1), (12, .iconst 1, 1), (13, .if_icmp .lt 9, 3), (16, .iload_n 2, 1), (17, .bipush 10, 2), (19, .if_icmp .le 5, 3), (22, .iconst (-1), 1), (23, .ireturn, 1), (24, .iload_n 3, 1), (25, .iconst 1, 1), (26, .if_icmp .lt 10, 3), (29, .iload_n 3, 1), (30, .sipush 500, 3), (33, .if_icmp .le 5, 3), (36, .iconst (-1), 1), (37, .ireturn, 1), (38, .aload_n 0, 1), (39, .getfield 35, 3), (42, .bipush 6, 2), (44, .if_icmp .lt 6, 3), (47, .bipush (-3), 2), (49, .ireturn, 1), (50, .aload_n 0, 1), (51, .getfield 11, 3), (54, .aload_n 0, 1), (55, .getfield 35, 3), (58, .aaload, 1), (59, .astore 4, 2), (61, .aload 4, 2), (63, .iload_n 1, 1), (64, .putfield 45, 3), (67, .aload 4, 2), (69, .iload_n 2, 1), (70, .putfield 48, 3), (73, .aload 4, 2), (75, .iload_n 3, 1), (76, .putfield 51, 3), (79, .aload_n 0, 1), (80, .dup, 1), (81, .getfield 35, 3), (84, .iconst 1, 1), (85, .iadd, 1), (86, .putfield 35, 3), (89, .aload_n 0, 1), (90, .getfield 35, 3), (93, .iconst 1, 1), (94, .isub, 1), (95, .ireturn, 1)]
set_option maxRecDepth 20000 in
theorem dc_X1_makeBlock : ∀ q ∈ I_X1_makeBlock, decode cX1_makeBlock q.1 = .ok q.2 := by decide +kernel
def I_X1_makeStage : List (Nat × Instr × Nat) := [(0, .aload_n 0, 1), (1, .getfield 39, 3), (4, .iconst 4, 1), (5, .if_icmp .lt 6, 3), (8, .bipush (-3), 2), (10, .ireturn, 1), (11, .aload_n 0, 1), (12, .dup, 1), (13, .getfield 39, 3), (16, .iconst 1, 1), (17, .iadd, 1), (18, .putfield 39, 3), (21, .aload_n 0, 1), (22, .getfield 39, 3), (25, .iconst 1, 1), (26, .isub, 1), (27, .ireturn, 1)]
set_option maxRecDepth 20000 in
theorem dc_X1_makeStage : ∀ q ∈ I_X1_makeStage, decode cX1_makeStage q.1 = .ok q.2 := by decide +kernel
def I_X1_makePiece : List (Nat × Instr × Nat) := [(0, .aload_n 0, 1), (1, .iload_n 1, 1), (2, .invokevirtual 54, 3), (5, .ifCond .eq 12, 3), (8, .aload_n 0, 1), (9, .iload_n 2, 1), (10, .iload_n 3, 1), (11, .invokevirtual 58, 3), (14, .ifCond .ne 5, 3), (17, .iconst (-1), 1), (18, .ireturn, 1), (19, .aload_n 0, 1), (20, .iload_n 1, 1), (21, .invokevirtual 62, 3), (24, .ifCond .eq 6, 3), (27, .bipush (-2), 2), (29, .ireturn, 1), (30, .iload_n 2, 1), (31, .istore 4, 2), (33, .iload 4, 2), (35, .iload_n 3, 1), (36, .if_icmp .gt 46, 3), (39, .iload 4, 2), (41, .bipush 10, 2), (43, .irem, 1), (44, .iload_n 2, 1), (45, .bipush 10, 2), (47, .irem, 1), (48, .if_icmp .lt 28, 3), (51, .iload 4, 2), (53, .bipush 10, 2), (55, .irem, 1), (56, .iload_n 3, 1), (57, .bipush 10, 2), (59, .irem, 1), (60, .if_icmp .gt 16, 3), (63, .aload_n 0, 1), (64, .getfield 22, 3), (67, .iload 4, 2), (69, .dup2, 1), (70, .iaload, 1), (71, .iconst 1, 1), (72, .iload_n 1, 1), (73, .ishl, 1), (74, .ior, 1), (75, .iastore, 1), (76, .iinc 4 1, 3), (79, .goto (-46), 3), (82, .aload_n 0, 1), (83, .iconst 1, 1), (84, .iload_n 1, 1), (85, .ishl, 1), (86, .invokevirtual 65, 3), (89, .ireturn, 1)]
set_option maxRecDepth 20000 in
theorem dc_X1_makePiece : ∀ q ∈ I_X1_makePiece, decode cX1_makePiece q.1 = .ok q.2 := by decide +kernel
def I_X1_raiseStage : List (Nat × Instr × Nat) := [(0, .aload_n 0, 1), (1, .iload_n 1, 1), (2, .invokevirtual 54, 3), (5, .ifCond .ne 5, 3), (8, .iconst (-1), 1), (9, .ireturn, 1), (10, .aload_n 0, 1), (11, .iload_n 1, 1), (12, .invokevirtual 62, 3), (15, .ifCond .ne 13, 3), (18, .aload_n 0, 1), (19, .iconst 1, 1), (20, .iload_n 1, 1), (21, .ishl, 1), (22, .invokevirtual 69, 3), (25, .ifCond .eq 6, 3), (28, .bipush (-2), 2), (30, .ireturn, 1), (31, .aload_n 0, 1), (32, .dup, 1), (33, .getfield 42, 3), (36, .iconst 1, 1), (37, .iload_n 1, 1), (38, .ishl, 1), (39, .ior, 1), (40, .putfield 42, 3), (43, .aload_n 0, 1), (44, .aload_n 0, 1), (45, .getfield 42, 3), (48, .invokevirtual 65, 3), (51, .ireturn, 1)]
set_option maxRecDepth 20000 in
theorem dc_X1_raiseStage : ∀ q ∈ I_X1_raiseStage, decode cX1_raiseStage q.1 = .ok q.2 := by decide +kernel
def I_X1_lowerStage : List (Nat × Instr × Nat) := [(0, .aload_n 0, 1), (1, .iload_n 1, 1), (2, .invokevirtual 54, 3), (5, .ifCond .ne 5, 3), (8, .iconst (-1), 1), (9, .ireturn, 1), (10, .aload_n 0, 1), (11, .iload_n 1, 1), (12, .invokevirtual 62, 3), (15, .ifCond .ne 6, 3), (18, .bipush (-2), 2), (20, .ireturn, 1), (21, .aload_n 0, 1), (22, .dup, 1), (23, .getfield 42, 3), (26, .iconst 1, 1), (27, .iload_n 1, 1), (28, .ishl, 1), (29, .iconst (-1), 1), (30, .ixor, 1), (31, .iand, 1), (32, .putfield 42, 3), (35, .aload_n 0, 1), (36, .aload_n 0, 1), (37, .getfield 42, 3), (40, .invokevirtual 65, 3), (43, .ireturn, 1)]
set_option maxRecDepth 20000 in
theorem dc_X1_lowerStage : ∀ q ∈ I_X1_lowerStage, decode cX1_lowerStage q.1 = .ok q.2 := by decide +kernel
def I_X1_newlyKilled : List (Nat × Instr × Nat) := [(0, .aload_n 0, 1), (1, .iload_n 1, 1), (2, .invokevirtual 54, 3), (5, .ifCond .ne 5, 3), (8, .iconst (-1), 1), (9, .ireturn, 1), (10, .aload_n 0, 1), (11, .aload_n 0, 1), (12, .getfield 42, 3), (15, .iconst 1, 1), (16, .iload_n 1, 1), (17, .ishl, 1), (18, .ior, 1), (19, .invokevirtual 65, 3), (22, .aload_n 0, 1), (23, .aload_n 0, 1), (24, .getfield 42, 3), (27, .invokevirtual 65, 3), (30, .isub, 1), (31, .ireturn, 1)]
set_option maxRecDepth 20000 in
theorem dc_X1_newlyKilled : ∀ q ∈ I_X1_newlyKilled, decode cX1_newlyKilled q.1 = .ok q.2 := by decide +kernel
def I_X1_stagesThatAreUp : List (Nat × Instr × Nat) := [(0, .aload_n 0, 1), (1, .getfield 42, 3), (4, .invokestatic 72, 3), (7, .ireturn, 1)]
set_option maxRecDepth 20000 in
theorem dc_X1_stagesThatAreUp : ∀ q ∈ I_X1_stagesThatAreUp, decode cX1_stagesThatAreUp q.1 = .ok q.2 := by decide +kernel
def I_X1_blockAt : List (Nat × Instr × Nat) := [(0, .iload_n 1, 1), (1, .ifCond .lt 20, 3), (4, .iload_n 1, 1), (5, .aload_n 0, 1), (6, .getfield 35, 3), (9, .if_icmp .ge 12, 3), (12, .aload_n 0, 1), (13, .getfield 11, 3), (16, .iload_n 1, 1), (17, .aaload, 1), (18, .goto 4, 3), (21, .aconst_null, 1), (22, .areturn, 1)]
set_option maxRecDepth 20000 in
theorem dc_X1_blockAt : ∀ q ∈ I_X1_blockAt, decode cX1_blockAt q.1 = .ok q.2 := by decide +kernel
def I_X1_rankOf : List (Nat × Instr × Nat) := [(0, .aload_n 0, 1), (1, .iload_n 1, 1), (2, .invokevirtual 77, 3), (5, .astore_n 2, 1), (6, .iconst 0, 1), (7, .istore_n 3, 1), (8, .iconst 0, 1), (9, .istore 4, 2), (11, .aload_n 2, 1), (12, .ifnull 38, 3), (15, .iload 4, 2), (17, .aload_n 0, 1), (18, .getfield 35, 3), (21, .if_icmp .ge 29, 3), (24, .aload_n 0, 1), (25, .getfield 11, 3), (28, .iload 4, 2), (30, .aaload, 1), (31, .getfield 51, 3), (34, .aload_n 2, 1), (35, .getfield 51, 3), (38, .if_icmp .ge 6, 3), (41, .iinc 3 1, 3), (44, .iinc 4 1, 3), (47, .goto (-36), 3), (50, .iload_n 3, 1), (51, .ireturn, 1)]
set_option maxRecDepth 20000 in
theorem dc_X1_rankOf : ∀ q ∈ I_X1_rankOf, decode cX1_rankOf q.1 = .ok q.2 := by decide +kernel
def I_X1_priceOf : List (Nat × Instr × Nat) := [(0, .aload_n 0, 1), (1, .iload_n 1, 1), (2, .invokevirtual 77, 3), (5, .astore_n 2, 1), (6, .aload_n 2, 1), (7, .ifnonnull 7, 3), (10, .iconst 0, 1), (11, .goto 7, 3), (14, .aload_n 2, 1), (15, .getfield 51, 3), (18, .ireturn, 1)]
set_option maxRecDepth 20000 in
theorem dc_X1_priceOf : ∀ q ∈ I_X1_priceOf, decode cX1_priceOf q.1 = .ok q.2 := by decide +kernel
def I_X1_chairFigure : List (Nat × Instr × Nat) := [(0, .aload_n 0, 1), (1, .iload_n 1, 1), (2, .invokevirtual 81, 3), (5, .ifCond .ne 5, 3), (8, .iconst (-1), 1), (9, .ireturn, 1), (10, .aload_n 0, 1), (11, .getfield 22, 3), (14, .iload_n 1, 1), (15, .iaload, 1), (16, .aload_n 0, 1), (17, .getfield 42, 3), (20, .iand, 1), (21, .ifCond .eq 7, 3), (24, .iconst 1, 1), (25, .goto 4, 3), (28, .iconst 0, 1), (29, .istore_n 2, 1), (30, .iload_n 2, 1), (31, .ifCond .eq 15, 3), (34, .aload_n 0, 1), (35, .getfield 18, 3), (38, .iload_n 1, 1), (39, .iaload, 1), (40, .bipush 10, 2), (42, .iadd, 1), (43, .goto 9, 3), (46, .aload_n 0, 1), (47, .getfield 18, 3), (50, .iload_n 1, 1), (51, .iaload, 1), (52, .ireturn, 1)]
set_option maxRecDepth 20000 in
theorem dc_X1_chairFigure : ∀ q ∈ I_X1_chairFigure, decode cX1_chairFigure q.1 = .ok q.2 := by decide +kernel
def I_X1_blockFigure : List (Nat × Instr × Nat) := [(0, .aload_n 0, 1), (1, .iload_n 1, 1), (2, .invokevirtual 77, 3), (5, .astore_n 3, 1), (6, .aload_n 3, 1), (7, .ifnonnull 5, 3), (10, .iconst (-1), 1), (11, .ireturn, 1), (12, .iload_n 2, 1), (13, .tableswitch 118 0 8 #[51, 61, 74, 81, 88, 95, 101, 107, 112], 51), (64, .aload_n 3, 1), (65, .getfield 45, 3), (68, .aload_n 3, 1), (69, .getfield 48, 3), (72, .imul, 1), (73, .ireturn, 1), (74, .aload_n 0, 1), (75, .iconst 0, 1), (76, .iload_n 1, 1), (77, .invokevirtual 84, 3), (80, .aload_n 0, 1), (81, .iload_n 1, 1), (82, .invokevirtual 88, 3), (85, .isub, 1), (86, .ireturn, 1), (87, .aload_n 0, 1), (88, .iconst 1, 1), (89, .iload_n 1, 1), (90, .invokevirtual 84, 3), (93, .ireturn, 1), (94, .aload_n 0, 1), (95, .iconst 2, 1), (96, .iload_n 1, 1), (97, .invokevirtual 84, 3), (100, .ireturn, 1), (101, .aload_n 0, 1), (102, .iconst 3, 1), (103, .iload_n 1, 1), (104, .invokevirtual 84, 3), (107, .ireturn, 1), (108, .aload_n 0, 1), (109, .iload_n 1, 1), (110, .invokevirtual 88, 3), (113, .ireturn, 1), (114, .aload_n 0, 1), (115, .iload_n 1, 1), (116, .invokevirtual 91, 3), (119, .ireturn, 1), (120, .aload_n 3, 1), (121, .getfield 51, 3), (124, .ireturn, 1), (125, .aload_n 0, 1), (126, .iload_n 1, 1), (127, .invokevirtual 94, 3), (130, .ireturn, 1), (131, .iconst (-1), 1), (132, .ireturn, 1)]
set_option maxRecDepth 20000 in
theorem dc_X1_blockFigure : ∀ q ∈ I_X1_blockFigure, decode cX1_blockFigure q.1 = .ok q.2 := by decide +kernel
def I_X1_chairsIn : List (Nat × Instr × Nat) := [(0, .iconst 0, 1), (1, .istore_n 1, 1), (2, .iconst 0, 1), (3, .istore_n 2, 1), (4, .iload_n 2, 1), (5, .aload_n 0, 1), (6, .getfield 35, 3), (9, .if_icmp .ge 18, 3), (12, .iload_n 1, 1), (13, .aload_n 0, 1), (14, .iconst 3, 1), (15, .iload_n 2, 1), (16, .invokevirtual 84, 3), (19, .iadd, 1), (20, .istore_n 1, 1), (21, .iinc 2 1, 3), (24, .goto (-20), 3), (27, .iload_n 1, 1), (28, .ireturn, 1)]
set_option maxRecDepth 20000 in
theorem dc_X1_chairsIn : ∀ q ∈ I_X1_chairsIn, decode cX1_chairsIn q.1 = .ok q.2 := by decide +kernel
def I_X1_mark : List (Nat × Instr × Nat) := [(0, .iload_n 1, 1), (1, .ifCond .lt 16, 3), (4, .iload_n 2, 1), (5, .bipush 10, 2), (7, .if_icmp .gt 10, 3), (10, .iload_n 1, 1), (11, .sipush 590, 3), (14, .if_icmp .le 4, 3), (17, .return_, 1), (18, .iconst 0, 1), (19, .istore 4, 2), (21, .iload 4, 2), (23, .iload_n 2, 1), (24, .if_icmp .ge 19, 3), (27, .aload_n 0, 1), (28, .getfield 18, 3), (31, .iload_n 1, 1), (32, .iload 4, 2), (34, .iadd, 1), (35, .iload_n 3, 1), (36, .iastore, 1), (37, .iinc 4 1, 3), (40, .goto (-19), 3), (43, .return_, 1)]
set_option maxRecDepth 20000 in
theorem dc_X1_mark : ∀ q ∈ I_X1_mark, decode cX1_mark q.1 = .ok q.2 := by decide +kernel
def I_X1_findPlace : List (Nat × Instr × Nat) := [(0, .aload_n 0, 1), (1, .iload_n 1, 1), (2, .invokevirtual 77, 3), (5, .astore_n 3, 1), (6, .aload_n 3, 1), (7, .ifnull 10, 3), (10, .iload_n 2, 1), (11, .invokestatic 97, 3), (14, .ifCond .ne 6, 3), (17, .bipush (-9), 2), (19, .ireturn, 1), (20, .bipush (-9), 2), (22, .istore 4, 2), (24, .bipush 10, 2), (26, .istore 5, 2), (28, .iconst 0, 1), (29, .istore 6, 2), (31, .iload 6, 2), (33, .aload_n 3, 1), (34, .getfield 45, 3), (37, .if_icmp .ge 89, 3), (40, .aload_n 0, 1), (41, .aload_n 3, 1), (42, .iload_n 1, 1), (43, .iload 6, 2), (45, .invokevirtual 100, 3), (48, .istore 7, 2), (50, .iconst 0, 1), (51, .istore 8, 2), (53, .iload 8, 2), (55, .iload_n 2, 1), (56, .iadd, 1), (57, .aload_n 3, 1), (58, .getfield 48, 3), (61, .if_icmp .gt 59, 3), (64, .iload 7, 2), (66, .iload 8, 2), (68, .iload_n 2, 1), (69, .invokestatic 104, 3), (72, .ifCond .ne 6, 3), (75, .goto 39, 3), (78, .iload 7, 2), (80, .iload 8, 2), (82, .iload_n 2, 1), (83, .invokestatic 108, 3), (86, .istore 9, 2), (88, .iload 9, 2), (90, .iload 5, 2), (92, .if_icmp .ge 22, 3), (95, .iload 9, 2), (97, .istore 5, 2), (99, .iload_n 1, 1), (100, .bipush 100, 2), (102, .imul, 1), (103, .iload 6, 2), (105, .bipush 10, 2), (107, .imul, 1), (108, .iadd, 1), (109, .iload 8, 2), (111, .iadd, 1), (112, .istore 4, 2), (114, .iinc 8 1, 3), (117, .goto (-64), 3), (120, .iinc 6 1, 3), (123, .goto (-92), 3), (126, .iload 4, 2), (128, .ireturn, 1)]
set_option maxRecDepth 20000 in
theorem dc_X1_findPlace : ∀ q ∈ I_X1_findPlace, decode cX1_findPlace q.1 = .ok q.2 := by decide +kernel
def I_X1_greatestGroup : List (Nat × Instr × Nat) := [(0, .bipush 10, 2), (2, .istore_n 2, 1), (3, .iload_n 2, 1), (4, .ifCond .le 22, 3), (7, .aload_n 0, 1), (8, .iload_n 1, 1), (9, .iload_n 2, 1), (10, .invokevirtual 112, 3), (13, .bipush (-9), 2), (15, .if_icmp .eq 5, 3), (18, .iload_n 2, 1), (19, .ireturn, 1), (20, .iinc 2 (-1), 3), (23, .goto (-20), 3), (26, .iconst 0, 1), (27, .ireturn, 1)]
set_option maxRecDepth 20000 in
theorem dc_X1_greatestGroup : ∀ q ∈ I_X1_greatestGroup, decode cX1_greatestGroup q.1 = .ok q.2 := by decide +kernel
def I_X1_cheapestFor : List (Nat × Instr × Nat) := [(0, .bipush (-9), 2), (2, .istore_n 2, 1), (3, .iconst 0, 1), (4, .istore_n 3, 1), (5, .iload_n 3, 1), (6, .aload_n 0, 1), (7, .getfield 35, 3), (10, .if_icmp .ge 53, 3), (13, .iload_n 2, 1), (14, .bipush (-9), 2), (16, .if_icmp .eq 16, 3), (19, .aload_n 0, 1), (20, .iload_n 3, 1), (21, .invokevirtual 115, 3), (24, .aload_n 0, 1), (25, .iload_n 2, 1), (26, .invokevirtual 115, 3), (29, .if_icmp .ge 7, 3), (32, .iconst 1, 1), (33, .goto 4, 3), (36, .iconst 0, 1), (37, .istore 4, 2), (39, .iload 4, 2), (41, .ifCond .eq 16, 3), (44, .aload_n 0, 1), (45, .iload_n 3, 1), (46, .iload_n 1, 1), (47, .invokevirtual 112, 3), (50, .bipush (-9), 2), (52, .if_icmp .eq 5, 3), (55, .iload_n 3, 1), (56, .istore_n 2, 1), (57, .iinc 3 1, 3), (60, .goto (-55), 3), (63, .iload_n 2, 1), (64, .ireturn, 1)]
set_option maxRecDepth 20000 in
theorem dc_X1_cheapestFor : ∀ q ∈ I_X1_cheapestFor, decode cX1_cheapestFor q.1 = .ok q.2 := by decide +kernel
def I_X1_upgradeFor : List (Nat × Instr × Nat) := [(0, .bipush (-9), 2), (2, .istore_n 3, 1), (3, .aload_n 0, 1), (4, .iload_n 1, 1), (5, .invokevirtual 91, 3), (8, .istore 4, 2), (10, .iconst 0, 1), (11, .istore 5, 2), (13, .iload 5, 2), (15, .aload_n 0, 1), (16, .getfield 35, 3), (19, .if_icmp .ge 43, 3), (22, .aload_n 0, 1), (23, .iload 5, 2), (25, .invokevirtual 91, 3), (28, .istore 6, 2), (30, .iload 6, 2), (32, .iload 4, 2), (34, .if_icmp .le 22, 3), (37, .aload_n 0, 1), (38, .iload 5, 2), (40, .iload_n 2, 1), (41, .invokevirtual 112, 3), (44, .bipush (-9), 2), (46, .if_icmp .eq 10, 3), (49, .iload 5, 2), (51, .istore_n 3, 1), (52, .iload 6, 2), (54, .istore 4, 2), (56, .iinc 5 1, 3), (59, .goto (-46), 3), (62, .iload_n 3, 1), (63, .ireturn, 1)]
set_option maxRecDepth 20000 in
theorem dc_X1_upgradeFor : ∀ q ∈ I_X1_upgradeFor, decode cX1_upgradeFor q.1 = .ok q.2 := by decide +kernel
def I_X1_isGroup : List (Nat × Instr × Nat) := [(0, .iload_n 0, 1), (1, .iconst 1, 1), (2, .if_icmp .lt 13, 3), (5, .iload_n 0, 1), (6, .bipush 10, 2), (8, .if_icmp .gt 7, 3), (11, .iconst 1, 1), (12, .goto 4, 3), (15, .iconst 0, 1), (16, .ireturn, 1)]
set_option maxRecDepth 20000 in
theorem dc_X1_isGroup : ∀ q ∈ I_X1_isGroup, decode cX1_isGroup q.1 = .ok q.2 := by decide +kernel
def I_X1_isStage : List (Nat × Instr × Nat) := [(0, .iload_n 1, 1), (1, .ifCond .lt 15, 3), (4, .iload_n 1, 1), (5, .aload_n 0, 1), (6, .getfield 39, 3), (9, .if_icmp .ge 7, 3), (12, .iconst 1, 1), (13, .goto 4, 3), (16, .iconst 0, 1), (17, .ireturn, 1)]
set_option maxRecDepth 20000 in
theorem dc_X1_isStage : ∀ q ∈ I_X1_isStage, decode cX1_isStage q.1 = .ok q.2 := by decide +kernel
def I_X1_isUp : List (Nat × Instr × Nat) := [(0, .aload_n 0, 1), (1, .getfield 42, 3), (4, .iload_n 1, 1), (5, .ishr, 1), (6, .iconst 1, 1), (7, .iand, 1), (8, .iconst 1, 1), (9, .if_icmp .ne 7, 3), (12, .iconst 1, 1), (13, .goto 4, 3), (16, .iconst 0, 1), (17, .ireturn, 1)]
set_option maxRecDepth 20000 in
theorem dc_X1_isUp : ∀ q ∈ I_X1_isUp, decode cX1_isUp q.1 = .ok q.2 := by decide +kernel
def I_X1_isChair : List (Nat × Instr × Nat) := [(0, .iload_n 1, 1), (1, .ifCond .ge 5, 3), (4, .iconst 0, 1), (5, .ireturn, 1), (6, .aload_n 0, 1), (7, .iload_n 1, 1), (8, .bipush 100, 2), (10, .idiv, 1), (11, .invokevirtual 77, 3), (14, .astore_n 2, 1), (15, .aload_n 2, 1), (16, .ifnonnull 5, 3), (19, .iconst 0, 1), (20, .ireturn, 1), (21, .iload_n 1, 1), (22, .bipush 100, 2), (24, .irem, 1), (25, .bipush 10, 2), (27, .idiv, 1), (28, .istore_n 3, 1), (29, .iload_n 3, 1), (30, .aload_n 2, 1), (31, .getfield 45, 3), (34, .if_icmp .ge 18, 3), (37, .iload_n 1, 1), (38, .bipush 10, 2), (40, .irem, 1), (41, .aload_n 2, 1), (42, .getfield 48, 3), (45, .if_icmp .ge 7, 3), (48, .iconst 1, 1), (49, .goto 4, 3), (52, .iconst 0, 1), (53, .ireturn, 1)]
set_option maxRecDepth 20000 in
theorem dc_X1_isChair : ∀ q ∈ I_X1_isChair, decode cX1_isChair q.1 = .ok q.2 := by decide +kernel
def I_X1_isPiece : List (Nat × Instr × Nat) := [(0, .aload_n 0, 1), (1, .iload_n 1, 1), (2, .invokevirtual 81, 3), (5, .ifCond .eq 11, 3), (8, .aload_n 0, 1), (9, .iload_n 2, 1), (10, .invokevirtual 81, 3), (13, .ifCond .ne 5, 3), (16, .iconst 0, 1), (17, .ireturn, 1), (18, .iload_n 1, 1), (19, .bipush 100, 2), (21, .idiv, 1), (22, .iload_n 2, 1), (23, .bipush 100, 2), (25, .idiv, 1), (26, .if_icmp .ne 7, 3), (29, .iconst 1, 1), (30, .goto 4, 3), (33, .iconst 0, 1), (34, .istore_n 3, 1), (35, .iload_n 3, 1), (36, .ifCond .eq 23, 3), (39, .iload_n 1, 1), (40, .iload_n 2, 1), (41, .if_icmp .gt 18, 3), (44, .iload_n 1, 1), (45, .bipush 10, 2), (47, .irem, 1), (48, .iload_n 2, 1), (49, .bipush 10, 2), (51, .irem, 1), (52, .if_icmp .gt 7, 3), (55, .iconst 1, 1), (56, .goto 4, 3), (59, .iconst 0, 1), (60, .ireturn, 1)]
set_option maxRecDepth 20000 in
theorem dc_X1_isPiece : ∀ q ∈ I_X1_isPiece, decode cX1_isPiece q.1 = .ok q.2 := by decide +kernel
def I_X1_chairsUnder : List (Nat × Instr × Nat) := [(0, .iconst 0, 1), (1, .istore_n 2, 1), (2, .iconst 0, 1), (3, .istore_n 3, 1), (4, .iload_n 3, 1), (5, .sipush 600, 3), (8, .if_icmp .ge 23, 3), (11, .aload_n 0, 1), (12, .getfield 22, 3), (15, .iload_n 3, 1), (16, .iaload, 1), (17, .iload_n 1, 1), (18, .iand, 1), (19, .ifCond .eq 6, 3), (22, .iinc 2 1, 3), (25, .iinc 3 1, 3), (28, .goto (-24), 3), (31, .iload_n 2, 1), (32, .ireturn, 1)]
set_option maxRecDepth 20000 in
theorem dc_X1_chairsUnder : ∀ q ∈ I_X1_chairsUnder, decode cX1_chairsUnder q.1 = .ok q.2 := by decide +kernel
def I_X1_hasTakenChairUnder : List (Nat × Instr × Nat) := [(0, .iconst 0, 1), (1, .istore_n 2, 1), (2, .iload_n 2, 1), (3, .sipush 600, 3), (6, .if_icmp .ge 31, 3), (9, .aload_n 0, 1), (10, .getfield 22, 3), (13, .iload_n 2, 1), (14, .iaload, 1), (15, .iload_n 1, 1), (16, .iand, 1), (17, .ifCond .eq 14, 3), (20, .aload_n 0, 1), (21, .getfield 18, 3), (24, .iload_n 2, 1), (25, .iaload, 1), (26, .ifCond .eq 5, 3), (29, .iconst 1, 1), (30, .ireturn, 1), (31, .iinc 2 1, 3), (34, .goto (-32), 3), (37, .iconst 0, 1), (38, .ireturn, 1)]
set_option maxRecDepth 20000 in
theorem dc_X1_hasTakenChairUnder : ∀ q ∈ I_X1_hasTakenChairUnder, decode cX1_hasTakenChairUnder q.1 = .ok q.2 := by decide +kernel
def I_X1_chairsThatAre : List (Nat × Instr × Nat) := [(0, .aload_n 0, 1), (1, .iload_n 2, 1), (2, .invokevirtual 77, 3), (5, .astore_n 3, 1), (6, .iconst 0, 1), (7, .istore 4, 2), (9, .iconst 0, 1), (10, .istore 5, 2), (12, .aload_n 3, 1), (13, .ifnull 65, 3), (16, .iload 5, 2), (18, .aload_n 3, 1), (19, .getfield 45, 3), (22, .if_icmp .ge 56, 3), (25, .iload_n 2, 1), (26, .bipush 100, 2), (28, .imul, 1), (29, .iload 5, 2), (31, .bipush 10, 2), (33, .imul, 1), (34, .iadd, 1), (35, .istore 6, 2), (37, .iconst 0, 1), (38, .istore 7, 2), (40, .iload 7, 2), (42, .aload_n 3, 1), (43, .getfield 48, 3), (46, .if_icmp .ge 26, 3), (49, .aload_n 0, 1), (50, .getfield 18, 3), (53, .iload 6, 2), (55, .iload 7, 2), (57, .iadd, 1), (58, .iaload, 1), (59, .iload_n 1, 1), (60, .if_icmp .ne 6, 3), (63, .iinc 4 1, 3), (66, .iinc 7 1, 3), (69, .goto (-29), 3), (72, .iinc 5 1, 3), (75, .goto (-63), 3), (78, .iload 4, 2), (80, .ireturn, 1)]
set_option maxRecDepth 20000 in
theorem dc_X1_chairsThatAre : ∀ q ∈ I_X1_chairsThatAre, decode cX1_chairsThatAre q.1 = .ok q.2 := by decide +kernel
def I_X1_usableIn : List (Nat × Instr × Nat) := [(0, .aload_n 0, 1), (1, .iload_n 1, 1), (2, .invokevirtual 77, 3), (5, .astore_n 2, 1), (6, .iconst 0, 1), (7, .istore_n 3, 1), (8, .iconst 0, 1), (9, .istore 4, 2), (11, .aload_n 2, 1), (12, .ifnull 32, 3), (15, .iload 4, 2), (17, .aload_n 2, 1), (18, .getfield 45, 3), (21, .if_icmp .ge 23, 3), (24, .iload_n 3, 1), (25, .aload_n 0, 1), (26, .aload_n 2, 1), (27, .iload_n 1, 1), (28, .iload 4, 2), (30, .invokevirtual 100, 3), (33, .invokestatic 72, 3), (36, .iadd, 1), (37, .istore_n 3, 1), (38, .iinc 4 1, 3), (41, .goto (-30), 3), (44, .iload_n 3, 1), (45, .ireturn, 1)]
set_option maxRecDepth 20000 in
theorem dc_X1_usableIn : ∀ q ∈ I_X1_usableIn, decode cX1_usableIn q.1 = .ok q.2 := by decide +kernel
def I_X1_usableInRow : List (Nat × Instr × Nat) := [(0, .iload_n 2, 1), (1, .bipush 100, 2), (3, .imul, 1), (4, .iload_n 3, 1), (5, .bipush 10, 2), (7, .imul, 1), (8, .iadd, 1), (9, .istore 4, 2), (11, .iconst 0, 1), (12, .istore 5, 2), (14, .iconst 0, 1), (15, .istore 6, 2), (17, .iload 6, 2), (19, .aload_n 1, 1), (20, .getfield 48, 3), (23, .if_icmp .ge 49, 3), (26, .aload_n 0, 1), (27, .getfield 18, 3), (30, .iload 4, 2), (32, .iload 6, 2), (34, .iadd, 1), (35, .iaload, 1), (36, .ifCond .ne 30, 3), (39, .aload_n 0, 1), (40, .getfield 22, 3), (43, .iload 4, 2), (45, .iload 6, 2), (47, .iadd, 1), (48, .iaload, 1), (49, .aload_n 0, 1), (50, .getfield 42, 3), (53, .iand, 1), (54, .ifCond .ne 12, 3), (57, .iload 5, 2), (59, .iconst 1, 1), (60, .iload 6, 2), (62, .ishl, 1), (63, .ior, 1), (64, .istore 5, 2), (66, .iinc 6 1, 3), (69, .goto (-52), 3), (72, .iload 5, 2), (74, .ireturn, 1)]
set_option maxRecDepth 20000 in
theorem dc_X1_usableInRow : ∀ q ∈ I_X1_usableInRow, decode cX1_usableInRow q.1 = .ok q.2 := by decide +kernel
def I_X1_hasRoom : List (Nat × Instr × Nat) := [(0, .iconst 1, 1), (1, .iload_n 2, 1), (2, .ishl, 1), (3, .iconst 1, 1), (4, .isub, 1), (5, .istore_n 3, 1), (6, .iload_n 0, 1), (7, .iload_n 1, 1), (8, .ishr, 1), (9, .iload_n 3, 1), (10, .iand, 1), (11, .iload_n 3, 1), (12, .if_icmp .ne 7, 3), (15, .iconst 1, 1), (16, .goto 4, 3), (19, .iconst 0, 1), (20, .ireturn, 1)]
set_option maxRecDepth 20000 in
theorem dc_X1_hasRoom : ∀ q ∈ I_X1_hasRoom, decode cX1_hasRoom q.1 = .ok q.2 := by decide +kernel
def I_X1_leftAlone : List (Nat × Instr × Nat) := [(0, .iload_n 0, 1), (1, .iconst 2, 1), (2, .ishl, 1), (3, .iload_n 1, 1), (4, .ishr, 1), (5, .iconst 3, 1), (6, .iand, 1), (7, .istore_n 3, 1), (8, .iload_n 0, 1), (9, .iload_n 1, 1), (10, .iload_n 2, 1), (11, .iadd, 1), (12, .ishr, 1), (13, .iconst 3, 1), (14, .iand, 1), (15, .istore 4, 2), (17, .iload_n 3, 1), (18, .iconst 2, 1), (19, .if_icmp .ne 7, 3), (22, .iconst 1, 1), (23, .goto 4, 3), (26, .iconst 0, 1), (27, .istore 5, 2), (29, .iload 4, 2), (31, .iconst 1, 1), (32, .if_icmp .ne 10, 3), (35, .iload 5, 2), (37, .iconst 1, 1), (38, .iadd, 1), (39, .goto 5, 3), (42, .iload 5, 2), (44, .ireturn, 1)]
set_option maxRecDepth 20000 in
theorem dc_X1_leftAlone : ∀ q ∈ I_X1_leftAlone, decode cX1_leftAlone q.1 = .ok q.2 := by decide +kernel
def I_X2_prepare : List (Nat × Instr × Nat) := [(0, .aload_n 0, 1), (1, .getfield 13, 3), (4, .aload_n 0, 1), (5, .getfield 18, 3), (8, .aload_n 0, 1), (9, .getfield 22, 3), (12, .iadd, 1), (13, .bipush 6, 2), (15, .irem, 1), (16, .aaload, 1), (17, .aload_n 1, 1), (18, .invokevirtual 25, 3), (21, .return_, 1)]
set_option maxRecDepth 20000 in
theorem dc_X2_prepare : ∀ q ∈ I_X2_prepare, decode cX2_prepare q.1 = .ok q.2 := by decide +kernel
def I_X2_keepPrepared : List (Nat × Instr × Nat) := [(0, .aload_n 0, 1), (1, .getfield 22, 3), (4, .iconst 5, 1), (5, .if_icmp .ge 16, 3), (8, .aload_n 0, 1), (9, .dup, 1), (10, .getfield 22, 3), (13, .iconst 1, 1), (14, .iadd, 1), (15, .putfield 22, 3), (18, .goto 16, 3), (21, .aload_n 0, 1), (22, .aload_n 0, 1), (23, .getfield 18, 3), (26, .iconst 1, 1), (27, .iadd, 1), (28, .bipush 6, 2), (30, .irem, 1), (31, .putfield 18, 3), (34, .return_, 1)]
set_option maxRecDepth 20000 in
theorem dc_X2_keepPrepared : ∀ q ∈ I_X2_keepPrepared, decode cX2_keepPrepared q.1 = .ok q.2 := by decide +kernel
def I_X2_takeBack : List (Nat × Instr × Nat) := [(0, .aload_n 1, 1), (1, .aload_n 0, 1), (2, .getfield 13, 3), (5, .aload_n 0, 1), (6, .getfield 18, 3), (9, .aload_n 0, 1), (10, .getfield 22, 3), (13, .iadd, 1), (14, .bipush 6, 2), (16, .irem, 1), (17, .aaload, 1), (18, .invokevirtual 25, 3), (21, .return_, 1)]
set_option maxRecDepth 20000 in
theorem dc_X2_takeBack : ∀ q ∈ I_X2_takeBack, decode cX2_takeBack q.1 = .ok q.2 := by decide +kernel
def I_X2_stepBack : List (Nat × Instr × Nat) := [(0, .aload_n 0, 1), (1, .getfield 22, 3), (4, .ifCond .ne 6, 3), (7, .bipush (-2), 2), (9, .ireturn, 1), (10, .aload_n 0, 1), (11, .dup, 1), (12, .getfield 22, 3), (15, .iconst 1, 1), (16, .isub, 1), (17, .putfield 22, 3), (20, .aload_n 1, 1), (21, .aload_n 0, 1), (22, .getfield 13, 3), (25, .aload_n 0, 1), (26, .getfield 18, 3), (29, .aload_n 0, 1), (30, .getfield 22, 3), (33, .iadd, 1), (34, .bipush 6, 2), (36, .irem, 1), (37, .aaload, 1), (38, .invokevirtual 25, 3), (41, .aload_n 0, 1), (42, .getfield 22, 3), (45, .ireturn, 1)]
set_option maxRecDepth 20000 in
theorem dc_X2_stepBack : ∀ q ∈ I_X2_stepBack, decode cX2_stepBack q.1 = .ok q.2 := by decide +kernel
def I_X3_copyFrom : List (Nat × Instr × Nat) := [(0, .aload_n 0, 1), (1, .aload_n 1, 1), (2, .getfield 7, 3), (5, .putfield 7, 3), (8, .aload_n 0, 1), (9, .aload_n 1, 1), (10, .getfield 13, 3), (13, .putfield 13, 3), (16, .aload_n 0, 1), (17, .aload_n 1, 1), (18, .getfield 16, 3), (21, .putfield 16, 3), (24, .aload_n 0, 1), (25, .aload_n 1, 1), (26, .getfield 19, 3), (29, .putfield 19, 3), (32, .aload_n 0, 1), (33, .aload_n 1, 1), (34, .getfield 22, 3), (37, .putfield 22, 3), (40, .return_, 1)]
set_option maxRecDepth 20000 in
theorem dc_X3_copyFrom : ∀ q ∈ I_X3_copyFrom, decode cX3_copyFrom q.1 = .ok q.2 := by decide +kernel
def I_X4_addCharacter : List (Nat × Instr × Nat) := [(0, .iload_n 1, 1), (1, .iconst 1, 1), (2, .if_icmp .lt 10, 3), (5, .iload_n 1, 1), (6, .sipush 255, 3), (9, .if_icmp .le 5, 3), (12, .iconst (-1), 1), (13, .ireturn, 1), (14, .aload_n 0, 1), (15, .getfield 19, 3), (18, .bipush 120, 2), (20, .if_icmp .lt 6, 3), (23, .bipush (-3), 2), (25, .ireturn, 1), (26, .aload_n 0, 1), (27, .getfield 9, 3), (30, .aload_n 0, 1), (31, .getfield 19, 3), (34, .iload_n 1, 1), (35, .i2c, 1), (36, .castore, 1), (37, .aload_n 0, 1), (38, .dup, 1), (39, .getfield 19, 3), (42, .iconst 1, 1), (43, .iadd, 1), (44, .putfield 19, 3), (47, .aload_n 0, 1), (48, .getfield 19, 3), (51, .ireturn, 1)]
set_option maxRecDepth 20000 in
theorem dc_X4_addCharacter : ∀ q ∈ I_X4_addCharacter, decode cX4_addCharacter q.1 = .ok q.2 := by decide +kernel
def I_X4_makeEmpty : List (Nat × Instr × Nat) := [(0, .aload_n 0, 1), (1, .getfield 19, 3), (4, .istore_n 1, 1), (5, .aload_n 0, 1), (6, .iconst 0, 1), (7, .putfield 19, 3), (10, .iload_n 1, 1), (11, .ireturn, 1)]
set_option maxRecDepth 20000 in
theorem dc_X4_makeEmpty : ∀ q ∈ I_X4_makeEmpty, decode cX4_makeEmpty q.1 = .ok q.2 := by decide +kernel
def I_X4_runOn : List (Nat × Instr × Nat) := [(0, .iconst 0, 1), (1, .istore_n 2, 1), (2, .iconst (-1), 1), (3, .istore_n 3, 1), (4, .aload_n 0, 1), (5, .iconst 0, 1), (6, .putfield 23, 3), (9, .aload_n 0, 1), (10, .invokevirtual 26, 3), (13, .iload_n 2, 1), (14, .bipush 120, 2), (16, .if_icmp .ge 35, 3), (19, .iload_n 3, 1), (20, .iconst (-1), 1), (21, .if_icmp .ne 30, 3), (24, .aload_n 0, 1), (25, .getfield 29, 3), (28, .aload_n 0, 1), (29, .getfield 19, 3), (32, .if_icmp .ge 19, 3), (35, .aload_n 0, 1), (36, .aload_n 1, 1), (37, .invokevirtual 32, 3), (40, .istore_n 3, 1), (41, .iinc 2 1, 3), (44, .aload_n 0, 1), (45, .invokevirtual 26, 3), (48, .goto (-35), 3), (51, .iload_n 3, 1), (52, .iconst (-1), 1), (53, .if_icmp .ne 7, 3), (56, .iload_n 2, 1), (57, .goto 8, 3), (60, .sipush (-1000), 3), (63, .iload_n 3, 1), (64, .isub, 1), (65, .ireturn, 1)]
set_option maxRecDepth 20000 in
theorem dc_X4_runOn : ∀ q ∈ I_X4_runOn, decode cX4_runOn q.1 = .ok q.2 := by decide +kernel
def I_X4_runOrder : List (Nat × Instr × Nat) := [(0, .aload_n 0, 1), (1, .getfield 29, 3), (4, .istore_n 2, 1), (5, .aload_n 0, 1), (6, .invokevirtual 36, 3), (9, .istore_n 3, 1), (10, .iload_n 3, 1), (11, .iconst (-1), 1), (12, .if_icmp .ne 5, 3), (15, .iload_n 2, 1), (16, .ireturn, 1), (17, .iload_n 3, 1), (18, .ifCond .ne 7, 3), (21, .iconst 3, 1), (22, .goto 4, 3), (25, .iconst 1, 1), (26, .istore 4, 2), (28, .iconst 0, 1), (29, .istore 5, 2), (31, .iload 5, 2), (33, .iload 4, 2), (35, .if_icmp .ge 40, 3), (38, .aload_n 0, 1), (39, .invokevirtual 26, 3), (42, .aload_n 0, 1), (43, .getfield 15, 3), (46, .iload 5, 2), (48, .aload_n 0, 1), (49, .invokevirtual 40, 3), (52, .iastore, 1), (53, .aload_n 0, 1), (54, .getfield 15, 3), (57, .iload 5, 2), (59, .iaload, 1), (60, .iconst (-1), 1), (61, .if_icmp .ne 8, 3), (64, .aload_n 0, 1), (65, .getfield 29, 3), (68, .ireturn, 1), (69, .iinc 5 1, 3), (72, .goto (-41), 3), (75, .aload_n 0, 1), (76, .invokevirtual 26, 3), (79, .aload_n 0, 1), (80, .ldc 43, 2), (82, .invokevirtual 45, 3), (85, .ifCond .ne 8, 3), (88, .aload_n 0, 1), (89, .getfield 29, 3), (92, .ireturn, 1), (93, .aload_n 0, 1), (94, .iload_n 3, 1), (95, .aload_n 1, 1), (96, .invokevirtual 49, 3), (99, .ifCond .ge 7, 3), (102, .iload_n 2, 1), (103, .goto 4, 3), (106, .iconst (-1), 1), (107, .ireturn, 1)]
set_option maxRecDepth 20000 in
theorem dc_X4_runOrder : ∀ q ∈ I_X4_runOrder, decode cX4_runOrder q.1 = .ok q.2 := by decide +kernel
def I_X4_perform : List (Nat × Instr × Nat) := [(0, .iload_n 1, 1), (1, .tableswitch 120 0 5 #[39, 62, 73, 84, 95, 106], 39), (40, .aload_n 2, 1), (41, .aload_n 0, 1), (42, .getfield 15, 3), (45, .iconst 0, 1), (46, .iaload, 1), (47, .aload_n 0, 1), (48, .getfield 15, 3), (51, .iconst 1, 1), (52, .iaload, 1), (53, .aload_n 0, 1), (54, .getfield 15, 3), (57, .iconst 2, 1), (58, .iaload, 1), (59, .invokevirtual 53, 3), (62, .ireturn, 1), (63, .aload_n 2, 1), (64, .aload_n 0, 1), (65, .getfield 15, 3), (68, .iconst 0, 1), (69, .iaload, 1), (70, .invokevirtual 59, 3), (73, .ireturn, 1), (74, .aload_n 2, 1), (75, .aload_n 0, 1), (76, .getfield 15, 3), (79, .iconst 0, 1), (80, .iaload, 1), (81, .invokevirtual 63, 3), (84, .ireturn, 1), (85, .aload_n 2, 1), (86, .aload_n 0, 1), (87, .getfield 15, 3), (90, .iconst 0, 1), (91, .iaload, 1), (92, .invokevirtual 66, 3), (95, .ireturn, 1), (96, .aload_n 2, 1), (97, .aload_n 0, 1), (98, .getfield 15, 3), (101, .iconst 0, 1), (102, .iaload, 1), (103, .invokevirtual 69, 3), (106, .ireturn, 1), (107, .aload_n 2, 1), (108, .getfield 72, 3), (111, .aload_n 0, 1), (112, .getfield 15, 3), (115, .iconst 0, 1), (116, .iaload, 1), (117, .invokevirtual 76, 3), (120, .ireturn, 1), (121, .aload_n 2, 1), (122, .aload_n 0, 1), (123, .getfield 15, 3), (126, .iconst 0, 1), (127, .iaload, 1), (128, .invokevirtual 81, 3), (131, .ireturn, 1)]
set_option maxRecDepth 20000 in
theorem dc_X4_perform : ∀ q ∈ I_X4_perform, decode cX4_perform q.1 = .ok q.2 := by decide +kernel
def I_X4_orderOfToken : List (Nat × Instr × Nat) := [(0, .aload_n 0, 1), (1, .ldc 84, 2), (3, .invokevirtual 45, 3), (6, .ifCond .eq 5, 3), (9, .iconst 0, 1), (10, .ireturn, 1), (11, .aload_n 0, 1), (12, .ldc 86, 2), (14, .invokevirtual 45, 3), (17, .ifCond .eq 5, 3), (20, .iconst 1, 1), (21, .ireturn, 1), (22, .aload_n 0, 1), (23, .ldc 88, 2), (25, .invokevirtual 45, 3), (28, .ifCond .eq 5, 3), (31, .iconst 2, 1), (32, .ireturn, 1), (33, .aload_n 0, 1), (34, .ldc 90, 2), (36, .invokevirtual 45, 3), (39, .ifCond .eq 5, 3), (42, .iconst 3, 1), (43, .ireturn, 1), (44, .aload_n 0, 1), (45, .ldc 92, 2), (47, .invokevirtual 45, 3), (50, .ifCond .eq 5, 3), (53, .iconst 4, 1), (54, .ireturn, 1), (55, .aload_n 0, 1), (56, .ldc 94, 2), (58, .invokevirtual 45, 3), (61, .ifCond .eq 5, 3), (64, .iconst 5, 1), (65, .ireturn, 1), (66, .aload_n 0, 1), (67, .ldc 96, 2), (69, .invokevirtual 45, 3), (72, .ifCond .eq 8, 3), (75, .bipush 6, 2), (77, .goto 4, 3), (80, .iconst (-1), 1), (81, .ireturn, 1)]
set_option maxRecDepth 20000 in
theorem dc_X4_orderOfToken : ∀ q ∈ I_X4_orderOfToken, decode cX4_orderOfToken q.1 = .ok q.2 := by decide +kernel
def I_X4_readToken : List (Nat × Instr × Nat) := [(0, .aload_n 0, 1), (1, .aload_n 0, 1), (2, .getfield 23, 3), (5, .putfield 29, 3), (8, .aload_n 0, 1), (9, .getfield 29, 3), (12, .aload_n 0, 1), (13, .getfield 19, 3), (16, .if_icmp .ge 30, 3), (19, .aload_n 0, 1), (20, .getfield 9, 3), (23, .aload_n 0, 1), (24, .getfield 29, 3), (27, .caload, 1), (28, .bipush 32, 2), (30, .if_icmp .ne 16, 3), (33, .aload_n 0, 1), (34, .dup, 1), (35, .getfield 29, 3), (38, .iconst 1, 1), (39, .iadd, 1), (40, .putfield 29, 3), (43, .goto (-35), 3), (46, .aload_n 0, 1), (47, .aload_n 0, 1), (48, .getfield 29, 3), (51, .putfield 23, 3), (54, .aload_n 0, 1), (55, .getfield 29, 3), (58, .aload_n 0, 1), (59, .getfield 19, 3), (62, .if_icmp .lt 4, 3), (65, .return_, 1), (66, .aload_n 0, 1), (67, .getfield 9, 3), (70, .aload_n 0, 1), (71, .getfield 29, 3), (74, .caload, 1), (75, .invokestatic 98, 3), (78, .istore_n 1, 1), (79, .aload_n 0, 1), (80, .dup, 1), (81, .getfield 23, 3), (84, .iconst 1, 1), (85, .iadd, 1), (86, .putfield 23, 3), (89, .iload_n 1, 1), (90, .ifCond .eq 43, 3), (93, .aload_n 0, 1), (94, .getfield 23, 3), (97, .aload_n 0, 1), (98, .getfield 19, 3), (101, .if_icmp .ge 32, 3), (104, .aload_n 0, 1), (105, .getfield 9, 3), (108, .aload_n 0, 1), (109, .getfield 23, 3), (112, .caload, 1), (113, .invokestatic 98, 3), (116, .iload_n 1, 1), (117, .if_icmp .ne 16, 3), (120, .aload_n 0, 1), (121, .dup, 1), (122, .getfield 23, 3), (125, .iconst 1, 1), (126, .iadd, 1), (127, .putfield 23, 3), (130, .goto (-41), 3), (133, .return_, 1)]
set_option maxRecDepth 20000 in
theorem dc_X4_readToken : ∀ q ∈ I_X4_readToken, decode cX4_readToken q.1 = .ok q.2 := by decide +kernel
def I_X4_tokenIs : List (Nat × Instr × Nat) := [(0, .aload_n 0, 1), (1, .getfield 23, 3), (4, .aload_n 0, 1), (5, .getfield 29, 3), (8, .isub, 1), (9, .aload_n 1, 1), (10, .invokevirtual 102, 3), (13, .if_icmp .eq 5, 3), (16, .iconst 0, 1), (17, .ireturn, 1), (18, .iconst 0, 1), (19, .istore_n 2, 1), (20, .iload_n 2, 1), (21, .aload_n 1, 1), (22, .invokevirtual 102, 3), (25, .if_icmp .ge 30, 3), (28, .aload_n 0, 1), (29, .getfield 9, 3), (32, .aload_n 0, 1), (33, .getfield 29, 3), (36, .iload_n 2, 1), (37, .iadd, 1), (38, .caload, 1), (39, .aload_n 1, 1), (40, .iload_n 2, 1), (41, .invokevirtual 106, 3), (44, .if_icmp .eq 5, 3), (47, .iconst 0, 1), (48, .ireturn, 1), (49, .iinc 2 1, 3), (52, .goto (-32), 3), (55, .iconst 1, 1), (56, .ireturn, 1)]
set_option maxRecDepth 20000 in
theorem dc_X4_tokenIs : ∀ q ∈ I_X4_tokenIs, decode cX4_tokenIs q.1 = .ok q.2 := by decide +kernel
def I_X4_numberOfToken : List (Nat × Instr × Nat) := [(0, .aload_n 0, 1), (1, .getfield 23, 3), (4, .aload_n 0, 1), (5, .getfield 29, 3), (8, .isub, 1), (9, .istore_n 1, 1), (10, .iload_n 1, 1), (11, .iconst 1, 1), (12, .if_icmp .lt 27, 3), (15, .iload_n 1, 1), (16, .iconst 4, 1), (17, .if_icmp .gt 22, 3), (20, .iload_n 1, 1), (21, .iconst 1, 1), (22, .if_icmp .le 19, 3), (25, .aload_n 0, 1), (26, .getfield 9, 3), (29, .aload_n 0, 1), (30, .getfield 29, 3), (33, .caload, 1), (34, .bipush 48, 2), (36, .if_icmp .ne 5, 3), (39, .iconst (-1), 1), (40, .ireturn, 1), (41, .iconst 0, 1), (42, .istore_n 2, 1), (43, .aload_n 0, 1), (44, .getfield 29, 3), (47, .istore_n 3, 1), (48, .iload_n 3, 1), (49, .aload_n 0, 1), (50, .getfield 23, 3), (53, .if_icmp .ge 39, 3), (56, .aload_n 0, 1), (57, .getfield 9, 3), (60, .iload_n 3, 1), (61, .caload, 1), (62, .invokestatic 98, 3), (65, .iconst 2, 1), (66, .if_icmp .eq 5, 3), (69, .iconst (-1), 1), (70, .ireturn, 1), (71, .iload_n 2, 1), (72, .bipush 10, 2), (74, .imul, 1), (75, .aload_n 0, 1), (76, .getfield 9, 3), (79, .iload_n 3, 1), (80, .caload, 1), (81, .iadd, 1), (82, .bipush 48, 2), (84, .isub, 1), (85, .istore_n 2, 1), (86, .iinc 3 1, 3), (89, .goto (-41), 3), (92, .iload_n 2, 1), (93, .ireturn, 1)]
set_option maxRecDepth 20000 in
theorem dc_X4_numberOfToken : ∀ q ∈ I_X4_numberOfToken, decode cX4_numberOfToken q.1 = .ok q.2 := by decide +kernel
def I_X4_kindOf : List (Nat × Instr × Nat) := [(0, .iload_n 0, 1), (1, .bipush 97, 2), (3, .if_icmp .lt 11, 3), (6, .iload_n 0, 1), (7, .bipush 122, 2), (9, .if_icmp .gt 5, 3), (12, .iconst 1, 1), (13, .ireturn, 1), (14, .iload_n 0, 1), (15, .bipush 48, 2), (17, .if_icmp .lt 13, 3), (20, .iload_n 0, 1), (21, .bipush 57, 2), (23, .if_icmp .gt 7, 3), (26, .iconst 2, 1), (27, .goto 4, 3), (30, .iconst 0, 1), (31, .ireturn, 1)]
set_option maxRecDepth 20000 in
theorem dc_X4_kindOf : ∀ q ∈ I_X4_kindOf, decode cX4_kindOf q.1 = .ok q.2 := by decide +kernel
def I_X5_copyFrom : List (Nat × Instr × Nat) := [(0, .aload_n 0, 1), (1, .getfield 12, 3), (4, .aload_n 1, 1), (5, .getfield 12, 3), (8, .invokevirtual 32, 3), (11, .iconst 0, 1), (12, .istore_n 2, 1), (13, .iload_n 2, 1), (14, .bipush 20, 2), (16, .if_icmp .ge 39, 3), (19, .aload_n 0, 1), (20, .getfield 20, 3), (23, .iload_n 2, 1), (24, .aaload, 1), (25, .aload_n 1, 1), (26, .getfield 20, 3), (29, .iload_n 2, 1), (30, .aaload, 1), (31, .invokevirtual 36, 3), (34, .aload_n 0, 1), (35, .getfield 26, 3), (38, .iload_n 2, 1), (39, .aaload, 1), (40, .aload_n 1, 1), (41, .getfield 26, 3), (44, .iload_n 2, 1), (45, .aaload, 1), (46, .invokevirtual 39, 3), (49, .iinc 2 1, 3), (52, .goto (-39), 3), (55, .aload_n 0, 1), (56, .aload_n 1, 1), (57, .getfield 42, 3), (60, .putfield 42, 3), (63, .aload_n 0, 1), (64, .aload_n 1, 1), (65, .getfield 46, 3), (68, .putfield 46, 3), (71, .aload_n 0, 1), (72, .aload_n 1, 1), (73, .getfield 49, 3), (76, .putfield 49, 3), (79, .aload_n 0, 1), (80, .aload_n 1, 1), (81, .getfield 52, 3), (84, .putfield 52, 3), (87, .aload_n 0, 1), (88, .aload_n 1, 1), (89, .getfield 56, 3), (92, .putfield 56, 3), (95, .aload_n 0, 1), (96, .aload_n 1, 1), (97, .getfield 59, 3), (100, .putfield 59, 3), (103, .aload_n 0, 1), (104, .aload_n 1, 1), (105, .getfield 62, 3), (108, .putfield 62, 3), (111, .return_, 1)]
set_option maxRecDepth 20000 in
theorem dc_X5_copyFrom : ∀ q ∈ I_X5_copyFrom, decode cX5_copyFrom q.1 = .ok q.2 := by decide +kernel
def I_X5_makeHold : List (Nat × Instr × Nat) := [(0, .aload_n 0, 1), (1, .getfield 12, 3), (4, .iload_n 1, 1), (5, .invokevirtual 65, 3), (8, .ifnull 17, 3), (11, .iload_n 2, 1), (12, .invokestatic 69, 3), (15, .ifCond .eq 10, 3), (18, .iload_n 3, 1), (19, .invokestatic 73, 3), (22, .ifCond .ne 5, 3), (25, .iconst (-1), 1), (26, .ireturn, 1), (27, .aload_n 0, 1), (28, .getfield 12, 3), (31, .iload_n 1, 1), (32, .iload_n 2, 1), (33, .invokevirtual 76, 3), (36, .istore 4, 2), (38, .iload 4, 2), (40, .bipush (-9), 2), (42, .if_icmp .ne 6, 3), (45, .bipush (-2), 2), (47, .ireturn, 1), (48, .aload_n 0, 1), (49, .getfield 42, 3), (52, .bipush 20, 2), (54, .if_icmp .lt 6, 3), (57, .bipush (-3), 2), (59, .ireturn, 1), (60, .aload_n 0, 1), (61, .getfield 20, 3), (64, .aload_n 0, 1), (65, .getfield 42, 3), (68, .aaload, 1), (69, .astore 5, 2), (71, .aload 5, 2), (73, .iconst 0, 1), (74, .putfield 80, 3), (77, .aload 5, 2), (79, .iload 4, 2), (81, .putfield 83, 3), (84, .aload 5, 2), (86, .iload_n 2, 1), (87, .putfield 86, 3), (90, .aload 5, 2), (92, .aload_n 0, 1), (93, .getfield 49, 3), (96, .iload_n 3, 1), (97, .iadd, 1), (98, .putfield 89, 3), (101, .aload 5, 2), (103, .bipush (-9), 2), (105, .putfield 92, 3), (108, .aload_n 0, 1), (109, .getfield 12, 3), (112, .iload 4, 2), (114, .iload_n 2, 1), (115, .iconst 1, 1), (116, .invokevirtual 95, 3), (119, .aload_n 0, 1), (120, .dup, 1), (121, .getfield 42, 3), (124, .iconst 1, 1), (125, .iadd, 1), (126, .putfield 42, 3), (129, .aload_n 0, 1), (130, .getfield 42, 3), (133, .iconst 1, 1), (134, .isub, 1), (135, .ireturn, 1)]
set_option maxRecDepth 20000 in
theorem dc_X5_makeHold : ∀ q ∈ I_X5_makeHold, decode cX5_makeHold q.1 = .ok q.2 := by decide +kernel
def I_X5_buyHold : List (Nat × Instr × Nat) := [(0, .aload_n 0, 1), (1, .iload_n 1, 1), (2, .invokevirtual 99, 3), (5, .astore_n 2, 1), (6, .aload_n 2, 1), (7, .ifnonnull 5, 3), (10, .iconst (-1), 1), (11, .ireturn, 1), (12, .aload_n 2, 1), (13, .getfield 80, 3), (16, .ifCond .ne 12, 3), (19, .aload_n 0, 1), (20, .getfield 46, 3), (23, .bipush 20, 2), (25, .if_icmp .lt 6, 3), (28, .bipush (-2), 2), (30, .ireturn, 1), (31, .aload_n 0, 1), (32, .getfield 26, 3), (35, .aload_n 0, 1), (36, .getfield 46, 3), (39, .aaload, 1), (40, .astore_n 3, 1), (41, .aload_n 3, 1), (42, .aload_n 0, 1), (43, .getfield 52, 3), (46, .ifCond .eq 7, 3), (49, .iconst 2, 1), (50, .goto 4, 3), (53, .iconst 0, 1), (54, .putfield 103, 3), (57, .aload_n 3, 1), (58, .aload_n 2, 1), (59, .getfield 83, 3), (62, .putfield 104, 3), (65, .aload_n 3, 1), (66, .aload_n 2, 1), (67, .getfield 86, 3), (70, .putfield 105, 3), (73, .aload_n 3, 1), (74, .aload_n 2, 1), (75, .getfield 86, 3), (78, .aload_n 0, 1), (79, .getfield 12, 3), (82, .aload_n 2, 1), (83, .getfield 83, 3), (86, .bipush 100, 2), (88, .idiv, 1), (89, .invokevirtual 106, 3), (92, .imul, 1), (93, .putfield 110, 3), (96, .aload_n 3, 1), (97, .iconst 0, 1), (98, .putfield 111, 3), (101, .aload_n 0, 1), (102, .dup, 1), (103, .getfield 56, 3), (106, .aload_n 3, 1), (107, .getfield 110, 3), (110, .iadd, 1), (111, .putfield 56, 3), (114, .aload_n 0, 1), (115, .getfield 12, 3), (118, .aload_n 3, 1), (119, .getfield 104, 3), (122, .aload_n 3, 1), (123, .getfield 105, 3), (126, .aload_n 0, 1), (127, .getfield 52, 3), (130, .ifCond .eq 7, 3), (133, .iconst 3, 1), (134, .goto 4, 3), (137, .iconst 2, 1), (138, .invokevirtual 95, 3), (141, .aload_n 2, 1), (142, .iconst 1, 1), (143, .putfield 80, 3), (146, .aload_n 2, 1), (147, .aload_n 0, 1), (148, .getfield 46, 3), (151, .putfield 92, 3), (154, .aload_n 0, 1), (155, .dup, 1), (156, .getfield 46, 3), (159, .iconst 1, 1), (160, .iadd, 1), (161, .putfield 46, 3), (164, .aload_n 0, 1), (165, .getfield 46, 3), (168, .iconst 1, 1), (169, .isub, 1), (170, .ireturn, 1)]
set_option maxRecDepth 20000 in
theorem dc_X5_buyHold : ∀ q ∈ I_X5_buyHold, decode cX5_buyHold q.1 = .ok q.2 := by decide +kernel
def I_X5_dropHold : List (Nat × Instr × Nat) := [(0, .aload_n 0, 1), (1, .iload_n 1, 1), (2, .invokevirtual 99, 3), (5, .astore_n 2, 1), (6, .aload_n 2, 1), (7, .ifnonnull 5, 3), (10, .iconst (-1), 1), (11, .ireturn, 1), (12, .aload_n 2, 1), (13, .getfield 80, 3), (16, .ifCond .eq 6, 3), (19, .bipush (-2), 2), (21, .ireturn, 1), (22, .aload_n 2, 1), (23, .iconst 2, 1), (24, .putfield 80, 3), (27, .aload_n 0, 1), (28, .getfield 12, 3), (31, .aload_n 2, 1), (32, .getfield 83, 3), (35, .aload_n 2, 1), (36, .getfield 86, 3), (39, .iconst 0, 1), (40, .invokevirtual 95, 3), (43, .aload_n 2, 1), (44, .getfield 86, 3), (47, .ireturn, 1)]
set_option maxRecDepth 20000 in
theorem dc_X5_dropHold : ∀ q ∈ I_X5_dropHold, decode cX5_dropHold q.1 = .ok q.2 := by decide +kernel
def I_X5_returnTicket : List (Nat × Instr × Nat) := [(0, .aload_n 0, 1), (1, .iload_n 1, 1), (2, .invokevirtual 112, 3), (5, .astore_n 2, 1), (6, .aload_n 2, 1), (7, .ifnonnull 5, 3), (10, .iconst (-1), 1), (11, .ireturn, 1), (12, .aload_n 2, 1), (13, .getfield 103, 3), (16, .ifCond .eq 6, 3), (19, .bipush (-2), 2), (21, .ireturn, 1), (22, .aload_n 2, 1), (23, .getfield 110, 3), (26, .iconst 3, 1), (27, .imul, 1), (28, .iconst 4, 1), (29, .idiv, 1), (30, .istore_n 3, 1), (31, .aload_n 2, 1), (32, .iconst 1, 1), (33, .putfield 103, 3), (36, .aload_n 0, 1), (37, .dup, 1), (38, .getfield 59, 3), (41, .iload_n 3, 1), (42, .iadd, 1), (43, .putfield 59, 3), (46, .aload_n 0, 1), (47, .getfield 12, 3), (50, .aload_n 2, 1), (51, .getfield 104, 3), (54, .aload_n 2, 1), (55, .getfield 105, 3), (58, .iconst 0, 1), (59, .invokevirtual 95, 3), (62, .iload_n 3, 1), (63, .ireturn, 1)]
set_option maxRecDepth 20000 in
theorem dc_X5_returnTicket : ∀ q ∈ I_X5_returnTicket, decode cX5_returnTicket q.1 = .ok q.2 := by decide +kernel
def I_X5_admit : List (Nat × Instr × Nat) := [(0, .aload_n 0, 1), (1, .iload_n 1, 1), (2, .invokevirtual 112, 3), (5, .astore_n 2, 1), (6, .aload_n 2, 1), (7, .ifnonnull 5, 3), (10, .iconst (-1), 1), (11, .ireturn, 1), (12, .aload_n 2, 1), (13, .getfield 103, 3), (16, .ifCond .eq 6, 3), (19, .bipush (-2), 2), (21, .ireturn, 1), (22, .aload_n 2, 1), (23, .iconst 2, 1), (24, .putfield 103, 3), (27, .aload_n 0, 1), (28, .getfield 12, 3), (31, .aload_n 2, 1), (32, .getfield 104, 3), (35, .aload_n 2, 1), (36, .getfield 105, 3), (39, .iconst 3, 1), (40, .invokevirtual 95, 3), (43, .aload_n 0, 1), (44, .getfield 12, 3), (47, .invokevirtual 116, 3), (50, .ireturn, 1)]
set_option maxRecDepth 20000 in
theorem dc_X5_admit : ∀ q ∈ I_X5_admit, decode cX5_admit q.1 = .ok q.2 := by decide +kernel
def I_X5_upgradeTicket : List (Nat × Instr × Nat) := [(0, .aload_n 0, 1), (1, .iload_n 1, 1), (2, .invokevirtual 112, 3), (5, .ifnonnull 5, 3), (8, .iconst (-1), 1), (9, .ireturn, 1), (10, .aload_n 0, 1), (11, .iload_n 1, 1), (12, .invokevirtual 120, 3), (15, .istore_n 2, 1), (16, .iload_n 2, 1), (17, .ifCond .ne 8, 3), (20, .bipush (-2), 2), (22, .goto 4, 3), (25, .iload_n 2, 1), (26, .ireturn, 1)]
set_option maxRecDepth 20000 in
theorem dc_X5_upgradeTicket : ∀ q ∈ I_X5_upgradeTicket, decode cX5_upgradeTicket q.1 = .ok q.2 := by decide +kernel
def I_X5_moveChain : List (Nat × Instr × Nat) := [(0, .aload_n 0, 1), (1, .iload_n 1, 1), (2, .invokevirtual 112, 3), (5, .astore_n 2, 1), (6, .aload_n 2, 1), (7, .ifnull 10, 3), (10, .aload_n 2, 1), (11, .getfield 103, 3), (14, .ifCond .eq 5, 3), (17, .iconst 0, 1), (18, .ireturn, 1), (19, .aload_n 0, 1), (20, .getfield 12, 3), (23, .aload_n 2, 1), (24, .getfield 104, 3), (27, .bipush 100, 2), (29, .idiv, 1), (30, .aload_n 2, 1), (31, .getfield 105, 3), (34, .invokevirtual 123, 3), (37, .istore_n 3, 1), (38, .iload_n 3, 1), (39, .bipush (-9), 2), (41, .if_icmp .ne 8, 3), (44, .bipush (-9), 2), (46, .goto 4, 3), (49, .iload_n 1, 1), (50, .istore 4, 2), (52, .iconst 0, 1), (53, .istore 5, 2), (55, .iload 5, 2), (57, .bipush 20, 2), (59, .if_icmp .ge 31, 3), (62, .iload 4, 2), (64, .bipush (-9), 2), (66, .if_icmp .eq 24, 3), (69, .aload_n 0, 1), (70, .iload 4, 2), (72, .iload_n 3, 1), (73, .invokevirtual 126, 3), (76, .istore_n 3, 1), (77, .aload_n 0, 1), (78, .iload_n 3, 1), (79, .invokevirtual 129, 3), (82, .istore 4, 2), (84, .iinc 5 1, 3), (87, .goto (-32), 3), (90, .iload 5, 2), (92, .ireturn, 1)]
set_option maxRecDepth 20000 in
theorem dc_X5_moveChain : ∀ q ∈ I_X5_moveChain, decode cX5_moveChain q.1 = .ok q.2 := by decide +kernel
def I_X5_letPass : List (Nat × Instr × Nat) := [(0, .iload_n 1, 1), (1, .invokestatic 73, 3), (4, .ifCond .ne 5, 3), (7, .iconst (-1), 1), (8, .ireturn, 1), (9, .aload_n 0, 1), (10, .getfield 49, 3), (13, .iload_n 1, 1), (14, .iadd, 1), (15, .sipush 9999, 3), (18, .if_icmp .le 6, 3), (21, .bipush (-2), 2), (23, .ireturn, 1), (24, .aload_n 0, 1), (25, .dup, 1), (26, .getfield 49, 3), (29, .iload_n 1, 1), (30, .iadd, 1), (31, .putfield 49, 3), (34, .iconst 0, 1), (35, .istore_n 2, 1), (36, .iconst 0, 1), (37, .istore_n 3, 1), (38, .iload_n 3, 1), (39, .aload_n 0, 1), (40, .getfield 42, 3), (43, .if_icmp .ge 64, 3), (46, .aload_n 0, 1), (47, .getfield 20, 3), (50, .iload_n 3, 1), (51, .aaload, 1), (52, .astore 4, 2), (54, .aload 4, 2), (56, .getfield 80, 3), (59, .ifCond .ne 42, 3), (62, .aload 4, 2), (64, .getfield 89, 3), (67, .aload_n 0, 1), (68, .getfield 49, 3), (71, .if_icmp .gt 30, 3), (74, .aload 4, 2), (76, .iconst 3, 1), (77, .putfield 80, 3), (80, .aload_n 0, 1), (81, .getfield 12, 3), (84, .aload 4, 2), (86, .getfield 83, 3), (89, .aload 4, 2), (91, .getfield 86, 3), (94, .iconst 0, 1), (95, .invokevirtual 95, 3), (98, .iinc 2 1, 3), (101, .iinc 3 1, 3), (104, .goto (-66), 3), (107, .iload_n 2, 1), (108, .ireturn, 1)]
set_option maxRecDepth 20000 in
theorem dc_X5_letPass : ∀ q ∈ I_X5_letPass, decode cX5_letPass q.1 = .ok q.2 := by decide +kernel
def I_X5_shutDoors : List (Nat × Instr × Nat) := [(0, .aload_n 0, 1), (1, .getfield 52, 3), (4, .ifCond .eq 6, 3), (7, .bipush (-2), 2), (9, .ireturn, 1), (10, .aload_n 0, 1), (11, .iconst 1, 1), (12, .putfield 52, 3), (15, .iconst 0, 1), (16, .istore_n 1, 1), (17, .iconst 0, 1), (18, .istore_n 2, 1), (19, .iload_n 2, 1), (20, .aload_n 0, 1), (21, .getfield 46, 3), (24, .if_icmp .ge 51, 3), (27, .aload_n 0, 1), (28, .getfield 26, 3), (31, .iload_n 2, 1), (32, .aaload, 1), (33, .astore_n 3, 1), (34, .aload_n 3, 1), (35, .getfield 103, 3), (38, .ifCond .ne 31, 3), (41, .aload_n 3, 1), (42, .iconst 3, 1), (43, .putfield 103, 3), (46, .aload_n 0, 1), (47, .getfield 12, 3), (50, .aload_n 3, 1), (51, .getfield 104, 3), (54, .aload_n 3, 1), (55, .getfield 105, 3), (58, .iconst 0, 1), (59, .invokevirtual 95, 3), (62, .iload_n 1, 1), (63, .aload_n 3, 1), (64, .getfield 105, 3), (67, .iadd, 1), (68, .istore_n 1, 1), (69, .iinc 2 1, 3), (72, .goto (-53), 3), (75, .iload_n 1, 1), (76, .ireturn, 1)]
set_option maxRecDepth 20000 in
theorem dc_X5_shutDoors : ∀ q ∈ I_X5_shutDoors, decode cX5_shutDoors q.1 = .ok q.2 := by decide +kernel
def I_X5_numberOf : List (Nat × Instr × Nat) := [(0, .iload_n 1, 1), (1, .tableswitch 151 0 12 #[67, 72, 80, 88, 96, 101, 106, 111, 117, 130, 135, 140, 146], 67), (68, .aload_n 0, 1), (69, .getfield 49, 3), (72, .ireturn, 1), (73, .aload_n 0, 1), (74, .getfield 12, 3), (77, .getfield 132, 3), (80, .ireturn, 1), (81, .aload_n 0, 1), (82, .getfield 12, 3), (85, .getfield 135, 3), (88, .ireturn, 1), (89, .aload_n 0, 1), (90, .getfield 12, 3), (93, .invokevirtual 138, 3), (96, .ireturn, 1), (97, .aload_n 0, 1), (98, .getfield 42, 3), (101, .ireturn, 1), (102, .aload_n 0, 1), (103, .invokevirtual 141, 3), (106, .ireturn, 1), (107, .aload_n 0, 1), (108, .getfield 46, 3), (111, .ireturn, 1), (112, .aload_n 0, 1), (113, .iconst 0, 1), (114, .invokevirtual 144, 3), (117, .ireturn, 1), (118, .aload_n 0, 1), (119, .getfield 52, 3), (122, .ifCond .eq 7, 3), (125, .iconst 1, 1), (126, .goto 4, 3), (129, .iconst 0, 1), (130, .ireturn, 1), (131, .aload_n 0, 1), (132, .getfield 56, 3), (135, .ireturn, 1), (136, .aload_n 0, 1), (137, .getfield 59, 3), (140, .ireturn, 1), (141, .aload_n 0, 1), (142, .iconst 3, 1), (143, .invokevirtual 144, 3), (146, .ireturn, 1), (147, .aload_n 0, 1), (148, .getfield 62, 3), (151, .ireturn, 1), (152, .iconst (-1), 1), (153, .ireturn, 1)]
set_option maxRecDepth 20000 in
theorem dc_X5_numberOf : ∀ q ∈ I_X5_numberOf, decode cX5_numberOf q.1 = .ok q.2 := by decide +kernel
def I_X5_holdFigure : List (Nat × Instr × Nat) := [(0, .aload_n 0, 1), (1, .iload_n 1, 1), (2, .invokevirtual 99, 3), (5, .astore_n 3, 1), (6, .aload_n 3, 1), (7, .ifnonnull 5, 3), (10, .iconst (-1), 1), (11, .ireturn, 1), (12, .iload_n 2, 1), (13, .tableswitch 60 0 4 #[35, 40, 45, 50, 55], 35), (48, .aload_n 3, 1), (49, .getfield 80, 3), (52, .ireturn, 1), (53, .aload_n 3, 1), (54, .getfield 83, 3), (57, .ireturn, 1), (58, .aload_n 3, 1), (59, .getfield 86, 3), (62, .ireturn, 1), (63, .aload_n 3, 1), (64, .getfield 89, 3), (67, .ireturn, 1), (68, .aload_n 3, 1), (69, .getfield 92, 3), (72, .ireturn, 1), (73, .iconst (-1), 1), (74, .ireturn, 1)]
set_option maxRecDepth 20000 in
theorem dc_X5_holdFigure : ∀ q ∈ I_X5_holdFigure, decode cX5_holdFigure q.1 = .ok q.2 := by decide +kernel
def I_X5_ticketFigure : List (Nat × Instr × Nat) := [(0, .aload_n 0, 1), (1, .iload_n 1, 1), (2, .invokevirtual 112, 3), (5, .astore_n 3, 1), (6, .aload_n 3, 1), (7, .ifnonnull 5, 3), (10, .iconst (-1), 1), (11, .ireturn, 1), (12, .iload_n 2, 1), (13, .tableswitch 60 0 4 #[35, 40, 45, 50, 55], 35), (48, .aload_n 3, 1), (49, .getfield 103, 3), (52, .ireturn, 1), (53, .aload_n 3, 1), (54, .getfield 104, 3), (57, .ireturn, 1), (58, .aload_n 3, 1), (59, .getfield 105, 3), (62, .ireturn, 1), (63, .aload_n 3, 1), (64, .getfield 110, 3), (67, .ireturn, 1), (68, .aload_n 3, 1), (69, .getfield 111, 3), (72, .ireturn, 1), (73, .iconst (-1), 1), (74, .ireturn, 1)]
set_option maxRecDepth 20000 in
theorem dc_X5_ticketFigure : ∀ q ∈ I_X5_ticketFigure, decode cX5_ticketFigure q.1 = .ok q.2 := by decide +kernel
def I_X5_minutesToExpiry : List (Nat × Instr × Nat) := [(0, .bipush (-9), 2), (2, .istore_n 1, 1), (3, .iconst 0, 1), (4, .istore_n 2, 1), (5, .iload_n 2, 1), (6, .aload_n 0, 1), (7, .getfield 42, 3), (10, .if_icmp .ge 49, 3), (13, .aload_n 0, 1), (14, .getfield 20, 3), (17, .iload_n 2, 1), (18, .aaload, 1), (19, .getfield 89, 3), (22, .aload_n 0, 1), (23, .getfield 49, 3), (26, .isub, 1), (27, .istore_n 3, 1), (28, .aload_n 0, 1), (29, .getfield 20, 3), (32, .iload_n 2, 1), (33, .aaload, 1), (34, .getfield 80, 3), (37, .ifCond .ne 16, 3), (40, .iload_n 1, 1), (41, .bipush (-9), 2), (43, .if_icmp .eq 8, 3), (46, .iload_n 3, 1), (47, .iload_n 1, 1), (48, .if_icmp .ge 5, 3), (51, .iload_n 3, 1), (52, .istore_n 1, 1), (53, .iinc 2 1, 3), (56, .goto (-51), 3), (59, .iload_n 1, 1), (60, .ireturn, 1)]
set_option maxRecDepth 20000 in
theorem dc_X5_minutesToExpiry : ∀ q ∈ I_X5_minutesToExpiry, decode cX5_minutesToExpiry q.1 = .ok q.2 := by decide +kernel
def I_X5_ticketAt : List (Nat × Instr × Nat) := [(0, .iload_n 1, 1), (1, .ifCond .lt 20, 3), (4, .iload_n 1, 1), (5, .aload_n 0, 1), (6, .getfield 46, 3), (9, .if_icmp .ge 12, 3), (12, .aload_n 0, 1), (13, .getfield 26, 3), (16, .iload_n 1, 1), (17, .aaload, 1), (18, .goto 4, 3), (21, .aconst_null, 1), (22, .areturn, 1)]
set_option maxRecDepth 20000 in
theorem dc_X5_ticketAt : ∀ q ∈ I_X5_ticketAt, decode cX5_ticketAt q.1 = .ok q.2 := by decide +kernel
def I_X5_holdAt : List (Nat × Instr × Nat) := [(0, .iload_n 1, 1), (1, .ifCond .lt 20, 3), (4, .iload_n 1, 1), (5, .aload_n 0, 1), (6, .getfield 42, 3), (9, .if_icmp .ge 12, 3), (12, .aload_n 0, 1), (13, .getfield 20, 3), (16, .iload_n 1, 1), (17, .aaload, 1), (18, .goto 4, 3), (21, .aconst_null, 1), (22, .areturn, 1)]
set_option maxRecDepth 20000 in
theorem dc_X5_holdAt : ∀ q ∈ I_X5_holdAt, decode cX5_holdAt q.1 = .ok q.2 := by decide +kernel
def I_X5_moveTicket : List (Nat × Instr × Nat) := [(0, .aload_n 0, 1), (1, .iload_n 1, 1), (2, .invokevirtual 112, 3), (5, .astore_n 3, 1), (6, .aload_n 3, 1), (7, .ifnonnull 6, 3), (10, .bipush (-9), 2), (12, .ireturn, 1), (13, .aload_n 3, 1), (14, .getfield 104, 3), (17, .bipush 100, 2), (19, .idiv, 1), (20, .istore 4, 2), (22, .aload_n 0, 1), (23, .getfield 12, 3), (26, .aload_n 3, 1), (27, .getfield 104, 3), (30, .aload_n 3, 1), (31, .getfield 105, 3), (34, .iconst 0, 1), (35, .invokevirtual 95, 3), (38, .aload_n 3, 1), (39, .aload_n 0, 1), (40, .getfield 12, 3), (43, .iload_n 2, 1), (44, .aload_n 3, 1), (45, .getfield 105, 3), (48, .invokevirtual 76, 3), (51, .putfield 104, 3), (54, .aload_n 0, 1), (55, .getfield 12, 3), (58, .aload_n 3, 1), (59, .getfield 104, 3), (62, .aload_n 3, 1), (63, .getfield 105, 3), (66, .iconst 2, 1), (67, .invokevirtual 95, 3), (70, .aload_n 3, 1), (71, .dup, 1), (72, .getfield 111, 3), (75, .iconst 1, 1), (76, .iadd, 1), (77, .putfield 111, 3), (80, .aload_n 0, 1), (81, .dup, 1), (82, .getfield 62, 3), (85, .iconst 1, 1), (86, .iadd, 1), (87, .putfield 62, 3), (90, .iload 4, 2), (92, .ireturn, 1)]
set_option maxRecDepth 20000 in
theorem dc_X5_moveTicket : ∀ q ∈ I_X5_moveTicket, decode cX5_moveTicket q.1 = .ok q.2 := by decide +kernel
def I_X5_nextMover : List (Nat × Instr × Nat) := [(0, .aload_n 0, 1), (1, .getfield 12, 3), (4, .iload_n 1, 1), (5, .invokevirtual 147, 3), (8, .istore_n 2, 1), (9, .aload_n 0, 1), (10, .getfield 12, 3), (13, .iload_n 1, 1), (14, .invokevirtual 150, 3), (17, .istore_n 3, 1), (18, .iconst 0, 1), (19, .istore 4, 2), (21, .iload 4, 2), (23, .aload_n 0, 1), (24, .getfield 46, 3), (27, .if_icmp .ge 69, 3), (30, .aload_n 0, 1), (31, .getfield 26, 3), (34, .iload 4, 2), (36, .aaload, 1), (37, .astore 5, 2), (39, .aload 5, 2), (41, .getfield 103, 3), (44, .ifCond .ne 16, 3), (47, .aload 5, 2), (49, .getfield 105, 3), (52, .iload_n 3, 1), (53, .if_icmp .gt 7, 3), (56, .iconst 1, 1), (57, .goto 4, 3), (60, .iconst 0, 1), (61, .istore 6, 2), (63, .iload 6, 2), (65, .ifCond .eq 25, 3), (68, .aload_n 0, 1), (69, .getfield 12, 3), (72, .aload 5, 2), (74, .getfield 104, 3), (77, .bipush 100, 2), (79, .idiv, 1), (80, .invokevirtual 147, 3), (83, .iload_n 2, 1), (84, .if_icmp .ge 6, 3), (87, .iload 4, 2), (89, .ireturn, 1), (90, .iinc 4 1, 3), (93, .goto (-72), 3), (96, .bipush (-9), 2), (98, .ireturn, 1)]
set_option maxRecDepth 20000 in
theorem dc_X5_nextMover : ∀ q ∈ I_X5_nextMover, decode cX5_nextMover q.1 = .ok q.2 := by decide +kernel
def I_X5_isWait : List (Nat × Instr × Nat) := [(0, .iload_n 0, 1), (1, .iconst 1, 1), (2, .if_icmp .lt 14, 3), (5, .iload_n 0, 1), (6, .sipush 999, 3), (9, .if_icmp .gt 7, 3), (12, .iconst 1, 1), (13, .goto 4, 3), (16, .iconst 0, 1), (17, .ireturn, 1)]
set_option maxRecDepth 20000 in
theorem dc_X5_isWait : ∀ q ∈ I_X5_isWait, decode cX5_isWait q.1 = .ok q.2 := by decide +kernel
def I_X5_openHolds : List (Nat × Instr × Nat) := [(0, .iconst 0, 1), (1, .istore_n 1, 1), (2, .iconst 0, 1), (3, .istore_n 2, 1), (4, .iload_n 2, 1), (5, .aload_n 0, 1), (6, .getfield 42, 3), (9, .if_icmp .ge 24, 3), (12, .aload_n 0, 1), (13, .getfield 20, 3), (16, .iload_n 2, 1), (17, .aaload, 1), (18, .getfield 80, 3), (21, .ifCond .ne 6, 3), (24, .iinc 1 1, 3), (27, .iinc 2 1, 3), (30, .goto (-26), 3), (33, .iload_n 1, 1), (34, .ireturn, 1)]
set_option maxRecDepth 20000 in
theorem dc_X5_openHolds : ∀ q ∈ I_X5_openHolds, decode cX5_openHolds q.1 = .ok q.2 := by decide +kernel
def I_X5_ticketsThatAre : List (Nat × Instr × Nat) := [(0, .iconst 0, 1), (1, .istore_n 2, 1), (2, .iconst 0, 1), (3, .istore_n 3, 1), (4, .iload_n 3, 1), (5, .aload_n 0, 1), (6, .getfield 46, 3), (9, .if_icmp .ge 25, 3), (12, .aload_n 0, 1), (13, .getfield 26, 3), (16, .iload_n 3, 1), (17, .aaload, 1), (18, .getfield 103, 3), (21, .iload_n 1, 1), (22, .if_icmp .ne 6, 3), (25, .iinc 2 1, 3), (28, .iinc 3 1, 3), (31, .goto (-27), 3), (34, .iload_n 2, 1), (35, .ireturn, 1)]
set_option maxRecDepth 20000 in
theorem dc_X5_ticketsThatAre : ∀ q ∈ I_X5_ticketsThatAre, decode cX5_ticketsThatAre q.1 = .ok q.2 := by decide +kernel
def I_X6_copyFrom : List (Nat × Instr × Nat) := [(0, .aload_n 0, 1), (1, .aload_n 1, 1), (2, .getfield 7, 3), (5, .putfield 7, 3), (8, .aload_n 0, 1), (9, .aload_n 1, 1), (10, .getfield 13, 3), (13, .putfield 13, 3), (16, .aload_n 0, 1), (17, .aload_n 1, 1), (18, .getfield 16, 3), (21, .putfield 16, 3), (24, .aload_n 0, 1), (25, .aload_n 1, 1), (26, .getfield 19, 3), (29, .putfield 19, 3), (32, .aload_n 0, 1), (33, .aload_n 1, 1), (34, .getfield 22, 3), (37, .putfield 22, 3), (40, .return_, 1)]
set_option maxRecDepth 20000 in
theorem dc_X6_copyFrom : ∀ q ∈ I_X6_copyFrom, decode cX6_copyFrom q.1 = .ok q.2 := by decide +kernel
def I_X7_addBlock : List (Nat × Instr × Nat) := [(0, .aload_n 0, 1), (1, .getfield 22, 3), (4, .aload_n 0, 1), (5, .getfield 10, 3), (8, .invokevirtual 33, 3), (11, .aload_n 0, 1), (12, .aload_n 0, 1), (13, .getfield 10, 3), (16, .getfield 37, 3), (19, .iload_n 1, 1), (20, .iload_n 2, 1), (21, .iload_n 3, 1), (22, .invokevirtual 41, 3), (25, .invokevirtual 47, 3), (28, .ireturn, 1)]
set_option maxRecDepth 20000 in
theorem dc_X7_addBlock : ∀ q ∈ I_X7_addBlock, decode cX7_addBlock q.1 = .ok q.2 := by decide +kernel
def I_X7_addStage : List (Nat × Instr × Nat) := [(0, .aload_n 0, 1), (1, .getfield 22, 3), (4, .aload_n 0, 1), (5, .getfield 10, 3), (8, .invokevirtual 33, 3), (11, .aload_n 0, 1), (12, .aload_n 0, 1), (13, .getfield 10, 3), (16, .getfield 37, 3), (19, .invokevirtual 51, 3), (22, .invokevirtual 47, 3), (25, .ireturn, 1)]
set_option maxRecDepth 20000 in
theorem dc_X7_addStage : ∀ q ∈ I_X7_addStage, decode cX7_addStage q.1 = .ok q.2 := by decide +kernel
def I_X7_addPiece : List (Nat × Instr × Nat) := [(0, .aload_n 0, 1), (1, .getfield 22, 3), (4, .aload_n 0, 1), (5, .getfield 10, 3), (8, .invokevirtual 33, 3), (11, .aload_n 0, 1), (12, .aload_n 0, 1), (13, .getfield 10, 3), (16, .getfield 37, 3), (19, .iload_n 1, 1), (20, .iload_n 2, 1), (21, .iload_n 3, 1), (22, .invokevirtual 55, 3), (25, .invokevirtual 47, 3), (28, .ireturn, 1)]
set_option maxRecDepth 20000 in
theorem dc_X7_addPiece : ∀ q ∈ I_X7_addPiece, decode cX7_addPiece q.1 = .ok q.2 := by decide +kernel
def I_X7_putUp : List (Nat × Instr × Nat) := [(0, .aload_n 0, 1), (1, .getfield 22, 3), (4, .aload_n 0, 1), (5, .getfield 10, 3), (8, .invokevirtual 33, 3), (11, .aload_n 0, 1), (12, .aload_n 0, 1), (13, .getfield 10, 3), (16, .getfield 37, 3), (19, .iload_n 1, 1), (20, .invokevirtual 58, 3), (23, .invokevirtual 47, 3), (26, .ireturn, 1)]
set_option maxRecDepth 20000 in
theorem dc_X7_putUp : ∀ q ∈ I_X7_putUp, decode cX7_putUp q.1 = .ok q.2 := by decide +kernel
def I_X7_takeDown : List (Nat × Instr × Nat) := [(0, .aload_n 0, 1), (1, .getfield 22, 3), (4, .aload_n 0, 1), (5, .getfield 10, 3), (8, .invokevirtual 33, 3), (11, .aload_n 0, 1), (12, .aload_n 0, 1), (13, .getfield 10, 3), (16, .getfield 37, 3), (19, .iload_n 1, 1), (20, .invokevirtual 61, 3), (23, .invokevirtual 47, 3), (26, .ireturn, 1)]
set_option maxRecDepth 20000 in
theorem dc_X7_takeDown : ∀ q ∈ I_X7_takeDown, decode cX7_takeDown q.1 = .ok q.2 := by decide +kernel
def I_X7_hold : List (Nat × Instr × Nat) := [(0, .aload_n 0, 1), (1, .getfield 22, 3), (4, .aload_n 0, 1), (5, .getfield 10, 3), (8, .invokevirtual 33, 3), (11, .aload_n 0, 1), (12, .aload_n 0, 1), (13, .getfield 10, 3), (16, .iload_n 1, 1), (17, .iload_n 2, 1), (18, .iload_n 3, 1), (19, .invokevirtual 64, 3), (22, .invokevirtual 47, 3), (25, .ireturn, 1)]
set_option maxRecDepth 20000 in
theorem dc_X7_hold : ∀ q ∈ I_X7_hold, decode cX7_hold q.1 = .ok q.2 := by decide +kernel
def I_X7_buy : List (Nat × Instr × Nat) := [(0, .aload_n 0, 1), (1, .getfield 22, 3), (4, .aload_n 0, 1), (5, .getfield 10, 3), (8, .invokevirtual 33, 3), (11, .aload_n 0, 1), (12, .aload_n 0, 1), (13, .getfield 10, 3), (16, .iload_n 1, 1), (17, .invokevirtual 67, 3), (20, .invokevirtual 47, 3), (23, .ireturn, 1)]
set_option maxRecDepth 20000 in
theorem dc_X7_buy : ∀ q ∈ I_X7_buy, decode cX7_buy q.1 = .ok q.2 := by decide +kernel
def I_X7_drop : List (Nat × Instr × Nat) := [(0, .aload_n 0, 1), (1, .getfield 22, 3), (4, .aload_n 0, 1), (5, .getfield 10, 3), (8, .invokevirtual 33, 3), (11, .aload_n 0, 1), (12, .aload_n 0, 1), (13, .getfield 10, 3), (16, .iload_n 1, 1), (17, .invokevirtual 70, 3), (20, .invokevirtual 47, 3), (23, .ireturn, 1)]
set_option maxRecDepth 20000 in
theorem dc_X7_drop : ∀ q ∈ I_X7_drop, decode cX7_drop q.1 = .ok q.2 := by decide +kernel
def I_X7_giveBack : List (Nat × Instr × Nat) := [(0, .aload_n 0, 1), (1, .getfield 22, 3), (4, .aload_n 0, 1), (5, .getfield 10, 3), (8, .invokevirtual 33, 3), (11, .aload_n 0, 1), (12, .aload_n 0, 1), (13, .getfield 10, 3), (16, .iload_n 1, 1), (17, .invokevirtual 73, 3), (20, .invokevirtual 47, 3), (23, .ireturn, 1)]
set_option maxRecDepth 20000 in
theorem dc_X7_giveBack : ∀ q ∈ I_X7_giveBack, decode cX7_giveBack q.1 = .ok q.2 := by decide +kernel
def I_X7_comeIn : List (Nat × Instr × Nat) := [(0, .aload_n 0, 1), (1, .getfield 22, 3), (4, .aload_n 0, 1), (5, .getfield 10, 3), (8, .invokevirtual 33, 3), (11, .aload_n 0, 1), (12, .aload_n 0, 1), (13, .getfield 10, 3), (16, .iload_n 1, 1), (17, .invokevirtual 76, 3), (20, .invokevirtual 47, 3), (23, .ireturn, 1)]
set_option maxRecDepth 20000 in
theorem dc_X7_comeIn : ∀ q ∈ I_X7_comeIn, decode cX7_comeIn q.1 = .ok q.2 := by decide +kernel
def I_X7_upgrade : List (Nat × Instr × Nat) := [(0, .aload_n 0, 1), (1, .getfield 22, 3), (4, .aload_n 0, 1), (5, .getfield 10, 3), (8, .invokevirtual 33, 3), (11, .aload_n 0, 1), (12, .aload_n 0, 1), (13, .getfield 10, 3), (16, .iload_n 1, 1), (17, .invokevirtual 79, 3), (20, .invokevirtual 47, 3), (23, .ireturn, 1)]
set_option maxRecDepth 20000 in
theorem dc_X7_upgrade : ∀ q ∈ I_X7_upgrade, decode cX7_upgrade q.1 = .ok q.2 := by decide +kernel
def I_X7_pass : List (Nat × Instr × Nat) := [(0, .aload_n 0, 1), (1, .getfield 22, 3), (4, .aload_n 0, 1), (5, .getfield 10, 3), (8, .invokevirtual 33, 3), (11, .aload_n 0, 1), (12, .aload_n 0, 1), (13, .getfield 10, 3), (16, .iload_n 1, 1), (17, .invokevirtual 82, 3), (20, .invokevirtual 47, 3), (23, .ireturn, 1)]
set_option maxRecDepth 20000 in
theorem dc_X7_pass : ∀ q ∈ I_X7_pass, decode cX7_pass q.1 = .ok q.2 := by decide +kernel
def I_X7_closeDoors : List (Nat × Instr × Nat) := [(0, .aload_n 0, 1), (1, .getfield 22, 3), (4, .aload_n 0, 1), (5, .getfield 10, 3), (8, .invokevirtual 33, 3), (11, .aload_n 0, 1), (12, .aload_n 0, 1), (13, .getfield 10, 3), (16, .invokevirtual 85, 3), (19, .invokevirtual 47, 3), (22, .ireturn, 1)]
set_option maxRecDepth 20000 in
theorem dc_X7_closeDoors : ∀ q ∈ I_X7_closeDoors, decode cX7_closeDoors q.1 = .ok q.2 := by decide +kernel
def I_X7_undo : List (Nat × Instr × Nat) := [(0, .aload_n 0, 1), (1, .getfield 22, 3), (4, .aload_n 0, 1), (5, .getfield 10, 3), (8, .invokevirtual 88, 3), (11, .ireturn, 1)]
set_option maxRecDepth 20000 in
theorem dc_X7_undo : ∀ q ∈ I_X7_undo, decode cX7_undo q.1 = .ok q.2 := by decide +kernel
def I_X7_append : List (Nat × Instr × Nat) := [(0, .aload_n 0, 1), (1, .getfield 29, 3), (4, .iload_n 1, 1), (5, .invokevirtual 92, 3), (8, .ireturn, 1)]
set_option maxRecDepth 20000 in
theorem dc_X7_append : ∀ q ∈ I_X7_append, decode cX7_append q.1 = .ok q.2 := by decide +kernel
def I_X7_clearText : List (Nat × Instr × Nat) := [(0, .aload_n 0, 1), (1, .getfield 29, 3), (4, .invokevirtual 95, 3), (7, .ireturn, 1)]
set_option maxRecDepth 20000 in
theorem dc_X7_clearText : ∀ q ∈ I_X7_clearText, decode cX7_clearText q.1 = .ok q.2 := by decide +kernel
def I_X7_run : List (Nat × Instr × Nat) := [(0, .aload_n 0, 1), (1, .getfield 22, 3), (4, .aload_n 0, 1), (5, .getfield 10, 3), (8, .invokevirtual 33, 3), (11, .aload_n 0, 1), (12, .getfield 29, 3), (15, .aload_n 0, 1), (16, .getfield 10, 3), (19, .invokevirtual 98, 3), (22, .istore_n 1, 1), (23, .iload_n 1, 1), (24, .ifCond .ge 16, 3), (27, .aload_n 0, 1), (28, .getfield 22, 3), (31, .aload_n 0, 1), (32, .getfield 10, 3), (35, .invokevirtual 101, 3), (38, .iload_n 1, 1), (39, .ireturn, 1), (40, .aload_n 0, 1), (41, .getfield 29, 3), (44, .invokevirtual 95, 3), (47, .pop, 1), (48, .aload_n 0, 1), (49, .iload_n 1, 1), (50, .invokevirtual 47, 3), (53, .ireturn, 1)]
set_option maxRecDepth 20000 in
theorem dc_X7_run : ∀ q ∈ I_X7_run, decode cX7_run q.1 = .ok q.2 := by decide +kernel
def I_X7_count : List (Nat × Instr × Nat) := [(0, .iload_n 1, 1), (1, .bipush 13, 2), (3, .if_icmp .ne 11, 3), (6, .aload_n 0, 1), (7, .getfield 22, 3), (10, .getfield 104, 3), (13, .ireturn, 1), (14, .iload_n 1, 1), (15, .bipush 14, 2), (17, .if_icmp .ne 11, 3), (20, .aload_n 0, 1), (21, .getfield 29, 3), (24, .getfield 108, 3), (27, .ireturn, 1), (28, .aload_n 0, 1), (29, .getfield 10, 3), (32, .iload_n 1, 1), (33, .invokevirtual 111, 3), (36, .ireturn, 1)]
set_option maxRecDepth 20000 in
theorem dc_X7_count : ∀ q ∈ I_X7_count, decode cX7_count q.1 = .ok q.2 := by decide +kernel
def I_X7_block : List (Nat × Instr × Nat) := [(0, .aload_n 0, 1), (1, .getfield 10, 3), (4, .getfield 37, 3), (7, .iload_n 1, 1), (8, .iload_n 2, 1), (9, .invokevirtual 114, 3), (12, .ireturn, 1)]
set_option maxRecDepth 20000 in
theorem dc_X7_block : ∀ q ∈ I_X7_block, decode cX7_block q.1 = .ok q.2 := by decide +kernel
def I_X7_chair : List (Nat × Instr × Nat) := [(0, .aload_n 0, 1), (1, .getfield 10, 3), (4, .getfield 37, 3), (7, .iload_n 1, 1), (8, .invokevirtual 118, 3), (11, .ireturn, 1)]
set_option maxRecDepth 20000 in
theorem dc_X7_chair : ∀ q ∈ I_X7_chair, decode cX7_chair q.1 = .ok q.2 := by decide +kernel
def I_X7_holdOf : List (Nat × Instr × Nat) := [(0, .aload_n 0, 1), (1, .getfield 10, 3), (4, .iload_n 1, 1), (5, .iload_n 2, 1), (6, .invokevirtual 121, 3), (9, .ireturn, 1)]
set_option maxRecDepth 20000 in
theorem dc_X7_holdOf : ∀ q ∈ I_X7_holdOf, decode cX7_holdOf q.1 = .ok q.2 := by decide +kernel
def I_X7_ticket : List (Nat × Instr × Nat) := [(0, .aload_n 0, 1), (1, .getfield 10, 3), (4, .iload_n 1, 1), (5, .iload_n 2, 1), (6, .invokevirtual 124, 3), (9, .ireturn, 1)]
set_option maxRecDepth 20000 in
theorem dc_X7_ticket : ∀ q ∈ I_X7_ticket, decode cX7_ticket q.1 = .ok q.2 := by decide +kernel
def I_X7_place : List (Nat × Instr × Nat) := [(0, .aload_n 0, 1), (1, .getfield 10, 3), (4, .getfield 37, 3), (7, .iload_n 1, 1), (8, .invokevirtual 127, 3), (11, .ifnull 10, 3), (14, .iload_n 2, 1), (15, .invokestatic 131, 3), (18, .ifCond .ne 5, 3), (21, .iconst (-1), 1), (22, .ireturn, 1), (23, .aload_n 0, 1), (24, .getfield 10, 3), (27, .getfield 37, 3), (30, .iload_n 1, 1), (31, .iload_n 2, 1), (32, .invokevirtual 135, 3), (35, .ireturn, 1)]
set_option maxRecDepth 20000 in
theorem dc_X7_place : ∀ q ∈ I_X7_place, decode cX7_place q.1 = .ok q.2 := by decide +kernel
def I_X7_wouldKill : List (Nat × Instr × Nat) := [(0, .aload_n 0, 1), (1, .getfield 10, 3), (4, .getfield 37, 3), (7, .iload_n 1, 1), (8, .invokevirtual 138, 3), (11, .ireturn, 1)]
set_option maxRecDepth 20000 in
theorem dc_X7_wouldKill : ∀ q ∈ I_X7_wouldKill, decode cX7_wouldKill q.1 = .ok q.2 := by decide +kernel
def I_X7_chain : List (Nat × Instr × Nat) := [(0, .aload_n 0, 1), (1, .getfield 10, 3), (4, .iload_n 1, 1), (5, .invokevirtual 141, 3), (8, .ifnonnull 5, 3), (11, .iconst (-1), 1), (12, .ireturn, 1), (13, .aload_n 0, 1), (14, .getfield 16, 3), (17, .aload_n 0, 1), (18, .getfield 10, 3), (21, .invokevirtual 145, 3), (24, .aload_n 0, 1), (25, .getfield 16, 3), (28, .iload_n 1, 1), (29, .invokevirtual 148, 3), (32, .ireturn, 1)]
set_option maxRecDepth 20000 in
theorem dc_X7_chain : ∀ q ∈ I_X7_chain, decode cX7_chain q.1 = .ok q.2 := by decide +kernel
def I_X7_cheapest : List (Nat × Instr × Nat) := [(0, .iload_n 1, 1), (1, .invokestatic 131, 3), (4, .ifCond .eq 17, 3), (7, .aload_n 0, 1), (8, .getfield 10, 3), (11, .getfield 37, 3), (14, .iload_n 1, 1), (15, .invokevirtual 151, 3), (18, .goto 4, 3), (21, .iconst (-1), 1), (22, .ireturn, 1)]
set_option maxRecDepth 20000 in
theorem dc_X7_cheapest : ∀ q ∈ I_X7_cheapest, decode cX7_cheapest q.1 = .ok q.2 := by decide +kernel
def I_X7_nextExpiry : List (Nat × Instr × Nat) := [(0, .aload_n 0, 1), (1, .getfield 10, 3), (4, .invokevirtual 154, 3), (7, .ireturn, 1)]
set_option maxRecDepth 20000 in
theorem dc_X7_nextExpiry : ∀ q ∈ I_X7_nextExpiry, decode cX7_nextExpiry q.1 = .ok q.2 := by decide +kernel
def I_X7_recorded : List (Nat × Instr × Nat) := [(0, .iload_n 1, 1), (1, .ifCond .lt 10, 3), (4, .aload_n 0, 1), (5, .getfield 22, 3), (8, .invokevirtual 157, 3), (11, .iload_n 1, 1), (12, .ireturn, 1)]
set_option maxRecDepth 20000 in
theorem dc_X7_recorded : ∀ q ∈ I_X7_recorded, decode cX7_recorded q.1 = .ok q.2 := by decide +kernel
def I_X8_in : List (Nat × Instr × Nat) := [(0, .iload_n 0, 1), (1, .iload_n 1, 1), (2, .if_icmp .lt 12, 3), (5, .iload_n 0, 1), (6, .iload_n 2, 1), (7, .if_icmp .gt 7, 3), (10, .iconst 1, 1), (11, .goto 4, 3), (14, .iconst 0, 1), (15, .ireturn, 1)]
set_option maxRecDepth 20000 in
theorem dc_X8_in : ∀ q ∈ I_X8_in, decode cX8_in q.1 = .ok q.2 := by decide +kernel
def I_X8_record : List (Nat × Instr × Nat) := [(0, .iconst 0, 1), (1, .istore_n 1, 1), (2, .iload_n 1, 1), (3, .sipush 589, 3), (6, .if_icmp .ge 21, 3), (9, .aload_n 0, 1), (10, .getfield 13, 3), (13, .iload_n 1, 1), (14, .aload_n 0, 1), (15, .getfield 7, 3), (18, .iload_n 1, 1), (19, .iaload, 1), (20, .iastore, 1), (21, .iinc 1 1, 3), (24, .goto (-22), 3), (27, .aload_n 0, 1), (28, .invokevirtual 29, 3), (31, .return_, 1)]
set_option maxRecDepth 20000 in
theorem dc_X8_record : ∀ q ∈ I_X8_record, decode cX8_record q.1 = .ok q.2 := by decide +kernel
def I_X8_keep : List (Nat × Instr × Nat) := [(0, .aload_n 0, 1), (1, .getfield 32, 3), (4, .iconst 5, 1), (5, .if_icmp .ne 44, 3), (8, .iconst 0, 1), (9, .istore_n 1, 1), (10, .iload_n 1, 1), (11, .sipush 2356, 3), (14, .if_icmp .ge 25, 3), (17, .aload_n 0, 1), (18, .getfield 16, 3), (21, .iload_n 1, 1), (22, .aload_n 0, 1), (23, .getfield 16, 3), (26, .iload_n 1, 1), (27, .sipush 589, 3), (30, .iadd, 1), (31, .iaload, 1), (32, .iastore, 1), (33, .iinc 1 1, 3), (36, .goto (-26), 3), (39, .aload_n 0, 1), (40, .dup, 1), (41, .getfield 32, 3), (44, .iconst 1, 1), (45, .isub, 1), (46, .putfield 32, 3), (49, .iconst 0, 1), (50, .istore_n 1, 1), (51, .iload_n 1, 1), (52, .sipush 589, 3), (55, .if_icmp .ge 30, 3), (58, .aload_n 0, 1), (59, .getfield 16, 3), (62, .sipush 589, 3), (65, .aload_n 0, 1), (66, .getfield 32, 3), (69, .imul, 1), (70, .iload_n 1, 1), (71, .iadd, 1), (72, .aload_n 0, 1), (73, .getfield 13, 3), (76, .iload_n 1, 1), (77, .iaload, 1), (78, .iastore, 1), (79, .iinc 1 1, 3), (82, .goto (-31), 3), (85, .aload_n 0, 1), (86, .dup, 1), (87, .getfield 32, 3), (90, .iconst 1, 1), (91, .iadd, 1), (92, .putfield 32, 3), (95, .return_, 1)]
set_option maxRecDepth 20000 in
theorem dc_X8_keep : ∀ q ∈ I_X8_keep, decode cX8_keep q.1 = .ok q.2 := by decide +kernel
def I_X8_of : List (Nat × Instr × Nat) := [(0, .aload_n 0, 1), (1, .getfield 7, 3), (4, .bipush 11, 2), (6, .iconst 3, 1), (7, .iload_n 1, 1), (8, .imul, 1), (9, .iadd, 1), (10, .iload_n 2, 1), (11, .iadd, 1), (12, .iaload, 1), (13, .ireturn, 1)]
set_option maxRecDepth 20000 in
theorem dc_X8_of : ∀ q ∈ I_X8_of, decode cX8_of q.1 = .ok q.2 := by decide +kernel
def I_X8_isBlock : List (Nat × Instr × Nat) := [(0, .iload_n 1, 1), (1, .iconst 0, 1), (2, .aload_n 0, 1), (3, .getfield 7, 3), (6, .bipush 6, 2), (8, .iaload, 1), (9, .iconst 1, 1), (10, .isub, 1), (11, .invokestatic 35, 3), (14, .ireturn, 1)]
set_option maxRecDepth 20000 in
theorem dc_X8_isBlock : ∀ q ∈ I_X8_isBlock, decode cX8_isBlock q.1 = .ok q.2 := by decide +kernel
def I_X8_isStage : List (Nat × Instr × Nat) := [(0, .iload_n 1, 1), (1, .iconst 0, 1), (2, .aload_n 0, 1), (3, .getfield 7, 3), (6, .bipush 7, 2), (8, .iaload, 1), (9, .iconst 1, 1), (10, .isub, 1), (11, .invokestatic 35, 3), (14, .ireturn, 1)]
set_option maxRecDepth 20000 in
theorem dc_X8_isStage : ∀ q ∈ I_X8_isStage, decode cX8_isStage q.1 = .ok q.2 := by decide +kernel
def I_X8_isHold : List (Nat × Instr × Nat) := [(0, .iload_n 1, 1), (1, .iconst 0, 1), (2, .aload_n 0, 1), (3, .getfield 7, 3), (6, .bipush 8, 2), (8, .iaload, 1), (9, .iconst 1, 1), (10, .isub, 1), (11, .invokestatic 35, 3), (14, .ireturn, 1)]
set_option maxRecDepth 20000 in
theorem dc_X8_isHold : ∀ q ∈ I_X8_isHold, decode cX8_isHold q.1 = .ok q.2 := by decide +kernel
def I_X8_isTicket : List (Nat × Instr × Nat) := [(0, .iload_n 1, 1), (1, .iconst 0, 1), (2, .aload_n 0, 1), (3, .getfield 7, 3), (6, .bipush 9, 2), (8, .iaload, 1), (9, .iconst 1, 1), (10, .isub, 1), (11, .invokestatic 35, 3), (14, .ireturn, 1)]
set_option maxRecDepth 20000 in
theorem dc_X8_isTicket : ∀ q ∈ I_X8_isTicket, decode cX8_isTicket q.1 = .ok q.2 := by decide +kernel
def I_X8_ofHold : List (Nat × Instr × Nat) := [(0, .aload_n 0, 1), (1, .getfield 7, 3), (4, .sipush 389, 3), (7, .iconst 5, 1), (8, .iload_n 1, 1), (9, .imul, 1), (10, .iadd, 1), (11, .iload_n 2, 1), (12, .iadd, 1), (13, .iaload, 1), (14, .ireturn, 1)]
set_option maxRecDepth 20000 in
theorem dc_X8_ofHold : ∀ q ∈ I_X8_ofHold, decode cX8_ofHold q.1 = .ok q.2 := by decide +kernel
def I_X8_ofTicket : List (Nat × Instr × Nat) := [(0, .aload_n 0, 1), (1, .getfield 7, 3), (4, .sipush 489, 3), (7, .iconst 5, 1), (8, .iload_n 1, 1), (9, .imul, 1), (10, .iadd, 1), (11, .iload_n 2, 1), (12, .iadd, 1), (13, .iaload, 1), (14, .ireturn, 1)]
set_option maxRecDepth 20000 in
theorem dc_X8_ofTicket : ∀ q ∈ I_X8_ofTicket, decode cX8_ofTicket q.1 = .ok q.2 := by decide +kernel
def I_X8_isUp : List (Nat × Instr × Nat) := [(0, .aload_n 0, 1), (1, .getfield 7, 3), (4, .bipush 10, 2), (6, .iaload, 1), (7, .iload_n 1, 1), (8, .ishr, 1), (9, .iconst 1, 1), (10, .iand, 1), (11, .iconst 1, 1), (12, .if_icmp .ne 7, 3), (15, .iconst 1, 1), (16, .goto 4, 3), (19, .iconst 0, 1), (20, .ireturn, 1)]
set_option maxRecDepth 20000 in
theorem dc_X8_isUp : ∀ q ∈ I_X8_isUp, decode cX8_isUp q.1 = .ok q.2 := by decide +kernel
def I_X8_isChair : List (Nat × Instr × Nat) := [(0, .iload_n 1, 1), (1, .ifCond .lt 53, 3), (4, .aload_n 0, 1), (5, .iload_n 1, 1), (6, .bipush 100, 2), (8, .idiv, 1), (9, .invokevirtual 39, 3), (12, .ifCond .eq 42, 3), (15, .iload_n 1, 1), (16, .bipush 10, 2), (18, .idiv, 1), (19, .bipush 10, 2), (21, .irem, 1), (22, .aload_n 0, 1), (23, .iload_n 1, 1), (24, .bipush 100, 2), (26, .idiv, 1), (27, .iconst 0, 1), (28, .invokevirtual 43, 3), (31, .if_icmp .ge 23, 3), (34, .iload_n 1, 1), (35, .bipush 10, 2), (37, .irem, 1), (38, .aload_n 0, 1), (39, .iload_n 1, 1), (40, .bipush 100, 2), (42, .idiv, 1), (43, .iconst 1, 1), (44, .invokevirtual 43, 3), (47, .if_icmp .ge 7, 3), (50, .iconst 1, 1), (51, .goto 4, 3), (54, .iconst 0, 1), (55, .ireturn, 1)]
set_option maxRecDepth 20000 in
theorem dc_X8_isChair : ∀ q ∈ I_X8_isChair, decode cX8_isChair q.1 = .ok q.2 := by decide +kernel
def I_X8_atChair : List (Nat × Instr × Nat) := [(0, .bipush 29, 2), (2, .bipush 60, 2), (4, .iload_n 0, 1), (5, .bipush 100, 2), (7, .idiv, 1), (8, .imul, 1), (9, .iadd, 1), (10, .iload_n 0, 1), (11, .bipush 100, 2), (13, .irem, 1), (14, .iadd, 1), (15, .ireturn, 1)]
set_option maxRecDepth 20000 in
theorem dc_X8_atChair : ∀ q ∈ I_X8_atChair, decode cX8_atChair q.1 = .ok q.2 := by decide +kernel
def I_X8_isWhat : List (Nat × Instr × Nat) := [(0, .aload_n 0, 1), (1, .getfield 7, 3), (4, .iload_n 1, 1), (5, .invokestatic 47, 3), (8, .iaload, 1), (9, .iconst 3, 1), (10, .iand, 1), (11, .ireturn, 1)]
set_option maxRecDepth 20000 in
theorem dc_X8_isWhat : ∀ q ∈ I_X8_isWhat, decode cX8_isWhat q.1 = .ok q.2 := by decide +kernel
def I_X8_isKilled : List (Nat × Instr × Nat) := [(0, .aload_n 0, 1), (1, .getfield 7, 3), (4, .iload_n 1, 1), (5, .invokestatic 47, 3), (8, .iaload, 1), (9, .iconst 2, 1), (10, .ishr, 1), (11, .aload_n 0, 1), (12, .getfield 7, 3), (15, .bipush 10, 2), (17, .iaload, 1), (18, .iand, 1), (19, .ifCond .eq 7, 3), (22, .iconst 1, 1), (23, .goto 4, 3), (26, .iconst 0, 1), (27, .ireturn, 1)]
set_option maxRecDepth 20000 in
theorem dc_X8_isKilled : ∀ q ∈ I_X8_isKilled, decode cX8_isKilled q.1 = .ok q.2 := by decide +kernel
def I_X8_isFor : List (Nat × Instr × Nat) := [(0, .aload_n 0, 1), (1, .getfield 7, 3), (4, .iload_n 2, 1), (5, .invokestatic 47, 3), (8, .iaload, 1), (9, .iconst 2, 1), (10, .iload_n 1, 1), (11, .iadd, 1), (12, .ishr, 1), (13, .iconst 1, 1), (14, .iand, 1), (15, .iconst 1, 1), (16, .if_icmp .ne 7, 3), (19, .iconst 1, 1), (20, .goto 4, 3), (23, .iconst 0, 1), (24, .ireturn, 1)]
set_option maxRecDepth 20000 in
theorem dc_X8_isFor : ∀ q ∈ I_X8_isFor, decode cX8_isFor q.1 = .ok q.2 := by decide +kernel
def I_X8_become : List (Nat × Instr × Nat) := [(0, .iconst 0, 1), (1, .istore 4, 2), (3, .iload 4, 2), (5, .iload_n 2, 1), (6, .if_icmp .ge 37, 3), (9, .iload_n 1, 1), (10, .iload 4, 2), (12, .iadd, 1), (13, .invokestatic 47, 3), (16, .istore 5, 2), (18, .aload_n 0, 1), (19, .getfield 7, 3), (22, .iload 5, 2), (24, .aload_n 0, 1), (25, .getfield 7, 3), (28, .iload 5, 2), (30, .iaload, 1), (31, .bipush (-4), 2), (33, .iand, 1), (34, .iload_n 3, 1), (35, .ior, 1), (36, .iastore, 1), (37, .iinc 4 1, 3), (40, .goto (-37), 3), (43, .return_, 1)]
set_option maxRecDepth 20000 in
theorem dc_X8_become : ∀ q ∈ I_X8_become, decode cX8_become q.1 = .ok q.2 := by decide +kernel
def I_X8_isOpen : List (Nat × Instr × Nat) := [(0, .iload_n 2, 1), (1, .iconst 0, 1), (2, .bipush 9, 2), (4, .invokestatic 35, 3), (7, .ifCond .eq 37, 3), (10, .aload_n 0, 1), (11, .iload_n 1, 1), (12, .iload_n 2, 1), (13, .iadd, 1), (14, .invokevirtual 51, 3), (17, .ifCond .eq 27, 3), (20, .aload_n 0, 1), (21, .iload_n 1, 1), (22, .iload_n 2, 1), (23, .iadd, 1), (24, .invokevirtual 54, 3), (27, .ifCond .ne 17, 3), (30, .aload_n 0, 1), (31, .iload_n 1, 1), (32, .iload_n 2, 1), (33, .iadd, 1), (34, .invokevirtual 57, 3), (37, .ifCond .ne 7, 3), (40, .iconst 1, 1), (41, .goto 4, 3), (44, .iconst 0, 1), (45, .ireturn, 1)]
set_option maxRecDepth 20000 in
theorem dc_X8_isOpen : ∀ q ∈ I_X8_isOpen, decode cX8_isOpen q.1 = .ok q.2 := by decide +kernel
def I_X8_areOpen : List (Nat × Instr × Nat) := [(0, .iconst 1, 1), (1, .istore 4, 2), (3, .iconst 0, 1), (4, .istore 5, 2), (6, .iload 5, 2), (8, .iload_n 3, 1), (9, .if_icmp .ge 33, 3), (12, .iload 4, 2), (14, .ifCond .eq 19, 3), (17, .aload_n 0, 1), (18, .iload_n 1, 1), (19, .iload_n 2, 1), (20, .iload 5, 2), (22, .iadd, 1), (23, .invokevirtual 60, 3), (26, .ifCond .eq 7, 3), (29, .iconst 1, 1), (30, .goto 4, 3), (33, .iconst 0, 1), (34, .istore 4, 2), (36, .iinc 5 1, 3), (39, .goto (-33), 3), (42, .iload 4, 2), (44, .ireturn, 1)]
set_option maxRecDepth 20000 in
theorem dc_X8_areOpen : ∀ q ∈ I_X8_areOpen, decode cX8_areOpen q.1 = .ok q.2 := by decide +kernel
def I_X8_leftAlone : List (Nat × Instr × Nat) := [(0, .aload_n 0, 1), (1, .iload_n 1, 1), (2, .iload_n 2, 1), (3, .iconst 1, 1), (4, .isub, 1), (5, .invokevirtual 60, 3), (8, .ifCond .eq 18, 3), (11, .aload_n 0, 1), (12, .iload_n 1, 1), (13, .iload_n 2, 1), (14, .iconst 2, 1), (15, .isub, 1), (16, .invokevirtual 60, 3), (19, .ifCond .ne 7, 3), (22, .iconst 1, 1), (23, .goto 4, 3), (26, .iconst 0, 1), (27, .istore 4, 2), (29, .iload 4, 2), (31, .aload_n 0, 1), (32, .iload_n 1, 1), (33, .iload_n 2, 1), (34, .iload_n 3, 1), (35, .iadd, 1), (36, .invokevirtual 60, 3), (39, .ifCond .eq 20, 3), (42, .aload_n 0, 1), (43, .iload_n 1, 1), (44, .iload_n 2, 1), (45, .iload_n 3, 1), (46, .iadd, 1), (47, .iconst 1, 1), (48, .iadd, 1), (49, .invokevirtual 60, 3), (52, .ifCond .ne 7, 3), (55, .iconst 1, 1), (56, .goto 4, 3), (59, .iconst 0, 1), (60, .iadd, 1), (61, .ireturn, 1)]
set_option maxRecDepth 20000 in
theorem dc_X8_leftAlone : ∀ q ∈ I_X8_leftAlone, decode cX8_leftAlone q.1 = .ok q.2 := by decide +kernel
def I_X8_placeIn : List (Nat × Instr × Nat) := [(0, .bipush (-9), 2), (2, .istore_n 3, 1), (3, .iconst 3, 1), (4, .istore 4, 2), (6, .iconst 0, 1), (7, .istore 5, 2), (9, .iload 5, 2), (11, .aload_n 0, 1), (12, .iload_n 1, 1), (13, .iconst 0, 1), (14, .invokevirtual 43, 3), (17, .if_icmp .ge 84, 3), (20, .bipush 100, 2), (22, .iload_n 1, 1), (23, .imul, 1), (24, .bipush 10, 2), (26, .iload 5, 2), (28, .imul, 1), (29, .iadd, 1), (30, .istore 6, 2), (32, .iconst 0, 1), (33, .istore 7, 2), (35, .iload 7, 2), (37, .aload_n 0, 1), (38, .iload_n 1, 1), (39, .iconst 1, 1), (40, .invokevirtual 43, 3), (43, .if_icmp .ge 52, 3), (46, .aload_n 0, 1), (47, .iload 6, 2), (49, .iload 7, 2), (51, .iload_n 2, 1), (52, .invokevirtual 64, 3), (55, .ifCond .eq 34, 3), (58, .aload_n 0, 1), (59, .iload 6, 2), (61, .iload 7, 2), (63, .iload_n 2, 1), (64, .invokevirtual 67, 3), (67, .iload 4, 2), (69, .if_icmp .ge 20, 3), (72, .iload 6, 2), (74, .iload 7, 2), (76, .iadd, 1), (77, .istore_n 3, 1), (78, .aload_n 0, 1), (79, .iload 6, 2), (81, .iload 7, 2), (83, .iload_n 2, 1), (84, .invokevirtual 67, 3), (87, .istore 4, 2), (89, .iinc 7 1, 3), (92, .goto (-57), 3), (95, .iinc 5 1, 3), (98, .goto (-89), 3), (101, .iload_n 3, 1), (102, .ireturn, 1)]
set_option maxRecDepth 20000 in
theorem dc_X8_placeIn : ∀ q ∈ I_X8_placeIn, decode cX8_placeIn q.1 = .ok q.2 := by decide +kernel
def I_X8_rank : List (Nat × Instr × Nat) := [(0, .iconst 0, 1), (1, .istore_n 2, 1), (2, .iconst 0, 1), (3, .istore_n 3, 1), (4, .iload_n 3, 1), (5, .aload_n 0, 1), (6, .getfield 7, 3), (9, .bipush 6, 2), (11, .iaload, 1), (12, .if_icmp .ge 32, 3), (15, .iload_n 2, 1), (16, .aload_n 0, 1), (17, .iload_n 3, 1), (18, .iconst 2, 1), (19, .invokevirtual 43, 3), (22, .aload_n 0, 1), (23, .iload_n 1, 1), (24, .iconst 2, 1), (25, .invokevirtual 43, 3), (28, .if_icmp .ge 7, 3), (31, .iconst 1, 1), (32, .goto 4, 3), (35, .iconst 0, 1), (36, .iadd, 1), (37, .istore_n 2, 1), (38, .iinc 3 1, 3), (41, .goto (-37), 3), (44, .iload_n 2, 1), (45, .ireturn, 1)]
set_option maxRecDepth 20000 in
theorem dc_X8_rank : ∀ q ∈ I_X8_rank, decode cX8_rank q.1 = .ok q.2 := by decide +kernel
def I_X8_counted : List (Nat × Instr × Nat) := [(0, .iconst 0, 1), (1, .istore_n 3, 1), (2, .iconst 0, 1), (3, .istore 4, 2), (5, .iload 4, 2), (7, .aload_n 0, 1), (8, .iload_n 1, 1), (9, .iconst 0, 1), (10, .invokevirtual 43, 3), (13, .if_icmp .ge 98, 3), (16, .iconst 0, 1), (17, .istore 5, 2), (19, .iload 5, 2), (21, .aload_n 0, 1), (22, .iload_n 1, 1), (23, .iconst 1, 1), (24, .invokevirtual 43, 3), (27, .if_icmp .ge 78, 3), (30, .bipush 100, 2), (32, .iload_n 1, 1), (33, .imul, 1), (34, .bipush 10, 2), (36, .iload 4, 2), (38, .imul, 1), (39, .iadd, 1), (40, .iload 5, 2), (42, .iadd, 1), (43, .istore 6, 2), (45, .aload_n 0, 1), (46, .iload 6, 2), (48, .invokevirtual 54, 3), (51, .ifCond .le 14, 3), (54, .iconst 1, 1), (55, .aload_n 0, 1), (56, .iload 6, 2), (58, .invokevirtual 54, 3), (61, .iadd, 1), (62, .goto 17, 3), (65, .aload_n 0, 1), (66, .iload 6, 2), (68, .invokevirtual 57, 3), (71, .ifCond .eq 7, 3), (74, .iconst 1, 1), (75, .goto 4, 3), (78, .iconst 5, 1), (79, .istore 7, 2), (81, .iload_n 3, 1), (82, .iload_n 2, 1), (83, .ifCond .eq 9, 3), (86, .iload 7, 2), (88, .iload_n 2, 1), (89, .if_icmp .ne 7, 3), (92, .iconst 1, 1), (93, .goto 4, 3), (96, .iconst 0, 1), (97, .iadd, 1), (98, .istore_n 3, 1), (99, .iinc 5 1, 3), (102, .goto (-83), 3), (105, .iinc 4 1, 3), (108, .goto (-103), 3), (111, .iload_n 3, 1), (112, .ireturn, 1)]
set_option maxRecDepth 20000 in
theorem dc_X8_counted : ∀ q ∈ I_X8_counted, decode cX8_counted q.1 = .ok q.2 := by decide +kernel
def I_X8_countedAll : List (Nat × Instr × Nat) := [(0, .iconst 0, 1), (1, .istore_n 2, 1), (2, .iconst 0, 1), (3, .istore_n 3, 1), (4, .iload_n 3, 1), (5, .aload_n 0, 1), (6, .getfield 7, 3), (9, .bipush 6, 2), (11, .iaload, 1), (12, .if_icmp .ge 18, 3), (15, .iload_n 2, 1), (16, .aload_n 0, 1), (17, .iload_n 3, 1), (18, .iload_n 1, 1), (19, .invokevirtual 71, 3), (22, .iadd, 1), (23, .istore_n 2, 1), (24, .iinc 3 1, 3), (27, .goto (-23), 3), (30, .iload_n 2, 1), (31, .ireturn, 1)]
set_option maxRecDepth 20000 in
theorem dc_X8_countedAll : ∀ q ∈ I_X8_countedAll, decode cX8_countedAll q.1 = .ok q.2 := by decide +kernel
def I_X8_addBlock : List (Nat × Instr × Nat) := [(0, .aload_n 0, 1), (1, .iconst 0, 1), (2, .putfield 25, 3), (5, .iload_n 1, 1), (6, .iconst 1, 1), (7, .bipush 6, 2), (9, .invokestatic 35, 3), (12, .ifCond .eq 24, 3), (15, .iload_n 2, 1), (16, .iconst 1, 1), (17, .bipush 10, 2), (19, .invokestatic 35, 3), (22, .ifCond .eq 14, 3), (25, .iload_n 3, 1), (26, .iconst 1, 1), (27, .sipush 500, 3), (30, .invokestatic 35, 3), (33, .ifCond .ne 5, 3), (36, .iconst (-1), 1), (37, .ireturn, 1), (38, .aload_n 0, 1), (39, .getfield 7, 3), (42, .bipush 6, 2), (44, .iaload, 1), (45, .bipush 6, 2), (47, .if_icmp .ne 6, 3), (50, .bipush (-3), 2), (52, .ireturn, 1), (53, .aload_n 0, 1), (54, .invokevirtual 74, 3), (57, .bipush 11, 2), (59, .iconst 3, 1), (60, .aload_n 0, 1), (61, .getfield 7, 3), (64, .bipush 6, 2), (66, .iaload, 1), (67, .imul, 1), (68, .iadd, 1), (69, .istore 4, 2), (71, .aload_n 0, 1), (72, .getfield 7, 3), (75, .iload 4, 2), (77, .iconst 0, 1), (78, .iadd, 1), (79, .iload_n 1, 1), (80, .iastore, 1), (81, .aload_n 0, 1), (82, .getfield 7, 3), (85, .iload 4, 2), (87, .iconst 1, 1), (88, .iadd, 1), (89, .iload_n 2, 1), (90, .iastore, 1), (91, .aload_n 0, 1), (92, .getfield 7, 3), (95, .iload 4, 2), (97, .iconst 2, 1), (98, .iadd, 1), (99, .iload_n 3, 1), (100, .iastore, 1), (101, .aload_n 0, 1), (102, .getfield 7, 3), (105, .bipush 6, 2), (107, .dup2, 1), (108, .iaload, 1), (109, .iconst 1, 1), (110, .iadd, 1), (111, .iastore, 1), (112, .aload_n 0, 1), (113, .getfield 7, 3), (116, .bipush 6, 2), (118, .iaload, 1), (119, .iconst 1, 1), (120, .isub, 1), (121, .ireturn, 1)]
set_option maxRecDepth 20000 in
theorem dc_X8_addBlock : ∀ q ∈ I_X8_addBlock, decode cX8_addBlock q.1 = .ok q.2 := by decide +kernel
def I_X8_addStage : List (Nat × Instr × Nat) := [(0, .aload_n 0, 1), (1, .iconst 0, 1), (2, .putfield 25, 3), (5, .aload_n 0, 1), (6, .getfield 7, 3), (9, .bipush 7, 2), (11, .iaload, 1), (12, .iconst 4, 1), (13, .if_icmp .ne 6, 3), (16, .bipush (-3), 2), (18, .ireturn, 1), (19, .aload_n 0, 1), (20, .invokevirtual 74, 3), (23, .aload_n 0, 1), (24, .getfield 7, 3), (27, .bipush 7, 2), (29, .dup2, 1), (30, .iaload, 1), (31, .iconst 1, 1), (32, .iadd, 1), (33, .iastore, 1), (34, .aload_n 0, 1), (35, .getfield 7, 3), (38, .bipush 7, 2), (40, .iaload, 1), (41, .iconst 1, 1), (42, .isub, 1), (43, .ireturn, 1)]
set_option maxRecDepth 20000 in
theorem dc_X8_addStage : ∀ q ∈ I_X8_addStage, decode cX8_addStage q.1 = .ok q.2 := by decide +kernel
def I_X8_isPiece : List (Nat × Instr × Nat) := [(0, .aload_n 0, 1), (1, .iload_n 1, 1), (2, .invokevirtual 51, 3), (5, .ifCond .eq 48, 3), (8, .aload_n 0, 1), (9, .iload_n 2, 1), (10, .invokevirtual 51, 3), (13, .ifCond .eq 40, 3), (16, .iload_n 1, 1), (17, .bipush 100, 2), (19, .idiv, 1), (20, .iload_n 2, 1), (21, .bipush 100, 2), (23, .idiv, 1), (24, .if_icmp .ne 29, 3), (27, .iload_n 2, 1), (28, .bipush 10, 2), (30, .idiv, 1), (31, .iload_n 1, 1), (32, .bipush 10, 2), (34, .idiv, 1), (35, .if_icmp .lt 18, 3), (38, .iload_n 2, 1), (39, .bipush 10, 2), (41, .irem, 1), (42, .iload_n 1, 1), (43, .bipush 10, 2), (45, .irem, 1), (46, .if_icmp .lt 7, 3), (49, .iconst 1, 1), (50, .goto 4, 3), (53, .iconst 0, 1), (54, .ireturn, 1)]
set_option maxRecDepth 20000 in
theorem dc_X8_isPiece : ∀ q ∈ I_X8_isPiece, decode cX8_isPiece q.1 = .ok q.2 := by decide +kernel
def I_X8_killedBy : List (Nat × Instr × Nat) := [(0, .iconst 0, 1), (1, .istore 4, 2), (3, .iconst 0, 1), (4, .istore 5, 2), (6, .iload 5, 2), (8, .aload_n 0, 1), (9, .getfield 7, 3), (12, .bipush 6, 2), (14, .iaload, 1), (15, .if_icmp .ge 113, 3), (18, .iconst 0, 1), (19, .istore 6, 2), (21, .iload 6, 2), (23, .aload_n 0, 1), (24, .iload 5, 2), (26, .iconst 0, 1), (27, .invokevirtual 43, 3), (30, .if_icmp .ge 92, 3), (33, .iconst 0, 1), (34, .istore 7, 2), (36, .iload 7, 2), (38, .aload_n 0, 1), (39, .iload 5, 2), (41, .iconst 1, 1), (42, .invokevirtual 43, 3), (45, .if_icmp .ge 71, 3), (48, .bipush 100, 2), (50, .iload 5, 2), (52, .imul, 1), (53, .bipush 10, 2), (55, .iload 6, 2), (57, .imul, 1), (58, .iadd, 1), (59, .iload 7, 2), (61, .iadd, 1), (62, .istore 8, 2), (64, .iload 4, 2), (66, .aload_n 0, 1), (67, .iload_n 1, 1), (68, .iload 8, 2), (70, .invokevirtual 77, 3), (73, .ifCond .eq 33, 3), (76, .iload_n 2, 1), (77, .ifCond .eq 12, 3), (80, .aload_n 0, 1), (81, .iload 8, 2), (83, .invokevirtual 57, 3), (86, .ifCond .ne 20, 3), (89, .iload_n 3, 1), (90, .ifCond .eq 12, 3), (93, .aload_n 0, 1), (94, .iload 8, 2), (96, .invokevirtual 54, 3), (99, .ifCond .eq 7, 3), (102, .iconst 1, 1), (103, .goto 4, 3), (106, .iconst 0, 1), (107, .iadd, 1), (108, .istore 4, 2), (110, .iinc 7 1, 3), (113, .goto (-77), 3), (116, .iinc 6 1, 3), (119, .goto (-98), 3), (122, .iinc 5 1, 3), (125, .goto (-119), 3), (128, .iload 4, 2), (130, .ireturn, 1)]
set_option maxRecDepth 20000 in
theorem dc_X8_killedBy : ∀ q ∈ I_X8_killedBy, decode cX8_killedBy q.1 = .ok q.2 := by decide +kernel
def I_X8_addPiece : List (Nat × Instr × Nat) := [(0, .aload_n 0, 1), (1, .iconst 0, 1), (2, .putfield 25, 3), (5, .aload_n 0, 1), (6, .iload_n 1, 1), (7, .invokevirtual 80, 3), (10, .ifCond .eq 12, 3), (13, .aload_n 0, 1), (14, .iload_n 2, 1), (15, .iload_n 3, 1), (16, .invokevirtual 83, 3), (19, .ifCond .ne 5, 3), (22, .iconst (-1), 1), (23, .ireturn, 1), (24, .aload_n 0, 1), (25, .iload_n 1, 1), (26, .invokevirtual 86, 3), (29, .ifCond .eq 6, 3), (32, .bipush (-2), 2), (34, .ireturn, 1), (35, .aload_n 0, 1), (36, .invokevirtual 74, 3), (39, .iload_n 2, 1), (40, .bipush 10, 2), (42, .idiv, 1), (43, .istore 4, 2), (45, .iload 4, 2), (47, .iload_n 3, 1), (48, .bipush 10, 2), (50, .idiv, 1), (51, .if_icmp .gt 52, 3), (54, .iload_n 2, 1), (55, .bipush 10, 2), (57, .irem, 1), (58, .istore 5, 2), (60, .iload 5, 2), (62, .iload_n 3, 1), (63, .bipush 10, 2), (65, .irem, 1), (66, .if_icmp .gt 31, 3), (69, .aload_n 0, 1), (70, .getfield 7, 3), (73, .bipush 10, 2), (75, .iload 4, 2), (77, .imul, 1), (78, .iload 5, 2), (80, .iadd, 1), (81, .invokestatic 47, 3), (84, .dup2, 1), (85, .iaload, 1), (86, .iconst 4, 1), (87, .iload_n 1, 1), (88, .ishl, 1), (89, .ior, 1), (90, .iastore, 1), (91, .iinc 5 1, 3), (94, .goto (-34), 3), (97, .iinc 4 1, 3), (100, .goto (-55), 3), (103, .aload_n 0, 1), (104, .iload_n 1, 1), (105, .iconst 0, 1), (106, .iconst 0, 1), (107, .invokevirtual 89, 3), (110, .ireturn, 1)]
set_option maxRecDepth 20000 in
theorem dc_X8_addPiece : ∀ q ∈ I_X8_addPiece, decode cX8_addPiece q.1 = .ok q.2 := by decide +kernel
def I_X8_puts : List (Nat × Instr × Nat) := [(0, .aload_n 0, 1), (1, .iload_n 1, 1), (2, .invokevirtual 80, 3), (5, .ifCond .ne 5, 3), (8, .iconst (-1), 1), (9, .ireturn, 1), (10, .aload_n 0, 1), (11, .iload_n 1, 1), (12, .invokevirtual 86, 3), (15, .ifCond .ne 13, 3), (18, .aload_n 0, 1), (19, .iload_n 1, 1), (20, .iconst 0, 1), (21, .iconst 1, 1), (22, .invokevirtual 89, 3), (25, .ifCond .le 6, 3), (28, .bipush (-2), 2), (30, .ireturn, 1), (31, .aload_n 0, 1), (32, .getfield 7, 3), (35, .bipush 10, 2), (37, .dup2, 1), (38, .iaload, 1), (39, .iconst 1, 1), (40, .iload_n 1, 1), (41, .ishl, 1), (42, .ior, 1), (43, .iastore, 1), (44, .aload_n 0, 1), (45, .iconst 1, 1), (46, .invokevirtual 93, 3), (49, .ireturn, 1)]
set_option maxRecDepth 20000 in
theorem dc_X8_puts : ∀ q ∈ I_X8_puts, decode cX8_puts q.1 = .ok q.2 := by decide +kernel
def I_X8_acted : List (Nat × Instr × Nat) := [(0, .iload_n 1, 1), (1, .ifCond .lt 7, 3), (4, .aload_n 0, 1), (5, .invokevirtual 29, 3), (8, .iload_n 1, 1), (9, .ireturn, 1)]
set_option maxRecDepth 20000 in
theorem dc_X8_acted : ∀ q ∈ I_X8_acted, decode cX8_acted q.1 = .ok q.2 := by decide +kernel
def I_X8_aside : List (Nat × Instr × Nat) := [(0, .aload_n 0, 1), (1, .iconst 0, 1), (2, .putfield 25, 3), (5, .iconst 0, 1), (6, .istore_n 1, 1), (7, .iload_n 1, 1), (8, .sipush 589, 3), (11, .if_icmp .ge 21, 3), (14, .aload_n 0, 1), (15, .getfield 13, 3), (18, .iload_n 1, 1), (19, .aload_n 0, 1), (20, .getfield 7, 3), (23, .iload_n 1, 1), (24, .iaload, 1), (25, .iastore, 1), (26, .iinc 1 1, 3), (29, .goto (-22), 3), (32, .return_, 1)]
set_option maxRecDepth 20000 in
theorem dc_X8_aside : ∀ q ∈ I_X8_aside, decode cX8_aside q.1 = .ok q.2 := by decide +kernel
def I_X8_putUp : List (Nat × Instr × Nat) := [(0, .aload_n 0, 1), (1, .invokevirtual 96, 3), (4, .aload_n 0, 1), (5, .aload_n 0, 1), (6, .iload_n 1, 1), (7, .invokevirtual 99, 3), (10, .invokevirtual 102, 3), (13, .ireturn, 1)]
set_option maxRecDepth 20000 in
theorem dc_X8_putUp : ∀ q ∈ I_X8_putUp, decode cX8_putUp q.1 = .ok q.2 := by decide +kernel
def I_X8_takeDown : List (Nat × Instr × Nat) := [(0, .aload_n 0, 1), (1, .invokevirtual 96, 3), (4, .aload_n 0, 1), (5, .iload_n 1, 1), (6, .invokevirtual 80, 3), (9, .ifCond .ne 5, 3), (12, .iconst (-1), 1), (13, .ireturn, 1), (14, .aload_n 0, 1), (15, .iload_n 1, 1), (16, .invokevirtual 86, 3), (19, .ifCond .ne 6, 3), (22, .bipush (-2), 2), (24, .ireturn, 1), (25, .aload_n 0, 1), (26, .getfield 7, 3), (29, .bipush 10, 2), (31, .dup2, 1), (32, .iaload, 1), (33, .iconst 1, 1), (34, .iload_n 1, 1), (35, .ishl, 1), (36, .iconst (-1), 1), (37, .ixor, 1), (38, .iand, 1), (39, .iastore, 1), (40, .aload_n 0, 1), (41, .aload_n 0, 1), (42, .iconst 1, 1), (43, .invokevirtual 93, 3), (46, .invokevirtual 102, 3), (49, .ireturn, 1)]
set_option maxRecDepth 20000 in
theorem dc_X8_takeDown : ∀ q ∈ I_X8_takeDown, decode cX8_takeDown q.1 = .ok q.2 := by decide +kernel
def I_X8_holds : List (Nat × Instr × Nat) := [(0, .aload_n 0, 1), (1, .iload_n 1, 1), (2, .invokevirtual 39, 3), (5, .ifCond .eq 24, 3), (8, .iload_n 2, 1), (9, .iconst 1, 1), (10, .bipush 10, 2), (12, .invokestatic 35, 3), (15, .ifCond .eq 14, 3), (18, .iload_n 3, 1), (19, .iconst 1, 1), (20, .sipush 999, 3), (23, .invokestatic 35, 3), (26, .ifCond .ne 5, 3), (29, .iconst (-1), 1), (30, .ireturn, 1), (31, .aload_n 0, 1), (32, .iload_n 1, 1), (33, .iload_n 2, 1), (34, .invokevirtual 105, 3), (37, .istore 4, 2), (39, .iload 4, 2), (41, .bipush (-9), 2), (43, .if_icmp .ne 6, 3), (46, .bipush (-2), 2), (48, .ireturn, 1), (49, .aload_n 0, 1), (50, .getfield 7, 3), (53, .bipush 8, 2), (55, .iaload, 1), (56, .bipush 20, 2), (58, .if_icmp .ne 6, 3), (61, .bipush (-3), 2), (63, .ireturn, 1), (64, .sipush 389, 3), (67, .iconst 5, 1), (68, .aload_n 0, 1), (69, .getfield 7, 3), (72, .bipush 8, 2), (74, .iaload, 1), (75, .imul, 1), (76, .iadd, 1), (77, .istore 5, 2), (79, .aload_n 0, 1), (80, .getfield 7, 3), (83, .iload 5, 2), (85, .iconst 0, 1), (86, .iastore, 1), (87, .aload_n 0, 1), (88, .getfield 7, 3), (91, .iload 5, 2), (93, .iconst 1, 1), (94, .iadd, 1), (95, .iload 4, 2), (97, .iastore, 1), (98, .aload_n 0, 1), (99, .getfield 7, 3), (102, .iload 5, 2), (104, .iconst 2, 1), (105, .iadd, 1), (106, .iload_n 2, 1), (107, .iastore, 1), (108, .aload_n 0, 1), (109, .getfield 7, 3), (112, .iload 5, 2), (114, .iconst 3, 1), (115, .iadd, 1), (116, .aload_n 0, 1), (117, .getfield 7, 3), (120, .iconst 0, 1), (121, .iaload, 1), (122, .iload_n 3, 1), (123, .iadd, 1), (124, .iastore, 1), (125, .aload_n 0, 1), (126, .getfield 7, 3), (129, .iload 5, 2), (131, .iconst 4, 1), (132, .iadd, 1), (133, .bipush (-9), 2), (135, .iastore, 1), (136, .aload_n 0, 1), (137, .iload 4, 2), (139, .iload_n 2, 1), (140, .iconst 1, 1), (141, .invokevirtual 108, 3), (144, .aload_n 0, 1), (145, .getfield 7, 3), (148, .bipush 8, 2), (150, .dup2, 1), (151, .iaload, 1), (152, .iconst 1, 1), (153, .iadd, 1), (154, .iastore, 1), (155, .aload_n 0, 1), (156, .getfield 7, 3), (159, .bipush 8, 2), (161, .iaload, 1), (162, .iconst 1, 1), (163, .isub, 1), (164, .ireturn, 1)]
set_option maxRecDepth 20000 in
theorem dc_X8_holds : ∀ q ∈ I_X8_holds, decode cX8_holds q.1 = .ok q.2 := by decide +kernel
def I_X8_hold : List (Nat × Instr × Nat) := [(0, .aload_n 0, 1), (1, .invokevirtual 96, 3), (4, .aload_n 0, 1), (5, .aload_n 0, 1), (6, .iload_n 1, 1), (7, .iload_n 2, 1), (8, .iload_n 3, 1), (9, .invokevirtual 112, 3), (12, .invokevirtual 102, 3), (15, .ireturn, 1)]
set_option maxRecDepth 20000 in
theorem dc_X8_hold : ∀ q ∈ I_X8_hold, decode cX8_hold q.1 = .ok q.2 := by decide +kernel
def I_X8_buys : List (Nat × Instr × Nat) := [(0, .aload_n 0, 1), (1, .iload_n 1, 1), (2, .invokevirtual 115, 3), (5, .ifCond .ne 5, 3), (8, .iconst (-1), 1), (9, .ireturn, 1), (10, .aload_n 0, 1), (11, .iload_n 1, 1), (12, .iconst 0, 1), (13, .invokevirtual 118, 3), (16, .ifCond .eq 6, 3), (19, .bipush (-2), 2), (21, .ireturn, 1), (22, .aload_n 0, 1), (23, .getfield 7, 3), (26, .bipush 9, 2), (28, .iaload, 1), (29, .istore_n 2, 1), (30, .sipush 489, 3), (33, .iconst 5, 1), (34, .iload_n 2, 1), (35, .imul, 1), (36, .iadd, 1), (37, .istore_n 3, 1), (38, .aload_n 0, 1), (39, .iload_n 1, 1), (40, .iconst 1, 1), (41, .invokevirtual 118, 3), (44, .istore 4, 2), (46, .aload_n 0, 1), (47, .iload_n 1, 1), (48, .iconst 2, 1), (49, .invokevirtual 118, 3), (52, .istore 5, 2), (54, .aload_n 0, 1), (55, .getfield 7, 3), (58, .iload_n 3, 1), (59, .aload_n 0, 1), (60, .getfield 7, 3), (63, .iconst 1, 1), (64, .iaload, 1), (65, .iconst 1, 1), (66, .if_icmp .ne 7, 3), (69, .iconst 2, 1), (70, .goto 4, 3), (73, .iconst 0, 1), (74, .iastore, 1), (75, .aload_n 0, 1), (76, .getfield 7, 3), (79, .iload_n 3, 1), (80, .iconst 1, 1), (81, .iadd, 1), (82, .iload 4, 2), (84, .iastore, 1), (85, .aload_n 0, 1), (86, .getfield 7, 3), (89, .iload_n 3, 1), (90, .iconst 2, 1), (91, .iadd, 1), (92, .iload 5, 2), (94, .iastore, 1), (95, .aload_n 0, 1), (96, .getfield 7, 3), (99, .iload_n 3, 1), (100, .iconst 3, 1), (101, .iadd, 1), (102, .iload 5, 2), (104, .aload_n 0, 1), (105, .iload 4, 2), (107, .bipush 100, 2), (109, .idiv, 1), (110, .iconst 2, 1), (111, .invokevirtual 43, 3), (114, .imul, 1), (115, .iastore, 1), (116, .aload_n 0, 1), (117, .getfield 7, 3), (120, .iload_n 3, 1), (121, .iconst 4, 1), (122, .iadd, 1), (123, .iconst 0, 1), (124, .iastore, 1), (125, .aload_n 0, 1), (126, .getfield 7, 3), (129, .iconst 2, 1), (130, .dup2, 1), (131, .iaload, 1), (132, .aload_n 0, 1), (133, .getfield 7, 3), (136, .iload_n 3, 1), (137, .iconst 3, 1), (138, .iadd, 1), (139, .iaload, 1), (140, .iadd, 1), (141, .iastore, 1), (142, .aload_n 0, 1), (143, .getfield 7, 3), (146, .bipush 9, 2), (148, .dup2, 1), (149, .iaload, 1), (150, .iconst 1, 1), (151, .iadd, 1), (152, .iastore, 1), (153, .aload_n 0, 1), (154, .iload 4, 2), (156, .iload 5, 2), (158, .aload_n 0, 1), (159, .getfield 7, 3), (162, .iconst 1, 1), (163, .iaload, 1), (164, .iconst 1, 1), (165, .if_icmp .ne 7, 3), (168, .iconst 3, 1), (169, .goto 4, 3), (172, .iconst 2, 1), (173, .invokevirtual 108, 3), (176, .aload_n 0, 1), (177, .getfield 7, 3), (180, .sipush 389, 3), (183, .iconst 5, 1), (184, .iload_n 1, 1), (185, .imul, 1), (186, .iadd, 1), (187, .iconst 1, 1), (188, .iastore, 1), (189, .aload_n 0, 1), (190, .getfield 7, 3), (193, .sipush 389, 3), (196, .iconst 5, 1), (197, .iload_n 1, 1), (198, .imul, 1), (199, .iadd, 1), (200, .iconst 4, 1), (201, .iadd, 1), (202, .iload_n 2, 1), (203, .iastore, 1), (204, .iload_n 2, 1), (205, .ireturn, 1)]
set_option maxRecDepth 20000 in
theorem dc_X8_buys_0 : ∀ q ∈ (I_X8_buys.drop 0).take 120, decode cX8_buys q.1 = .ok q.2 := by decide +kernel
set_option maxRecDepth 20000 in
theorem dc_X8_buys_120 : ∀ q ∈ (I_X8_buys.drop 120).take 120, decode cX8_buys q.1 = .ok q.2 := by decide +kernel
set_option maxRecDepth 20000 in
theorem dc_X8_buys : ∀ q ∈ I_X8_buys, decode cX8_buys q.1 = .ok q.2 := by
  intro q hq
  rw [show I_X8_buys = (I_X8_buys.drop 0).take 120 ++ ((I_X8_buys.drop 120).take 120) from rfl] at hq
  simp only [List.mem_append] at hq
  rcases hq with h | h
  · exact dc_X8_buys_0 q h
  · exact dc_X8_buys_120 q h
def I_X8_buy : List (Nat × Instr × Nat) := [(0, .aload_n 0, 1), (1, .invokevirtual 96, 3), (4, .aload_n 0, 1), (5, .aload_n 0, 1), (6, .iload_n 1, 1), (7, .invokevirtual 121, 3), (10, .invokevirtual 102, 3), (13, .ireturn, 1)]
set_option maxRecDepth 20000 in
theorem dc_X8_buy : ∀ q ∈ I_X8_buy, decode cX8_buy q.1 = .ok q.2 := by decide +kernel
def I_X8_drops : List (Nat × Instr × Nat) := [(0, .aload_n 0, 1), (1, .iload_n 1, 1), (2, .invokevirtual 115, 3), (5, .ifCond .ne 5, 3), (8, .iconst (-1), 1), (9, .ireturn, 1), (10, .aload_n 0, 1), (11, .iload_n 1, 1), (12, .iconst 0, 1), (13, .invokevirtual 118, 3), (16, .ifCond .eq 6, 3), (19, .bipush (-2), 2), (21, .ireturn, 1), (22, .aload_n 0, 1), (23, .getfield 7, 3), (26, .sipush 389, 3), (29, .iconst 5, 1), (30, .iload_n 1, 1), (31, .imul, 1), (32, .iadd, 1), (33, .iconst 2, 1), (34, .iastore, 1), (35, .aload_n 0, 1), (36, .aload_n 0, 1), (37, .iload_n 1, 1), (38, .iconst 1, 1), (39, .invokevirtual 118, 3), (42, .aload_n 0, 1), (43, .iload_n 1, 1), (44, .iconst 2, 1), (45, .invokevirtual 118, 3), (48, .iconst 0, 1), (49, .invokevirtual 108, 3), (52, .aload_n 0, 1), (53, .iload_n 1, 1), (54, .iconst 2, 1), (55, .invokevirtual 118, 3), (58, .ireturn, 1)]
set_option maxRecDepth 20000 in
theorem dc_X8_drops : ∀ q ∈ I_X8_drops, decode cX8_drops q.1 = .ok q.2 := by decide +kernel
def I_X8_drop : List (Nat × Instr × Nat) := [(0, .aload_n 0, 1), (1, .invokevirtual 96, 3), (4, .aload_n 0, 1), (5, .aload_n 0, 1), (6, .iload_n 1, 1), (7, .invokevirtual 124, 3), (10, .invokevirtual 102, 3), (13, .ireturn, 1)]
set_option maxRecDepth 20000 in
theorem dc_X8_drop : ∀ q ∈ I_X8_drop, decode cX8_drop q.1 = .ok q.2 := by decide +kernel
def I_X8_ends : List (Nat × Instr × Nat) := [(0, .aload_n 0, 1), (1, .getfield 7, 3), (4, .sipush 489, 3), (7, .iconst 5, 1), (8, .iload_n 1, 1), (9, .imul, 1), (10, .iadd, 1), (11, .iload_n 2, 1), (12, .iastore, 1), (13, .aload_n 0, 1), (14, .aload_n 0, 1), (15, .iload_n 1, 1), (16, .iconst 1, 1), (17, .invokevirtual 127, 3), (20, .aload_n 0, 1), (21, .iload_n 1, 1), (22, .iconst 2, 1), (23, .invokevirtual 127, 3), (26, .iload_n 3, 1), (27, .invokevirtual 108, 3), (30, .return_, 1)]
set_option maxRecDepth 20000 in
theorem dc_X8_ends : ∀ q ∈ I_X8_ends, decode cX8_ends q.1 = .ok q.2 := by decide +kernel
def I_X8_whyNot : List (Nat × Instr × Nat) := [(0, .aload_n 0, 1), (1, .iload_n 1, 1), (2, .invokevirtual 130, 3), (5, .ifCond .ne 7, 3), (8, .iconst (-1), 1), (9, .goto 18, 3), (12, .aload_n 0, 1), (13, .iload_n 1, 1), (14, .iconst 0, 1), (15, .invokevirtual 127, 3), (18, .ifCond .eq 8, 3), (21, .bipush (-2), 2), (23, .goto 4, 3), (26, .iconst 0, 1), (27, .ireturn, 1)]
set_option maxRecDepth 20000 in
theorem dc_X8_whyNot : ∀ q ∈ I_X8_whyNot, decode cX8_whyNot q.1 = .ok q.2 := by decide +kernel
def I_X8_givesBack : List (Nat × Instr × Nat) := [(0, .aload_n 0, 1), (1, .iload_n 1, 1), (2, .invokevirtual 133, 3), (5, .ifCond .eq 9, 3), (8, .aload_n 0, 1), (9, .iload_n 1, 1), (10, .invokevirtual 133, 3), (13, .ireturn, 1), (14, .aload_n 0, 1), (15, .iload_n 1, 1), (16, .iconst 1, 1), (17, .iconst 0, 1), (18, .invokevirtual 136, 3), (21, .iconst 3, 1), (22, .aload_n 0, 1), (23, .iload_n 1, 1), (24, .iconst 3, 1), (25, .invokevirtual 127, 3), (28, .imul, 1), (29, .iconst 4, 1), (30, .idiv, 1), (31, .istore_n 2, 1), (32, .aload_n 0, 1), (33, .getfield 7, 3), (36, .iconst 3, 1), (37, .dup2, 1), (38, .iaload, 1), (39, .iload_n 2, 1), (40, .iadd, 1), (41, .iastore, 1), (42, .iload_n 2, 1), (43, .ireturn, 1)]
set_option maxRecDepth 20000 in
theorem dc_X8_givesBack : ∀ q ∈ I_X8_givesBack, decode cX8_givesBack q.1 = .ok q.2 := by decide +kernel
def I_X8_giveBack : List (Nat × Instr × Nat) := [(0, .aload_n 0, 1), (1, .invokevirtual 96, 3), (4, .aload_n 0, 1), (5, .aload_n 0, 1), (6, .iload_n 1, 1), (7, .invokevirtual 139, 3), (10, .invokevirtual 102, 3), (13, .ireturn, 1)]
set_option maxRecDepth 20000 in
theorem dc_X8_giveBack : ∀ q ∈ I_X8_giveBack, decode cX8_giveBack q.1 = .ok q.2 := by decide +kernel
def I_X8_comes : List (Nat × Instr × Nat) := [(0, .aload_n 0, 1), (1, .iload_n 1, 1), (2, .invokevirtual 133, 3), (5, .ifCond .eq 9, 3), (8, .aload_n 0, 1), (9, .iload_n 1, 1), (10, .invokevirtual 133, 3), (13, .ireturn, 1), (14, .aload_n 0, 1), (15, .iload_n 1, 1), (16, .iconst 2, 1), (17, .iconst 3, 1), (18, .invokevirtual 136, 3), (21, .aload_n 0, 1), (22, .iconst 4, 1), (23, .invokevirtual 93, 3), (26, .ireturn, 1)]
set_option maxRecDepth 20000 in
theorem dc_X8_comes : ∀ q ∈ I_X8_comes, decode cX8_comes q.1 = .ok q.2 := by decide +kernel
def I_X8_comeIn : List (Nat × Instr × Nat) := [(0, .aload_n 0, 1), (1, .invokevirtual 96, 3), (4, .aload_n 0, 1), (5, .aload_n 0, 1), (6, .iload_n 1, 1), (7, .invokevirtual 142, 3), (10, .invokevirtual 102, 3), (13, .ireturn, 1)]
set_option maxRecDepth 20000 in
theorem dc_X8_comeIn : ∀ q ∈ I_X8_comeIn, decode cX8_comeIn q.1 = .ok q.2 := by decide +kernel
def I_X8_better : List (Nat × Instr × Nat) := [(0, .bipush (-9), 2), (2, .istore_n 2, 1), (3, .iconst 0, 1), (4, .istore_n 3, 1), (5, .iload_n 3, 1), (6, .aload_n 0, 1), (7, .getfield 7, 3), (10, .bipush 6, 2), (12, .iaload, 1), (13, .if_icmp .ge 83, 3), (16, .aload_n 0, 1), (17, .iload_n 3, 1), (18, .invokevirtual 145, 3), (21, .aload_n 0, 1), (22, .aload_n 0, 1), (23, .iload_n 1, 1), (24, .iconst 1, 1), (25, .invokevirtual 127, 3), (28, .bipush 100, 2), (30, .idiv, 1), (31, .invokevirtual 145, 3), (34, .if_icmp .le 23, 3), (37, .aload_n 0, 1), (38, .iload_n 3, 1), (39, .aload_n 0, 1), (40, .iload_n 1, 1), (41, .iconst 2, 1), (42, .invokevirtual 127, 3), (45, .invokevirtual 105, 3), (48, .bipush (-9), 2), (50, .if_icmp .eq 7, 3), (53, .iconst 1, 1), (54, .goto 4, 3), (57, .iconst 0, 1), (58, .istore 4, 2), (60, .iload 4, 2), (62, .ifCond .eq 26, 3), (65, .iload_n 2, 1), (66, .bipush (-9), 2), (68, .if_icmp .eq 16, 3), (71, .aload_n 0, 1), (72, .iload_n 3, 1), (73, .invokevirtual 145, 3), (76, .aload_n 0, 1), (77, .iload_n 2, 1), (78, .invokevirtual 145, 3), (81, .if_icmp .le 7, 3), (84, .iload_n 3, 1), (85, .goto 4, 3), (88, .iload_n 2, 1), (89, .istore_n 2, 1), (90, .iinc 3 1, 3), (93, .goto (-88), 3), (96, .iload_n 2, 1), (97, .ireturn, 1)]
set_option maxRecDepth 20000 in
theorem dc_X8_better : ∀ q ∈ I_X8_better, decode cX8_better q.1 = .ok q.2 := by decide +kernel
def I_X8_moves : List (Nat × Instr × Nat) := [(0, .aload_n 0, 1), (1, .iload_n 2, 1), (2, .aload_n 0, 1), (3, .iload_n 1, 1), (4, .iconst 2, 1), (5, .invokevirtual 127, 3), (8, .invokevirtual 105, 3), (11, .istore_n 3, 1), (12, .aload_n 0, 1), (13, .aload_n 0, 1), (14, .iload_n 1, 1), (15, .iconst 1, 1), (16, .invokevirtual 127, 3), (19, .aload_n 0, 1), (20, .iload_n 1, 1), (21, .iconst 2, 1), (22, .invokevirtual 127, 3), (25, .iconst 0, 1), (26, .invokevirtual 108, 3), (29, .aload_n 0, 1), (30, .iload_n 3, 1), (31, .aload_n 0, 1), (32, .iload_n 1, 1), (33, .iconst 2, 1), (34, .invokevirtual 127, 3), (37, .iconst 2, 1), (38, .invokevirtual 108, 3), (41, .aload_n 0, 1), (42, .getfield 7, 3), (45, .sipush 489, 3), (48, .iconst 5, 1), (49, .iload_n 1, 1), (50, .imul, 1), (51, .iadd, 1), (52, .iconst 1, 1), (53, .iadd, 1), (54, .iload_n 3, 1), (55, .iastore, 1), (56, .aload_n 0, 1), (57, .getfield 7, 3), (60, .sipush 489, 3), (63, .iconst 5, 1), (64, .iload_n 1, 1), (65, .imul, 1), (66, .iadd, 1), (67, .iconst 4, 1), (68, .iadd, 1), (69, .dup2, 1), (70, .iaload, 1), (71, .iconst 1, 1), (72, .iadd, 1), (73, .iastore, 1), (74, .aload_n 0, 1), (75, .getfield 7, 3), (78, .iconst 5, 1), (79, .dup2, 1), (80, .iaload, 1), (81, .iconst 1, 1), (82, .iadd, 1), (83, .iastore, 1), (84, .return_, 1)]
set_option maxRecDepth 20000 in
theorem dc_X8_moves : ∀ q ∈ I_X8_moves, decode cX8_moves q.1 = .ok q.2 := by decide +kernel
def I_X8_follower : List (Nat × Instr × Nat) := [(0, .iconst 0, 1), (1, .istore_n 2, 1), (2, .iload_n 2, 1), (3, .aload_n 0, 1), (4, .getfield 7, 3), (7, .bipush 9, 2), (9, .iaload, 1), (10, .if_icmp .ge 78, 3), (13, .aload_n 0, 1), (14, .iload_n 2, 1), (15, .iconst 0, 1), (16, .invokevirtual 127, 3), (19, .ifCond .ne 39, 3), (22, .aload_n 0, 1), (23, .getfield 148, 3), (26, .iload_n 2, 1), (27, .ishr, 1), (28, .iconst 1, 1), (29, .iand, 1), (30, .ifCond .ne 28, 3), (33, .aload_n 0, 1), (34, .aload_n 0, 1), (35, .iload_n 2, 1), (36, .iconst 1, 1), (37, .invokevirtual 127, 3), (40, .bipush 100, 2), (42, .idiv, 1), (43, .invokevirtual 145, 3), (46, .aload_n 0, 1), (47, .iload_n 1, 1), (48, .invokevirtual 145, 3), (51, .if_icmp .ge 7, 3), (54, .iconst 1, 1), (55, .goto 4, 3), (58, .iconst 0, 1), (59, .istore_n 3, 1), (60, .iload_n 3, 1), (61, .ifCond .eq 21, 3), (64, .aload_n 0, 1), (65, .iload_n 1, 1), (66, .aload_n 0, 1), (67, .iload_n 2, 1), (68, .iconst 2, 1), (69, .invokevirtual 127, 3), (72, .invokevirtual 105, 3), (75, .bipush (-9), 2), (77, .if_icmp .eq 5, 3), (80, .iload_n 2, 1), (81, .ireturn, 1), (82, .iinc 2 1, 3), (85, .goto (-83), 3), (88, .bipush (-9), 2), (90, .ireturn, 1)]
set_option maxRecDepth 20000 in
theorem dc_X8_follower : ∀ q ∈ I_X8_follower, decode cX8_follower q.1 = .ok q.2 := by decide +kernel
def I_X8_chains : List (Nat × Instr × Nat) := [(0, .aload_n 0, 1), (1, .iconst 0, 1), (2, .putfield 148, 3), (5, .iconst 0, 1), (6, .istore_n 2, 1), (7, .iload_n 1, 1), (8, .istore_n 3, 1), (9, .aload_n 0, 1), (10, .iload_n 3, 1), (11, .invokevirtual 151, 3), (14, .istore 4, 2), (16, .iload_n 3, 1), (17, .bipush (-9), 2), (19, .if_icmp .eq 57, 3), (22, .iload 4, 2), (24, .bipush (-9), 2), (26, .if_icmp .eq 50, 3), (29, .aload_n 0, 1), (30, .iload_n 3, 1), (31, .iconst 1, 1), (32, .invokevirtual 127, 3), (35, .bipush 100, 2), (37, .idiv, 1), (38, .istore 5, 2), (40, .aload_n 0, 1), (41, .iload_n 3, 1), (42, .iload 4, 2), (44, .invokevirtual 154, 3), (47, .aload_n 0, 1), (48, .dup, 1), (49, .getfield 148, 3), (52, .iconst 1, 1), (53, .iload_n 3, 1), (54, .ishl, 1), (55, .ior, 1), (56, .putfield 148, 3), (59, .iinc 2 1, 3), (62, .iload 5, 2), (64, .istore 4, 2), (66, .aload_n 0, 1), (67, .iload 4, 2), (69, .invokevirtual 158, 3), (72, .istore_n 3, 1), (73, .goto (-57), 3), (76, .iload_n 2, 1), (77, .ireturn, 1)]
set_option maxRecDepth 20000 in
theorem dc_X8_chains : ∀ q ∈ I_X8_chains, decode cX8_chains q.1 = .ok q.2 := by decide +kernel
def I_X8_upgrade : List (Nat × Instr × Nat) := [(0, .aload_n 0, 1), (1, .invokevirtual 96, 3), (4, .aload_n 0, 1), (5, .iload_n 1, 1), (6, .invokevirtual 133, 3), (9, .ifCond .eq 9, 3), (12, .aload_n 0, 1), (13, .iload_n 1, 1), (14, .invokevirtual 133, 3), (17, .ireturn, 1), (18, .aload_n 0, 1), (19, .iload_n 1, 1), (20, .invokevirtual 151, 3), (23, .bipush (-9), 2), (25, .if_icmp .ne 8, 3), (28, .bipush (-2), 2), (30, .goto 12, 3), (33, .aload_n 0, 1), (34, .aload_n 0, 1), (35, .iload_n 1, 1), (36, .invokevirtual 161, 3), (39, .invokevirtual 102, 3), (42, .ireturn, 1)]
set_option maxRecDepth 20000 in
theorem dc_X8_upgrade : ∀ q ∈ I_X8_upgrade, decode cX8_upgrade q.1 = .ok q.2 := by decide +kernel
def I_X8_passes : List (Nat × Instr × Nat) := [(0, .iload_n 1, 1), (1, .iconst 1, 1), (2, .sipush 999, 3), (5, .invokestatic 35, 3), (8, .ifCond .ne 5, 3), (11, .iconst (-1), 1), (12, .ireturn, 1), (13, .aload_n 0, 1), (14, .getfield 7, 3), (17, .iconst 0, 1), (18, .iaload, 1), (19, .iload_n 1, 1), (20, .iadd, 1), (21, .sipush 9999, 3), (24, .if_icmp .le 6, 3), (27, .bipush (-2), 2), (29, .ireturn, 1), (30, .aload_n 0, 1), (31, .getfield 7, 3), (34, .iconst 0, 1), (35, .dup2, 1), (36, .iaload, 1), (37, .iload_n 1, 1), (38, .iadd, 1), (39, .iastore, 1), (40, .iconst 0, 1), (41, .istore_n 2, 1), (42, .iconst 0, 1), (43, .istore_n 3, 1), (44, .iload_n 3, 1), (45, .aload_n 0, 1), (46, .getfield 7, 3), (49, .bipush 8, 2), (51, .iaload, 1), (52, .if_icmp .ge 66, 3), (55, .aload_n 0, 1), (56, .iload_n 3, 1), (57, .iconst 0, 1), (58, .invokevirtual 118, 3), (61, .ifCond .ne 51, 3), (64, .aload_n 0, 1), (65, .iload_n 3, 1), (66, .iconst 3, 1), (67, .invokevirtual 118, 3), (70, .aload_n 0, 1), (71, .getfield 7, 3), (74, .iconst 0, 1), (75, .iaload, 1), (76, .if_icmp .gt 36, 3), (79, .aload_n 0, 1), (80, .getfield 7, 3), (83, .sipush 389, 3), (86, .iconst 5, 1), (87, .iload_n 3, 1), (88, .imul, 1), (89, .iadd, 1), (90, .iconst 3, 1), (91, .iastore, 1), (92, .aload_n 0, 1), (93, .aload_n 0, 1), (94, .iload_n 3, 1), (95, .iconst 1, 1), (96, .invokevirtual 118, 3), (99, .aload_n 0, 1), (100, .iload_n 3, 1), (101, .iconst 2, 1), (102, .invokevirtual 118, 3), (105, .iconst 0, 1), (106, .invokevirtual 108, 3), (109, .iinc 2 1, 3), (112, .iinc 3 1, 3), (115, .goto (-71), 3), (118, .iload_n 2, 1), (119, .ireturn, 1)]
set_option maxRecDepth 20000 in
theorem dc_X8_passes : ∀ q ∈ I_X8_passes, decode cX8_passes q.1 = .ok q.2 := by decide +kernel
def I_X8_pass : List (Nat × Instr × Nat) := [(0, .aload_n 0, 1), (1, .invokevirtual 96, 3), (4, .aload_n 0, 1), (5, .aload_n 0, 1), (6, .iload_n 1, 1), (7, .invokevirtual 164, 3), (10, .invokevirtual 102, 3), (13, .ireturn, 1)]
set_option maxRecDepth 20000 in
theorem dc_X8_pass : ∀ q ∈ I_X8_pass, decode cX8_pass q.1 = .ok q.2 := by decide +kernel
def I_X8_closeDoors : List (Nat × Instr × Nat) := [(0, .aload_n 0, 1), (1, .invokevirtual 96, 3), (4, .aload_n 0, 1), (5, .getfield 7, 3), (8, .iconst 1, 1), (9, .iaload, 1), (10, .iconst 1, 1), (11, .if_icmp .ne 6, 3), (14, .bipush (-2), 2), (16, .ireturn, 1), (17, .aload_n 0, 1), (18, .getfield 7, 3), (21, .iconst 1, 1), (22, .iconst 1, 1), (23, .iastore, 1), (24, .iconst 0, 1), (25, .istore_n 1, 1), (26, .iconst 0, 1), (27, .istore_n 2, 1), (28, .iload_n 2, 1), (29, .aload_n 0, 1), (30, .getfield 7, 3), (33, .bipush 9, 2), (35, .iaload, 1), (36, .if_icmp .ge 44, 3), (39, .aload_n 0, 1), (40, .iload_n 2, 1), (41, .iconst 0, 1), (42, .invokevirtual 127, 3), (45, .ifCond .ne 29, 3), (48, .aload_n 0, 1), (49, .iload_n 2, 1), (50, .iconst 3, 1), (51, .iconst 0, 1), (52, .invokevirtual 136, 3), (55, .iload_n 1, 1), (56, .aload_n 0, 1), (57, .iload_n 2, 1), (58, .iconst 2, 1), (59, .invokevirtual 127, 3), (62, .iadd, 1), (63, .istore_n 1, 1), (64, .aload_n 0, 1), (65, .getfield 7, 3), (68, .iconst 4, 1), (69, .dup2, 1), (70, .iaload, 1), (71, .iconst 1, 1), (72, .iadd, 1), (73, .iastore, 1), (74, .iinc 2 1, 3), (77, .goto (-49), 3), (80, .aload_n 0, 1), (81, .iload_n 1, 1), (82, .invokevirtual 102, 3), (85, .ireturn, 1)]
set_option maxRecDepth 20000 in
theorem dc_X8_closeDoors : ∀ q ∈ I_X8_closeDoors, decode cX8_closeDoors q.1 = .ok q.2 := by decide +kernel
def I_X8_undo : List (Nat × Instr × Nat) := [(0, .aload_n 0, 1), (1, .iconst 0, 1), (2, .putfield 25, 3), (5, .aload_n 0, 1), (6, .getfield 32, 3), (9, .ifCond .ne 6, 3), (12, .bipush (-2), 2), (14, .ireturn, 1), (15, .aload_n 0, 1), (16, .dup, 1), (17, .getfield 32, 3), (20, .iconst 1, 1), (21, .isub, 1), (22, .putfield 32, 3), (25, .iconst 0, 1), (26, .istore_n 1, 1), (27, .iload_n 1, 1), (28, .sipush 589, 3), (31, .if_icmp .ge 30, 3), (34, .aload_n 0, 1), (35, .getfield 7, 3), (38, .iload_n 1, 1), (39, .aload_n 0, 1), (40, .getfield 16, 3), (43, .sipush 589, 3), (46, .aload_n 0, 1), (47, .getfield 32, 3), (50, .imul, 1), (51, .iload_n 1, 1), (52, .iadd, 1), (53, .iaload, 1), (54, .iastore, 1), (55, .iinc 1 1, 3), (58, .goto (-31), 3), (61, .aload_n 0, 1), (62, .getfield 32, 3), (65, .ireturn, 1)]
set_option maxRecDepth 20000 in
theorem dc_X8_undo : ∀ q ∈ I_X8_undo, decode cX8_undo q.1 = .ok q.2 := by decide +kernel
def I_X8_append : List (Nat × Instr × Nat) := [(0, .aload_n 0, 1), (1, .iconst 0, 1), (2, .putfield 25, 3), (5, .iload_n 1, 1), (6, .iconst 1, 1), (7, .sipush 255, 3), (10, .invokestatic 35, 3), (13, .ifCond .ne 5, 3), (16, .iconst (-1), 1), (17, .ireturn, 1), (18, .aload_n 0, 1), (19, .getfield 167, 3), (22, .bipush 120, 2), (24, .if_icmp .ne 6, 3), (27, .bipush (-3), 2), (29, .ireturn, 1), (30, .aload_n 0, 1), (31, .getfield 19, 3), (34, .aload_n 0, 1), (35, .getfield 167, 3), (38, .iload_n 1, 1), (39, .iastore, 1), (40, .aload_n 0, 1), (41, .dup, 1), (42, .getfield 167, 3), (45, .iconst 1, 1), (46, .iadd, 1), (47, .putfield 167, 3), (50, .aload_n 0, 1), (51, .getfield 167, 3), (54, .ireturn, 1)]
set_option maxRecDepth 20000 in
theorem dc_X8_append : ∀ q ∈ I_X8_append, decode cX8_append q.1 = .ok q.2 := by decide +kernel
def I_X8_clearText : List (Nat × Instr × Nat) := [(0, .aload_n 0, 1), (1, .iconst 0, 1), (2, .putfield 25, 3), (5, .aload_n 0, 1), (6, .getfield 167, 3), (9, .istore_n 1, 1), (10, .aload_n 0, 1), (11, .iconst 0, 1), (12, .putfield 167, 3), (15, .iload_n 1, 1), (16, .ireturn, 1)]
set_option maxRecDepth 20000 in
theorem dc_X8_clearText : ∀ q ∈ I_X8_clearText, decode cX8_clearText q.1 = .ok q.2 := by decide +kernel
def I_X8_byteAt : List (Nat × Instr × Nat) := [(0, .iload_n 1, 1), (1, .aload_n 0, 1), (2, .getfield 167, 3), (5, .if_icmp .ge 12, 3), (8, .aload_n 0, 1), (9, .getfield 19, 3), (12, .iload_n 1, 1), (13, .iaload, 1), (14, .goto 4, 3), (17, .iconst 0, 1), (18, .ireturn, 1)]
set_option maxRecDepth 20000 in
theorem dc_X8_byteAt : ∀ q ∈ I_X8_byteAt, decode cX8_byteAt q.1 = .ok q.2 := by decide +kernel
def I_X8_isLetter : List (Nat × Instr × Nat) := [(0, .aload_n 0, 1), (1, .iload_n 1, 1), (2, .invokevirtual 170, 3), (5, .bipush 97, 2), (7, .bipush 122, 2), (9, .invokestatic 35, 3), (12, .ireturn, 1)]
set_option maxRecDepth 20000 in
theorem dc_X8_isLetter : ∀ q ∈ I_X8_isLetter, decode cX8_isLetter q.1 = .ok q.2 := by decide +kernel
def I_X8_isFigure : List (Nat × Instr × Nat) := [(0, .aload_n 0, 1), (1, .iload_n 1, 1), (2, .invokevirtual 170, 3), (5, .bipush 48, 2), (7, .bipush 57, 2), (9, .invokestatic 35, 3), (12, .ireturn, 1)]
set_option maxRecDepth 20000 in
theorem dc_X8_isFigure : ∀ q ∈ I_X8_isFigure, decode cX8_isFigure q.1 = .ok q.2 := by decide +kernel
def I_X8_next : List (Nat × Instr × Nat) := [(0, .aload_n 0, 1), (1, .aload_n 0, 1), (2, .getfield 173, 3), (5, .putfield 176, 3), (8, .aload_n 0, 1), (9, .aload_n 0, 1), (10, .getfield 176, 3), (13, .invokevirtual 170, 3), (16, .bipush 32, 2), (18, .if_icmp .ne 16, 3), (21, .aload_n 0, 1), (22, .dup, 1), (23, .getfield 176, 3), (26, .iconst 1, 1), (27, .iadd, 1), (28, .putfield 176, 3), (31, .goto (-23), 3), (34, .aload_n 0, 1), (35, .aload_n 0, 1), (36, .getfield 176, 3), (39, .putfield 173, 3), (42, .aload_n 0, 1), (43, .aload_n 0, 1), (44, .getfield 176, 3), (47, .aload_n 0, 1), (48, .getfield 167, 3), (51, .if_icmp .ne 7, 3), (54, .iconst 0, 1), (55, .goto 34, 3), (58, .aload_n 0, 1), (59, .aload_n 0, 1), (60, .getfield 176, 3), (63, .invokevirtual 179, 3), (66, .ifCond .eq 7, 3), (69, .iconst 1, 1), (70, .goto 19, 3), (73, .aload_n 0, 1), (74, .aload_n 0, 1), (75, .getfield 176, 3), (78, .invokevirtual 182, 3), (81, .ifCond .eq 7, 3), (84, .iconst 2, 1), (85, .goto 4, 3), (88, .iconst 3, 1), (89, .putfield 185, 3), (92, .aload_n 0, 1), (93, .dup, 1), (94, .getfield 173, 3), (97, .aload_n 0, 1), (98, .getfield 185, 3), (101, .iconst 3, 1), (102, .if_icmp .ne 7, 3), (105, .iconst 1, 1), (106, .goto 4, 3), (109, .iconst 0, 1), (110, .iadd, 1), (111, .putfield 173, 3), (114, .aload_n 0, 1), (115, .getfield 185, 3), (118, .iconst 1, 1), (119, .if_icmp .ne 14, 3), (122, .aload_n 0, 1), (123, .aload_n 0, 1), (124, .getfield 173, 3), (127, .invokevirtual 179, 3), (130, .ifCond .ne 22, 3), (133, .aload_n 0, 1), (134, .getfield 185, 3), (137, .iconst 2, 1), (138, .if_icmp .ne 27, 3), (141, .aload_n 0, 1), (142, .aload_n 0, 1), (143, .getfield 173, 3), (146, .invokevirtual 182, 3), (149, .ifCond .eq 16, 3), (152, .aload_n 0, 1), (153, .dup, 1), (154, .getfield 173, 3), (157, .iconst 1, 1), (158, .iadd, 1), (159, .putfield 173, 3), (162, .goto (-48), 3), (165, .return_, 1)]
set_option maxRecDepth 20000 in
theorem dc_X8_next : ∀ q ∈ I_X8_next, decode cX8_next q.1 = .ok q.2 := by decide +kernel
def I_X8_word : List (Nat × Instr × Nat) := [(0, .lconst 0, 1), (1, .lstore_n 1, 1), (2, .aload_n 0, 1), (3, .getfield 176, 3), (6, .istore_n 3, 1), (7, .iload_n 3, 1), (8, .aload_n 0, 1), (9, .getfield 173, 3), (12, .if_icmp .ge 44, 3), (15, .aload_n 0, 1), (16, .getfield 185, 3), (19, .iconst 1, 1), (20, .if_icmp .ne 36, 3), (23, .aload_n 0, 1), (24, .getfield 173, 3), (27, .aload_n 0, 1), (28, .getfield 176, 3), (31, .isub, 1), (32, .bipush 9, 2), (34, .if_icmp .ge 22, 3), (37, .lload_n 1, 1), (38, .bipush 8, 2), (40, .lshl, 1), (41, .aload_n 0, 1), (42, .getfield 19, 3), (45, .iload_n 3, 1), (46, .iaload, 1), (47, .i2l, 1), (48, .lor, 1), (49, .lstore_n 1, 1), (50, .iinc 3 1, 3), (53, .goto (-46), 3), (56, .lload_n 1, 1), (57, .lreturn, 1)]
set_option maxRecDepth 20000 in
theorem dc_X8_word : ∀ q ∈ I_X8_word, decode cX8_word q.1 = .ok q.2 := by decide +kernel
def I_X8_orderBy : List (Nat × Instr × Nat) := [(0, .lload_n 1, 1), (1, .ldc2_w 188, 3), (4, .lcmp, 1), (5, .ifCond .ne 7, 3), (8, .iconst 1, 1), (9, .goto 40, 3), (12, .lload_n 1, 1), (13, .ldc2_w 190, 3), (16, .lcmp, 1), (17, .ifCond .ne 7, 3), (20, .iconst 2, 1), (21, .goto 28, 3), (24, .lload_n 1, 1), (25, .ldc2_w 192, 3), (28, .lcmp, 1), (29, .ifCond .ne 7, 3), (32, .iconst 3, 1), (33, .goto 16, 3), (36, .lload_n 1, 1), (37, .ldc2_w 194, 3), (40, .lcmp, 1), (41, .ifCond .ne 7, 3), (44, .iconst 4, 1), (45, .goto 4, 3), (48, .iconst 0, 1), (49, .istore_n 3, 1), (50, .iload_n 3, 1), (51, .ifCond .le 7, 3), (54, .iload_n 3, 1), (55, .goto 42, 3), (58, .lload_n 1, 1), (59, .ldc2_w 196, 3), (62, .lcmp, 1), (63, .ifCond .ne 7, 3), (66, .iconst 5, 1), (67, .goto 30, 3), (70, .lload_n 1, 1), (71, .ldc2_w 198, 3), (74, .lcmp, 1), (75, .ifCond .ne 8, 3), (78, .bipush 6, 2), (80, .goto 17, 3), (83, .lload_n 1, 1), (84, .ldc2_w 200, 3), (87, .lcmp, 1), (88, .ifCond .ne 8, 3), (91, .bipush 7, 2), (93, .goto 4, 3), (96, .iconst 0, 1), (97, .ireturn, 1)]
set_option maxRecDepth 20000 in
theorem dc_X8_orderBy : ∀ q ∈ I_X8_orderBy, decode cX8_orderBy q.1 = .ok q.2 := by decide +kernel
def I_X8_isNumber : List (Nat × Instr × Nat) := [(0, .aload_n 0, 1), (1, .getfield 185, 3), (4, .iconst 2, 1), (5, .if_icmp .ne 47, 3), (8, .aload_n 0, 1), (9, .getfield 173, 3), (12, .aload_n 0, 1), (13, .getfield 176, 3), (16, .isub, 1), (17, .iconst 5, 1), (18, .if_icmp .ge 34, 3), (21, .aload_n 0, 1), (22, .getfield 173, 3), (25, .aload_n 0, 1), (26, .getfield 176, 3), (29, .isub, 1), (30, .iconst 1, 1), (31, .if_icmp .eq 17, 3), (34, .aload_n 0, 1), (35, .getfield 19, 3), (38, .aload_n 0, 1), (39, .getfield 176, 3), (42, .iaload, 1), (43, .bipush 48, 2), (45, .if_icmp .eq 7, 3), (48, .iconst 1, 1), (49, .goto 4, 3), (52, .iconst 0, 1), (53, .ireturn, 1)]
set_option maxRecDepth 20000 in
theorem dc_X8_isNumber : ∀ q ∈ I_X8_isNumber, decode cX8_isNumber q.1 = .ok q.2 := by decide +kernel
def I_X8_value : List (Nat × Instr × Nat) := [(0, .iconst 0, 1), (1, .istore_n 1, 1), (2, .aload_n 0, 1), (3, .getfield 176, 3), (6, .istore_n 2, 1), (7, .iload_n 2, 1), (8, .aload_n 0, 1), (9, .getfield 173, 3), (12, .if_icmp .ge 24, 3), (15, .bipush 10, 2), (17, .iload_n 1, 1), (18, .imul, 1), (19, .aload_n 0, 1), (20, .getfield 19, 3), (23, .iload_n 2, 1), (24, .iaload, 1), (25, .iadd, 1), (26, .bipush 48, 2), (28, .isub, 1), (29, .istore_n 1, 1), (30, .iinc 2 1, 3), (33, .goto (-26), 3), (36, .iload_n 1, 1), (37, .ireturn, 1)]
set_option maxRecDepth 20000 in
theorem dc_X8_value : ∀ q ∈ I_X8_value, decode cX8_value q.1 = .ok q.2 := by decide +kernel
def I_X8_done : List (Nat × Instr × Nat) := [(0, .aload_n 0, 1), (1, .getfield 22, 3), (4, .iconst 0, 1), (5, .iaload, 1), (6, .istore_n 2, 1), (7, .iload_n 1, 1), (8, .tableswitch 88 1 6 #[40, 58, 64, 70, 76, 82], 40), (48, .aload_n 0, 1), (49, .iload_n 2, 1), (50, .aload_n 0, 1), (51, .getfield 22, 3), (54, .iconst 1, 1), (55, .iaload, 1), (56, .aload_n 0, 1), (57, .getfield 22, 3), (60, .iconst 2, 1), (61, .iaload, 1), (62, .invokevirtual 112, 3), (65, .ireturn, 1), (66, .aload_n 0, 1), (67, .iload_n 2, 1), (68, .invokevirtual 121, 3), (71, .ireturn, 1), (72, .aload_n 0, 1), (73, .iload_n 2, 1), (74, .invokevirtual 124, 3), (77, .ireturn, 1), (78, .aload_n 0, 1), (79, .iload_n 2, 1), (80, .invokevirtual 139, 3), (83, .ireturn, 1), (84, .aload_n 0, 1), (85, .iload_n 2, 1), (86, .invokevirtual 142, 3), (89, .ireturn, 1), (90, .aload_n 0, 1), (91, .iload_n 2, 1), (92, .invokevirtual 99, 3), (95, .ireturn, 1), (96, .aload_n 0, 1), (97, .iload_n 2, 1), (98, .invokevirtual 164, 3), (101, .ireturn, 1)]
set_option maxRecDepth 20000 in
theorem dc_X8_done : ∀ q ∈ I_X8_done, decode cX8_done q.1 = .ok q.2 := by decide +kernel
def I_X8_fails : List (Nat × Instr × Nat) := [(0, .aload_n 0, 1), (1, .getfield 176, 3), (4, .istore_n 1, 1), (5, .aload_n 0, 1), (6, .aload_n 0, 1), (7, .invokevirtual 202, 3), (10, .invokevirtual 206, 3), (13, .istore_n 2, 1), (14, .iload_n 2, 1), (15, .ifCond .ne 8, 3), (18, .aload_n 0, 1), (19, .getfield 176, 3), (22, .ireturn, 1), (23, .iconst 0, 1), (24, .istore_n 3, 1), (25, .iload_n 3, 1), (26, .iload_n 2, 1), (27, .iconst 1, 1), (28, .if_icmp .ne 7, 3), (31, .iconst 3, 1), (32, .goto 4, 3), (35, .iconst 1, 1), (36, .if_icmp .ge 35, 3), (39, .aload_n 0, 1), (40, .invokevirtual 210, 3), (43, .aload_n 0, 1), (44, .invokevirtual 213, 3), (47, .ifCond .ne 8, 3), (50, .aload_n 0, 1), (51, .getfield 176, 3), (54, .ireturn, 1), (55, .aload_n 0, 1), (56, .getfield 22, 3), (59, .iload_n 3, 1), (60, .aload_n 0, 1), (61, .invokevirtual 217, 3), (64, .iastore, 1), (65, .iinc 3 1, 3), (68, .goto (-43), 3), (71, .aload_n 0, 1), (72, .invokevirtual 210, 3), (75, .aload_n 0, 1), (76, .getfield 185, 3), (79, .iconst 3, 1), (80, .if_icmp .ne 17, 3), (83, .aload_n 0, 1), (84, .getfield 19, 3), (87, .aload_n 0, 1), (88, .getfield 176, 3), (91, .iaload, 1), (92, .bipush 59, 2), (94, .if_icmp .eq 8, 3), (97, .aload_n 0, 1), (98, .getfield 176, 3), (101, .ireturn, 1), (102, .aload_n 0, 1), (103, .iload_n 2, 1), (104, .invokevirtual 221, 3), (107, .ifCond .ge 7, 3), (110, .iload_n 1, 1), (111, .goto 5, 3), (114, .bipush (-9), 2), (116, .ireturn, 1)]
set_option maxRecDepth 20000 in
theorem dc_X8_fails : ∀ q ∈ I_X8_fails, decode cX8_fails q.1 = .ok q.2 := by decide +kernel
def I_X8_run : List (Nat × Instr × Nat) := [(0, .aload_n 0, 1), (1, .invokevirtual 96, 3), (4, .aload_n 0, 1), (5, .iconst 0, 1), (6, .putfield 173, 3), (9, .iconst 0, 1), (10, .istore_n 1, 1), (11, .bipush (-9), 2), (13, .istore_n 2, 1), (14, .aload_n 0, 1), (15, .invokevirtual 210, 3), (18, .aload_n 0, 1), (19, .getfield 185, 3), (22, .ifCond .le 30, 3), (25, .iload_n 2, 1), (26, .bipush (-9), 2), (28, .if_icmp .ne 24, 3), (31, .aload_n 0, 1), (32, .invokevirtual 224, 3), (35, .istore_n 2, 1), (36, .iinc 1 1, 3), (39, .iload_n 2, 1), (40, .bipush (-9), 2), (42, .if_icmp .ne (-24), 3), (45, .aload_n 0, 1), (46, .invokevirtual 210, 3), (49, .goto (-31), 3), (52, .iload_n 2, 1), (53, .bipush (-9), 2), (55, .if_icmp .eq 36, 3), (58, .iconst 0, 1), (59, .istore_n 3, 1), (60, .iload_n 3, 1), (61, .sipush 589, 3), (64, .if_icmp .ge 21, 3), (67, .aload_n 0, 1), (68, .getfield 7, 3), (71, .iload_n 3, 1), (72, .aload_n 0, 1), (73, .getfield 13, 3), (76, .iload_n 3, 1), (77, .iaload, 1), (78, .iastore, 1), (79, .iinc 3 1, 3), (82, .goto (-22), 3), (85, .sipush (-1000), 3), (88, .iload_n 2, 1), (89, .isub, 1), (90, .ireturn, 1), (91, .aload_n 0, 1), (92, .invokevirtual 29, 3), (95, .aload_n 0, 1), (96, .iconst 0, 1), (97, .putfield 167, 3), (100, .iload_n 1, 1), (101, .ireturn, 1)]
set_option maxRecDepth 20000 in
theorem dc_X8_run : ∀ q ∈ I_X8_run, decode cX8_run q.1 = .ok q.2 := by decide +kernel
def I_X8_many : List (Nat × Instr × Nat) := [(0, .iconst 0, 1), (1, .istore 4, 2), (3, .iconst 0, 1), (4, .istore 5, 2), (6, .iload 5, 2), (8, .iload_n 2, 1), (9, .if_icmp .ge 34, 3), (12, .iload 4, 2), (14, .aload_n 0, 1), (15, .getfield 7, 3), (18, .iload_n 1, 1), (19, .iconst 5, 1), (20, .iload 5, 2), (22, .imul, 1), (23, .iadd, 1), (24, .iaload, 1), (25, .iload_n 3, 1), (26, .if_icmp .ne 7, 3), (29, .iconst 1, 1), (30, .goto 4, 3), (33, .iconst 0, 1), (34, .iadd, 1), (35, .istore 4, 2), (37, .iinc 5 1, 3), (40, .goto (-34), 3), (43, .iload 4, 2), (45, .ireturn, 1)]
set_option maxRecDepth 20000 in
theorem dc_X8_many : ∀ q ∈ I_X8_many, decode cX8_many q.1 = .ok q.2 := by decide +kernel
def I_X8_count : List (Nat × Instr × Nat) := [(0, .aload_n 0, 1), (1, .iconst 0, 1), (2, .putfield 25, 3), (5, .iload_n 1, 1), (6, .tableswitch 236 0 14 #[74, 81, 89, 97, 143, 151, 167, 175, 191, 198, 205, 212, 219, 226, 231], 74), (80, .aload_n 0, 1), (81, .getfield 7, 3), (84, .iconst 0, 1), (85, .iaload, 1), (86, .ireturn, 1), (87, .aload_n 0, 1), (88, .getfield 7, 3), (91, .bipush 6, 2), (93, .iaload, 1), (94, .ireturn, 1), (95, .aload_n 0, 1), (96, .getfield 7, 3), (99, .bipush 7, 2), (101, .iaload, 1), (102, .ireturn, 1), (103, .aload_n 0, 1), (104, .getfield 7, 3), (107, .bipush 10, 2), (109, .iaload, 1), (110, .iconst 1, 1), (111, .iand, 1), (112, .aload_n 0, 1), (113, .getfield 7, 3), (116, .bipush 10, 2), (118, .iaload, 1), (119, .iconst 1, 1), (120, .ishr, 1), (121, .iconst 1, 1), (122, .iand, 1), (123, .iadd, 1), (124, .aload_n 0, 1), (125, .getfield 7, 3), (128, .bipush 10, 2), (130, .iaload, 1), (131, .iconst 2, 1), (132, .ishr, 1), (133, .iconst 1, 1), (134, .iand, 1), (135, .iadd, 1), (136, .aload_n 0, 1), (137, .getfield 7, 3), (140, .bipush 10, 2), (142, .iaload, 1), (143, .iconst 3, 1), (144, .ishr, 1), (145, .iconst 1, 1), (146, .iand, 1), (147, .iadd, 1), (148, .ireturn, 1), (149, .aload_n 0, 1), (150, .getfield 7, 3), (153, .bipush 8, 2), (155, .iaload, 1), (156, .ireturn, 1), (157, .aload_n 0, 1), (158, .sipush 389, 3), (161, .aload_n 0, 1), (162, .getfield 7, 3), (165, .bipush 8, 2), (167, .iaload, 1), (168, .iconst 0, 1), (169, .invokevirtual 227, 3), (172, .ireturn, 1), (173, .aload_n 0, 1), (174, .getfield 7, 3), (177, .bipush 9, 2), (179, .iaload, 1), (180, .ireturn, 1), (181, .aload_n 0, 1), (182, .sipush 489, 3), (185, .aload_n 0, 1), (186, .getfield 7, 3), (189, .bipush 9, 2), (191, .iaload, 1), (192, .iconst 0, 1), (193, .invokevirtual 227, 3), (196, .ireturn, 1), (197, .aload_n 0, 1), (198, .getfield 7, 3), (201, .iconst 1, 1), (202, .iaload, 1), (203, .ireturn, 1), (204, .aload_n 0, 1), (205, .getfield 7, 3), (208, .iconst 2, 1), (209, .iaload, 1), (210, .ireturn, 1), (211, .aload_n 0, 1), (212, .getfield 7, 3), (215, .iconst 3, 1), (216, .iaload, 1), (217, .ireturn, 1), (218, .aload_n 0, 1), (219, .getfield 7, 3), (222, .iconst 4, 1), (223, .iaload, 1), (224, .ireturn, 1), (225, .aload_n 0, 1), (226, .getfield 7, 3), (229, .iconst 5, 1), (230, .iaload, 1), (231, .ireturn, 1), (232, .aload_n 0, 1), (233, .getfield 32, 3), (236, .ireturn, 1), (237, .aload_n 0, 1), (238, .getfield 167, 3), (241, .ireturn, 1), (242, .iconst (-1), 1), (243, .ireturn, 1)]
set_option maxRecDepth 20000 in
theorem dc_X8_count : ∀ q ∈ I_X8_count, decode cX8_count q.1 = .ok q.2 := by decide +kernel
def I_X8_greatest : List (Nat × Instr × Nat) := [(0, .iconst 0, 1), (1, .istore_n 2, 1), (2, .iconst 1, 1), (3, .istore_n 3, 1), (4, .iload_n 3, 1), (5, .bipush 10, 2), (7, .if_icmp .gt 26, 3), (10, .aload_n 0, 1), (11, .iload_n 1, 1), (12, .iload_n 3, 1), (13, .invokevirtual 105, 3), (16, .bipush (-9), 2), (18, .if_icmp .eq 7, 3), (21, .iload_n 3, 1), (22, .goto 4, 3), (25, .iload_n 2, 1), (26, .istore_n 2, 1), (27, .iinc 3 1, 3), (30, .goto (-26), 3), (33, .iload_n 2, 1), (34, .ireturn, 1)]
set_option maxRecDepth 20000 in
theorem dc_X8_greatest : ∀ q ∈ I_X8_greatest, decode cX8_greatest q.1 = .ok q.2 := by decide +kernel
def I_X8_block : List (Nat × Instr × Nat) := [(0, .aload_n 0, 1), (1, .iconst 0, 1), (2, .putfield 25, 3), (5, .aload_n 0, 1), (6, .iload_n 1, 1), (7, .invokevirtual 39, 3), (10, .ifCond .eq 13, 3), (13, .iload_n 2, 1), (14, .iconst 0, 1), (15, .bipush 8, 2), (17, .invokestatic 35, 3), (20, .ifCond .ne 5, 3), (23, .iconst (-1), 1), (24, .ireturn, 1), (25, .iload_n 2, 1), (26, .bipush 6, 2), (28, .if_icmp .ge 12, 3), (31, .aload_n 0, 1), (32, .iload_n 1, 1), (33, .iload_n 2, 1), (34, .invokevirtual 71, 3), (37, .goto 37, 3), (40, .iload_n 2, 1), (41, .bipush 6, 2), (43, .if_icmp .ne 11, 3), (46, .aload_n 0, 1), (47, .iload_n 1, 1), (48, .invokevirtual 145, 3), (51, .goto 23, 3), (54, .iload_n 2, 1), (55, .bipush 7, 2), (57, .if_icmp .ne 12, 3), (60, .aload_n 0, 1), (61, .iload_n 1, 1), (62, .iconst 2, 1), (63, .invokevirtual 43, 3), (66, .goto 8, 3), (69, .aload_n 0, 1), (70, .iload_n 1, 1), (71, .invokevirtual 230, 3), (74, .ireturn, 1)]
set_option maxRecDepth 20000 in
theorem dc_X8_block : ∀ q ∈ I_X8_block, decode cX8_block q.1 = .ok q.2 := by decide +kernel
def I_X8_chair : List (Nat × Instr × Nat) := [(0, .aload_n 0, 1), (1, .iconst 0, 1), (2, .putfield 25, 3), (5, .aload_n 0, 1), (6, .iload_n 1, 1), (7, .invokevirtual 51, 3), (10, .ifCond .ne 7, 3), (13, .iconst (-1), 1), (14, .goto 23, 3), (17, .aload_n 0, 1), (18, .iload_n 1, 1), (19, .invokevirtual 54, 3), (22, .aload_n 0, 1), (23, .iload_n 1, 1), (24, .invokevirtual 57, 3), (27, .ifCond .eq 8, 3), (30, .bipush 10, 2), (32, .goto 4, 3), (35, .iconst 0, 1), (36, .iadd, 1), (37, .ireturn, 1)]
set_option maxRecDepth 20000 in
theorem dc_X8_chair : ∀ q ∈ I_X8_chair, decode cX8_chair q.1 = .ok q.2 := by decide +kernel
def I_X8_holdOf : List (Nat × Instr × Nat) := [(0, .aload_n 0, 1), (1, .iconst 0, 1), (2, .putfield 25, 3), (5, .aload_n 0, 1), (6, .iload_n 1, 1), (7, .invokevirtual 115, 3), (10, .ifCond .eq 21, 3), (13, .iload_n 2, 1), (14, .iconst 0, 1), (15, .iconst 4, 1), (16, .invokestatic 35, 3), (19, .ifCond .eq 12, 3), (22, .aload_n 0, 1), (23, .iload_n 1, 1), (24, .iload_n 2, 1), (25, .invokevirtual 118, 3), (28, .goto 4, 3), (31, .iconst (-1), 1), (32, .ireturn, 1)]
set_option maxRecDepth 20000 in
theorem dc_X8_holdOf : ∀ q ∈ I_X8_holdOf, decode cX8_holdOf q.1 = .ok q.2 := by decide +kernel
def I_X8_ticket : List (Nat × Instr × Nat) := [(0, .aload_n 0, 1), (1, .iconst 0, 1), (2, .putfield 25, 3), (5, .aload_n 0, 1), (6, .iload_n 1, 1), (7, .invokevirtual 130, 3), (10, .ifCond .eq 21, 3), (13, .iload_n 2, 1), (14, .iconst 0, 1), (15, .iconst 4, 1), (16, .invokestatic 35, 3), (19, .ifCond .eq 12, 3), (22, .aload_n 0, 1), (23, .iload_n 1, 1), (24, .iload_n 2, 1), (25, .invokevirtual 127, 3), (28, .goto 4, 3), (31, .iconst (-1), 1), (32, .ireturn, 1)]
set_option maxRecDepth 20000 in
theorem dc_X8_ticket : ∀ q ∈ I_X8_ticket, decode cX8_ticket q.1 = .ok q.2 := by decide +kernel
def I_X8_place : List (Nat × Instr × Nat) := [(0, .aload_n 0, 1), (1, .iconst 0, 1), (2, .putfield 25, 3), (5, .aload_n 0, 1), (6, .iload_n 1, 1), (7, .invokevirtual 39, 3), (10, .ifCond .eq 22, 3), (13, .iload_n 2, 1), (14, .iconst 1, 1), (15, .bipush 10, 2), (17, .invokestatic 35, 3), (20, .ifCond .eq 12, 3), (23, .aload_n 0, 1), (24, .iload_n 1, 1), (25, .iload_n 2, 1), (26, .invokevirtual 105, 3), (29, .goto 4, 3), (32, .iconst (-1), 1), (33, .ireturn, 1)]
set_option maxRecDepth 20000 in
theorem dc_X8_place : ∀ q ∈ I_X8_place, decode cX8_place q.1 = .ok q.2 := by decide +kernel
def I_X8_wouldKill : List (Nat × Instr × Nat) := [(0, .aload_n 0, 1), (1, .iconst 0, 1), (2, .putfield 25, 3), (5, .aload_n 0, 1), (6, .iload_n 1, 1), (7, .invokevirtual 80, 3), (10, .ifCond .eq 13, 3), (13, .aload_n 0, 1), (14, .iload_n 1, 1), (15, .iconst 1, 1), (16, .iconst 0, 1), (17, .invokevirtual 89, 3), (20, .goto 4, 3), (23, .iconst (-1), 1), (24, .ireturn, 1)]
set_option maxRecDepth 20000 in
theorem dc_X8_wouldKill : ∀ q ∈ I_X8_wouldKill, decode cX8_wouldKill q.1 = .ok q.2 := by decide +kernel
def I_X8_chain : List (Nat × Instr × Nat) := [(0, .aload_n 0, 1), (1, .invokevirtual 96, 3), (4, .aload_n 0, 1), (5, .iload_n 1, 1), (6, .invokevirtual 130, 3), (9, .ifCond .ne 5, 3), (12, .iconst (-1), 1), (13, .ireturn, 1), (14, .aload_n 0, 1), (15, .iload_n 1, 1), (16, .invokevirtual 133, 3), (19, .ifCond .ne 11, 3), (22, .aload_n 0, 1), (23, .iload_n 1, 1), (24, .invokevirtual 161, 3), (27, .goto 4, 3), (30, .iconst 0, 1), (31, .istore_n 2, 1), (32, .iconst 0, 1), (33, .istore_n 3, 1), (34, .iload_n 3, 1), (35, .sipush 589, 3), (38, .if_icmp .ge 21, 3), (41, .aload_n 0, 1), (42, .getfield 7, 3), (45, .iload_n 3, 1), (46, .aload_n 0, 1), (47, .getfield 13, 3), (50, .iload_n 3, 1), (51, .iaload, 1), (52, .iastore, 1), (53, .iinc 3 1, 3), (56, .goto (-22), 3), (59, .iload_n 2, 1), (60, .ireturn, 1)]
set_option maxRecDepth 20000 in
theorem dc_X8_chain : ∀ q ∈ I_X8_chain, decode cX8_chain q.1 = .ok q.2 := by decide +kernel
def I_X8_cheapest : List (Nat × Instr × Nat) := [(0, .aload_n 0, 1), (1, .iconst 0, 1), (2, .putfield 25, 3), (5, .iload_n 1, 1), (6, .iconst 1, 1), (7, .bipush 10, 2), (9, .invokestatic 35, 3), (12, .ifCond .ne 5, 3), (15, .iconst (-1), 1), (16, .ireturn, 1), (17, .bipush (-9), 2), (19, .istore_n 2, 1), (20, .iconst 0, 1), (21, .istore_n 3, 1), (22, .iload_n 3, 1), (23, .aload_n 0, 1), (24, .getfield 7, 3), (27, .bipush 6, 2), (29, .iaload, 1), (30, .if_icmp .ge 59, 3), (33, .aload_n 0, 1), (34, .iload_n 3, 1), (35, .iload_n 1, 1), (36, .invokevirtual 105, 3), (39, .bipush (-9), 2), (41, .if_icmp .eq 7, 3), (44, .iconst 1, 1), (45, .goto 4, 3), (48, .iconst 0, 1), (49, .istore 4, 2), (51, .iload 4, 2), (53, .ifCond .eq 28, 3), (56, .iload_n 2, 1), (57, .bipush (-9), 2), (59, .if_icmp .eq 18, 3), (62, .aload_n 0, 1), (63, .iload_n 3, 1), (64, .iconst 2, 1), (65, .invokevirtual 43, 3), (68, .aload_n 0, 1), (69, .iload_n 2, 1), (70, .iconst 2, 1), (71, .invokevirtual 43, 3), (74, .if_icmp .ge 7, 3), (77, .iload_n 3, 1), (78, .goto 4, 3), (81, .iload_n 2, 1), (82, .istore_n 2, 1), (83, .iinc 3 1, 3), (86, .goto (-64), 3), (89, .iload_n 2, 1), (90, .ireturn, 1)]
set_option maxRecDepth 20000 in
theorem dc_X8_cheapest : ∀ q ∈ I_X8_cheapest, decode cX8_cheapest q.1 = .ok q.2 := by decide +kernel
def I_X8_nextExpiry : List (Nat × Instr × Nat) := [(0, .aload_n 0, 1), (1, .iconst 0, 1), (2, .putfield 25, 3), (5, .bipush (-9), 2), (7, .istore_n 1, 1), (8, .iconst 0, 1), (9, .istore_n 2, 1), (10, .iload_n 2, 1), (11, .aload_n 0, 1), (12, .getfield 7, 3), (15, .bipush 8, 2), (17, .iaload, 1), (18, .if_icmp .ge 49, 3), (21, .aload_n 0, 1), (22, .iload_n 2, 1), (23, .iconst 3, 1), (24, .invokevirtual 118, 3), (27, .aload_n 0, 1), (28, .getfield 7, 3), (31, .iconst 0, 1), (32, .iaload, 1), (33, .isub, 1), (34, .istore_n 3, 1), (35, .aload_n 0, 1), (36, .iload_n 2, 1), (37, .iconst 0, 1), (38, .invokevirtual 118, 3), (41, .ifCond .ne 18, 3), (44, .iload_n 1, 1), (45, .bipush (-9), 2), (47, .if_icmp .eq 8, 3), (50, .iload_n 3, 1), (51, .iload_n 1, 1), (52, .if_icmp .ge 7, 3), (55, .iload_n 3, 1), (56, .goto 4, 3), (59, .iload_n 1, 1), (60, .istore_n 1, 1), (61, .iinc 2 1, 3), (64, .goto (-54), 3), (67, .iload_n 1, 1), (68, .ireturn, 1)]
set_option maxRecDepth 20000 in
theorem dc_X8_nextExpiry : ∀ q ∈ I_X8_nextExpiry, decode cX8_nextExpiry q.1 = .ok q.2 := by decide +kernel
def I_J6_bitCount_0f7a4 : List (Nat × Instr × Nat) := [(0, .iload_n 0, 1), (1, .iload_n 0, 1), (2, .iconst 1, 1), (3, .iushr, 1), (4, .ldc_w 265, 3), (7, .iand, 1), (8, .isub, 1), (9, .istore_n 0, 1), (10, .iload_n 0, 1), (11, .ldc_w 266, 3), (14, .iand, 1), (15, .iload_n 0, 1), (16, .iconst 2, 1), (17, .iushr, 1), (18, .ldc_w 266, 3), (21, .iand, 1), (22, .iadd, 1), (23, .istore_n 0, 1), (24, .iload_n 0, 1), (25, .iload_n 0, 1), (26, .iconst 4, 1), (27, .iushr, 1), (28, .iadd, 1), (29, .ldc_w 267, 3), (32, .iand, 1), (33, .istore_n 0, 1), (34, .iload_n 0, 1), (35, .iload_n 0, 1), (36, .bipush 8, 2), (38, .iushr, 1), (39, .iadd, 1), (40, .istore_n 0, 1), (41, .iload_n 0, 1), (42, .iload_n 0, 1), (43, .bipush 16, 2), (45, .iushr, 1), (46, .iadd, 1), (47, .istore_n 0, 1), (48, .iload_n 0, 1), (49, .bipush 63, 2), (51, .iand, 1), (52, .ireturn, 1)]
set_option maxRecDepth 20000 in
theorem dc_J6_bitCount_0f7a4 : ∀ q ∈ I_J6_bitCount_0f7a4, decode cJ6_bitCount_0f7a4 q.1 = .ok q.2 := by decide +kernel
def I_X0_init : List (Nat × Instr × Nat) := [(0, .aload_n 0, 1), (1, .invokespecial 1, 3), (4, .return_, 1)]
set_option maxRecDepth 20000 in
theorem dc_X0_init : ∀ q ∈ I_X0_init, decode cX0_init q.1 = .ok q.2 := by decide +kernel
def I_X1_init : List (Nat × Instr × Nat) := [(0, .aload_n 0, 1), (1, .invokespecial 3, 3), (4, .aload_n 0, 1), (5, .bipush 6, 2), (7, .anewarray 9, 3), (10, .putfield 11, 3), (13, .iconst 0, 1), (14, .istore_n 1, 1), (15, .iload_n 1, 1), (16, .bipush 6, 2), (18, .if_icmp .ge 22, 3), (21, .aload_n 0, 1), (22, .getfield 11, 3), (25, .iload_n 1, 1), (26, .new 9, 3), (29, .dup, 1), (30, .invokespecial 17, 3), (33, .aastore, 1), (34, .iinc 1 1, 3), (37, .goto (-22), 3), (40, .aload_n 0, 1), (41, .sipush 600, 3), (44, .newarray .int, 2), (46, .putfield 18, 3), (49, .aload_n 0, 1), (50, .sipush 600, 3), (53, .newarray .int, 2), (55, .putfield 22, 3), (58, .return_, 1)]
set_option maxRecDepth 20000 in
theorem dc_X1_init : ∀ q ∈ I_X1_init, decode cX1_init q.1 = .ok q.2 := by decide +kernel
def I_X2_init : List (Nat × Instr × Nat) := [(0, .aload_n 0, 1), (1, .invokespecial 3, 3), (4, .aload_n 0, 1), (5, .bipush 6, 2), (7, .anewarray 11, 3), (10, .putfield 13, 3), (13, .iconst 0, 1), (14, .istore_n 1, 1), (15, .iload_n 1, 1), (16, .bipush 6, 2), (18, .if_icmp .ge 22, 3), (21, .aload_n 0, 1), (22, .getfield 13, 3), (25, .iload_n 1, 1), (26, .new 11, 3), (29, .dup, 1), (30, .invokespecial 17, 3), (33, .aastore, 1), (34, .iinc 1 1, 3), (37, .goto (-22), 3), (40, .return_, 1)]
set_option maxRecDepth 20000 in
theorem dc_X2_init : ∀ q ∈ I_X2_init, decode cX2_init q.1 = .ok q.2 := by decide +kernel
def I_X3_init : List (Nat × Instr × Nat) := [(0, .aload_n 0, 1), (1, .invokespecial 1, 3), (4, .return_, 1)]
set_option maxRecDepth 20000 in
theorem dc_X3_init : ∀ q ∈ I_X3_init, decode cX3_init q.1 = .ok q.2 := by decide +kernel
def I_X4_init : List (Nat × Instr × Nat) := [(0, .aload_n 0, 1), (1, .invokespecial 3, 3), (4, .aload_n 0, 1), (5, .bipush 120, 2), (7, .newarray .char, 2), (9, .putfield 9, 3), (12, .aload_n 0, 1), (13, .iconst 3, 1), (14, .newarray .int, 2), (16, .putfield 15, 3), (19, .return_, 1)]
set_option maxRecDepth 20000 in
theorem dc_X4_init : ∀ q ∈ I_X4_init, decode cX4_init q.1 = .ok q.2 := by decide +kernel
def I_X5_init : List (Nat × Instr × Nat) := [(0, .aload_n 0, 1), (1, .invokespecial 3, 3), (4, .aload_n 0, 1), (5, .new 9, 3), (8, .dup, 1), (9, .invokespecial 11, 3), (12, .putfield 12, 3), (15, .aload_n 0, 1), (16, .bipush 20, 2), (18, .anewarray 18, 3), (21, .putfield 20, 3), (24, .aload_n 0, 1), (25, .bipush 20, 2), (27, .anewarray 24, 3), (30, .putfield 26, 3), (33, .iconst 0, 1), (34, .istore_n 1, 1), (35, .iload_n 1, 1), (36, .bipush 20, 2), (38, .if_icmp .ge 35, 3), (41, .aload_n 0, 1), (42, .getfield 20, 3), (45, .iload_n 1, 1), (46, .new 18, 3), (49, .dup, 1), (50, .invokespecial 30, 3), (53, .aastore, 1), (54, .aload_n 0, 1), (55, .getfield 26, 3), (58, .iload_n 1, 1), (59, .new 24, 3), (62, .dup, 1), (63, .invokespecial 31, 3), (66, .aastore, 1), (67, .iinc 1 1, 3), (70, .goto (-35), 3), (73, .return_, 1)]
set_option maxRecDepth 20000 in
theorem dc_X5_init : ∀ q ∈ I_X5_init, decode cX5_init q.1 = .ok q.2 := by decide +kernel
def I_X6_init : List (Nat × Instr × Nat) := [(0, .aload_n 0, 1), (1, .invokespecial 1, 3), (4, .return_, 1)]
set_option maxRecDepth 20000 in
theorem dc_X6_init : ∀ q ∈ I_X6_init, decode cX6_init q.1 = .ok q.2 := by decide +kernel
def I_X7_init : List (Nat × Instr × Nat) := [(0, .aload_n 0, 1), (1, .invokespecial 1, 3), (4, .aload_n 0, 1), (5, .new 7, 3), (8, .dup, 1), (9, .invokespecial 9, 3), (12, .putfield 10, 3), (15, .aload_n 0, 1), (16, .new 7, 3), (19, .dup, 1), (20, .invokespecial 9, 3), (23, .putfield 16, 3), (26, .aload_n 0, 1), (27, .new 19, 3), (30, .dup, 1), (31, .invokespecial 21, 3), (34, .putfield 22, 3), (37, .aload_n 0, 1), (38, .new 26, 3), (41, .dup, 1), (42, .invokespecial 28, 3), (45, .putfield 29, 3), (48, .return_, 1)]
set_option maxRecDepth 20000 in
theorem dc_X7_init : ∀ q ∈ I_X7_init, decode cX7_init q.1 = .ok q.2 := by decide +kernel
def I_X8_init : List (Nat × Instr × Nat) := [(0, .aload_n 0, 1), (1, .invokespecial 1, 3), (4, .aload_n 0, 1), (5, .sipush 589, 3), (8, .newarray .int, 2), (10, .putfield 7, 3), (13, .aload_n 0, 1), (14, .sipush 589, 3), (17, .newarray .int, 2), (19, .putfield 13, 3), (22, .aload_n 0, 1), (23, .sipush 2945, 3), (26, .newarray .int, 2), (28, .putfield 16, 3), (31, .aload_n 0, 1), (32, .bipush 120, 2), (34, .newarray .int, 2), (36, .putfield 19, 3), (39, .aload_n 0, 1), (40, .iconst 3, 1), (41, .newarray .int, 2), (43, .putfield 22, 3), (46, .return_, 1)]
set_option maxRecDepth 20000 in
theorem dc_X8_init : ∀ q ∈ I_X8_init, decode cX8_init q.1 = .ok q.2 := by decide +kernel
def I_L_law : List (Nat × Instr × Nat) := [(0, .new 7, 3), (3, .dup, 1), (4, .invokespecial 9, 3), (7, .astore_n 1, 1), (8, .new 10, 3), (11, .dup, 1), (12, .invokespecial 12, 3), (15, .astore_n 2, 1), (16, .iconst 0, 1), (17, .istore_n 3, 1), (18, .iload_n 3, 1), (19, .aload_n 0, 1), (20, .arraylength, 1), (21, .iconst 4, 1), (22, .isub, 1), (23, .if_icmp .gt 800, 3), (26, .aload_n 0, 1), (27, .iload_n 3, 1), (28, .iaload, 1), (29, .bipush 31, 2), (31, .iand, 1), (32, .tableswitch 785 0 26 #[124, 167, 180, 223, 246, 269, 312, 335, 358, 381, 404, 427, 450, 463, 476, 499, 512, 525, 548, 581, 604, 637, 670, 703, 726, 749, 772], 124), (156, .aload_n 1, 1), (157, .aload_n 0, 1), (158, .iload_n 3, 1), (159, .iconst 1, 1), (160, .iadd, 1), (161, .iaload, 1), (162, .aload_n 0, 1), (163, .iload_n 3, 1), (164, .iconst 2, 1), (165, .iadd, 1), (166, .iaload, 1), (167, .aload_n 0, 1), (168, .iload_n 3, 1), (169, .iconst 3, 1), (170, .iadd, 1), (171, .iaload, 1), (172, .invokevirtual 13, 3), (175, .aload_n 2, 1), (176, .aload_n 0, 1), (177, .iload_n 3, 1), (178, .iconst 1, 1), (179, .iadd, 1), (180, .iaload, 1), (181, .aload_n 0, 1), (182, .iload_n 3, 1), (183, .iconst 2, 1), (184, .iadd, 1), (185, .iaload, 1), (186, .aload_n 0, 1), (187, .iload_n 3, 1), (188, .iconst 3, 1), (189, .iadd, 1), (190, .iaload, 1), (191, .invokevirtual 17, 3), (194, .if_icmp .eq 623, 3), (197, .iconst 0, 1), (198, .ireturn, 1), (199, .aload_n 1, 1), (200, .invokevirtual 18, 3), (203, .aload_n 2, 1), (204, .invokevirtual 22, 3), (207, .if_icmp .eq 610, 3), (210, .iconst 0, 1), (211, .ireturn, 1), (212, .aload_n 1, 1), (213, .aload_n 0, 1), (214, .iload_n 3, 1), (215, .iconst 1, 1), (216, .iadd, 1), (217, .iaload, 1), (218, .aload_n 0, 1), (219, .iload_n 3, 1), (220, .iconst 2, 1), (221, .iadd, 1), (222, .iaload, 1), (223, .aload_n 0, 1), (224, .iload_n 3, 1), (225, .iconst 3, 1), (226, .iadd, 1), (227, .iaload, 1), (228, .invokevirtual 23, 3), (231, .aload_n 2, 1), (232, .aload_n 0, 1), (233, .iload_n 3, 1), (234, .iconst 1, 1), (235, .iadd, 1), (236, .iaload, 1), (237, .aload_n 0, 1), (238, .iload_n 3, 1), (239, .iconst 2, 1), (240, .iadd, 1), (241, .iaload, 1), (242, .aload_n 0, 1), (243, .iload_n 3, 1), (244, .iconst 3, 1), (245, .iadd, 1), (246, .iaload, 1), (247, .invokevirtual 26, 3), (250, .if_icmp .eq 567, 3), (253, .iconst 0, 1), (254, .ireturn, 1), (255, .aload_n 1, 1), (256, .aload_n 0, 1), (257, .iload_n 3, 1), (258, .iconst 1, 1), (259, .iadd, 1), (260, .iaload, 1), (261, .invokevirtual 27, 3), (264, .aload_n 2, 1), (265, .aload_n 0, 1), (266, .iload_n 3, 1), (267, .iconst 1, 1), (268, .iadd, 1), (269, .iaload, 1), (270, .invokevirtual 31, 3), (273, .if_icmp .eq 544, 3), (276, .iconst 0, 1), (277, .ireturn, 1), (278, .aload_n 1, 1), (279, .aload_n 0, 1), (280, .iload_n 3, 1), (281, .iconst 1, 1), (282, .iadd, 1), (283, .iaload, 1), (284, .invokevirtual 32, 3), (287, .aload_n 2, 1), (288, .aload_n 0, 1), (289, .iload_n 3, 1), (290, .iconst 1, 1), (291, .iadd, 1), (292, .iaload, 1), (293, .invokevirtual 35, 3), (296, .if_icmp .eq 521, 3), (299, .iconst 0, 1), (300, .ireturn, 1), (301, .aload_n 1, 1), (302, .aload_n 0, 1), (303, .iload_n 3, 1), (304, .iconst 1, 1), (305, .iadd, 1), (306, .iaload, 1), (307, .aload_n 0, 1), (308, .iload_n 3, 1), (309, .iconst 2, 1), (310, .iadd, 1), (311, .iaload, 1), (312, .aload_n 0, 1), (313, .iload_n 3, 1), (314, .iconst 3, 1), (315, .iadd, 1), (316, .iaload, 1), (317, .invokevirtual 36, 3), (320, .aload_n 2, 1), (321, .aload_n 0, 1), (322, .iload_n 3, 1), (323, .iconst 1, 1), (324, .iadd, 1), (325, .iaload, 1), (326, .aload_n 0, 1), (327, .iload_n 3, 1), (328, .iconst 2, 1), (329, .iadd, 1), (330, .iaload, 1), (331, .aload_n 0, 1), (332, .iload_n 3, 1), (333, .iconst 3, 1), (334, .iadd, 1), (335, .iaload, 1), (336, .invokevirtual 39, 3), (339, .if_icmp .eq 478, 3), (342, .iconst 0, 1), (343, .ireturn, 1), (344, .aload_n 1, 1), (345, .aload_n 0, 1), (346, .iload_n 3, 1), (347, .iconst 1, 1), (348, .iadd, 1), (349, .iaload, 1), (350, .invokevirtual 40, 3), (353, .aload_n 2, 1), (354, .aload_n 0, 1), (355, .iload_n 3, 1), (356, .iconst 1, 1), (357, .iadd, 1), (358, .iaload, 1), (359, .invokevirtual 43, 3), (362, .if_icmp .eq 455, 3), (365, .iconst 0, 1), (366, .ireturn, 1), (367, .aload_n 1, 1), (368, .aload_n 0, 1), (369, .iload_n 3, 1), (370, .iconst 1, 1), (371, .iadd, 1), (372, .iaload, 1), (373, .invokevirtual 44, 3), (376, .aload_n 2, 1), (377, .aload_n 0, 1), (378, .iload_n 3, 1), (379, .iconst 1, 1), (380, .iadd, 1), (381, .iaload, 1), (382, .invokevirtual 47, 3), (385, .if_icmp .eq 432, 3), (388, .iconst 0, 1), (389, .ireturn, 1), (390, .aload_n 1, 1), (391, .aload_n 0, 1), (392, .iload_n 3, 1), (393, .iconst 1, 1), (394, .iadd, 1), (395, .iaload, 1), (396, .invokevirtual 48, 3), (399, .aload_n 2, 1), (400, .aload_n 0, 1), (401, .iload_n 3, 1), (402, .iconst 1, 1), (403, .iadd, 1), (404, .iaload, 1), (405, .invokevirtual 51, 3), (408, .if_icmp .eq 409, 3), (411, .iconst 0, 1), (412, .ireturn, 1), (413, .aload_n 1, 1), (414, .aload_n 0, 1), (415, .iload_n 3, 1), (416, .iconst 1, 1), (417, .iadd, 1), (418, .iaload, 1), (419, .invokevirtual 52, 3), (422, .aload_n 2, 1), (423, .aload_n 0, 1), (424, .iload_n 3, 1), (425, .iconst 1, 1), (426, .iadd, 1), (427, .iaload, 1), (428, .invokevirtual 55, 3), (431, .if_icmp .eq 386, 3), (434, .iconst 0, 1), (435, .ireturn, 1), (436, .aload_n 1, 1), (437, .aload_n 0, 1), (438, .iload_n 3, 1), (439, .iconst 1, 1), (440, .iadd, 1), (441, .iaload, 1), (442, .invokevirtual 56, 3), (445, .aload_n 2, 1), (446, .aload_n 0, 1), (447, .iload_n 3, 1), (448, .iconst 1, 1), (449, .iadd, 1), (450, .iaload, 1), (451, .invokevirtual 59, 3), (454, .if_icmp .eq 363, 3), (457, .iconst 0, 1), (458, .ireturn, 1), (459, .aload_n 1, 1), (460, .aload_n 0, 1), (461, .iload_n 3, 1), (462, .iconst 1, 1), (463, .iadd, 1), (464, .iaload, 1), (465, .invokevirtual 60, 3), (468, .aload_n 2, 1), (469, .aload_n 0, 1), (470, .iload_n 3, 1), (471, .iconst 1, 1), (472, .iadd, 1), (473, .iaload, 1), (474, .invokevirtual 63, 3), (477, .if_icmp .eq 340, 3), (480, .iconst 0, 1), (481, .ireturn, 1), (482, .aload_n 1, 1), (483, .invokevirtual 64, 3), (486, .aload_n 2, 1), (487, .invokevirtual 67, 3), (490, .if_icmp .eq 327, 3), (493, .iconst 0, 1), (494, .ireturn, 1), (495, .aload_n 1, 1), (496, .invokevirtual 68, 3), (499, .aload_n 2, 1), (500, .invokevirtual 71, 3), (503, .if_icmp .eq 314, 3), (506, .iconst 0, 1), (507, .ireturn, 1), (508, .aload_n 1, 1), (509, .aload_n 0, 1), (510, .iload_n 3, 1), (511, .iconst 1, 1), (512, .iadd, 1), (513, .iaload, 1), (514, .invokevirtual 72, 3), (517, .aload_n 2, 1), (518, .aload_n 0, 1), (519, .iload_n 3, 1), (520, .iconst 1, 1), (521, .iadd, 1), (522, .iaload, 1), (523, .invokevirtual 75, 3), (526, .if_icmp .eq 291, 3), (529, .iconst 0, 1), (530, .ireturn, 1), (531, .aload_n 1, 1), (532, .invokevirtual 76, 3), (535, .aload_n 2, 1), (536, .invokevirtual 79, 3), (539, .if_icmp .eq 278, 3), (542, .iconst 0, 1), (543, .ireturn, 1), (544, .aload_n 1, 1), (545, .invokevirtual 80, 3), (548, .aload_n 2, 1), (549, .invokevirtual 83, 3), (552, .if_icmp .eq 265, 3), (555, .iconst 0, 1), (556, .ireturn, 1), (557, .aload_n 1, 1), (558, .aload_n 0, 1), (559, .iload_n 3, 1), (560, .iconst 1, 1), (561, .iadd, 1), (562, .iaload, 1), (563, .invokevirtual 84, 3), (566, .aload_n 2, 1), (567, .aload_n 0, 1), (568, .iload_n 3, 1), (569, .iconst 1, 1), (570, .iadd, 1), (571, .iaload, 1), (572, .invokevirtual 87, 3), (575, .if_icmp .eq 242, 3), (578, .iconst 0, 1), (579, .ireturn, 1), (580, .aload_n 1, 1), (581, .aload_n 0, 1), (582, .iload_n 3, 1), (583, .iconst 1, 1), (584, .iadd, 1), (585, .iaload, 1), (586, .aload_n 0, 1), (587, .iload_n 3, 1), (588, .iconst 2, 1), (589, .iadd, 1), (590, .iaload, 1), (591, .invokevirtual 88, 3), (594, .aload_n 2, 1), (595, .aload_n 0, 1), (596, .iload_n 3, 1), (597, .iconst 1, 1), (598, .iadd, 1), (599, .iaload, 1), (600, .aload_n 0, 1), (601, .iload_n 3, 1), (602, .iconst 2, 1), (603, .iadd, 1), (604, .iaload, 1), (605, .invokevirtual 92, 3), (608, .if_icmp .eq 209, 3), (611, .iconst 0, 1), (612, .ireturn, 1), (613, .aload_n 1, 1), (614, .aload_n 0, 1), (615, .iload_n 3, 1), (616, .iconst 1, 1), (617, .iadd, 1), (618, .iaload, 1), (619, .invokevirtual 93, 3), (622, .aload_n 2, 1), (623, .aload_n 0, 1), (624, .iload_n 3, 1), (625, .iconst 1, 1), (626, .iadd, 1), (627, .iaload, 1), (628, .invokevirtual 96, 3), (631, .if_icmp .eq 186, 3), (634, .iconst 0, 1), (635, .ireturn, 1), (636, .aload_n 1, 1), (637, .aload_n 0, 1), (638, .iload_n 3, 1), (639, .iconst 1, 1), (640, .iadd, 1), (641, .iaload, 1), (642, .aload_n 0, 1), (643, .iload_n 3, 1), (644, .iconst 2, 1), (645, .iadd, 1), (646, .iaload, 1), (647, .invokevirtual 97, 3), (650, .aload_n 2, 1), (651, .aload_n 0, 1), (652, .iload_n 3, 1), (653, .iconst 1, 1), (654, .iadd, 1), (655, .iaload, 1), (656, .aload_n 0, 1), (657, .iload_n 3, 1), (658, .iconst 2, 1), (659, .iadd, 1), (660, .iaload, 1), (661, .invokevirtual 100, 3), (664, .if_icmp .eq 153, 3), (667, .iconst 0, 1), (668, .ireturn, 1), (669, .aload_n 1, 1), (670, .aload_n 0, 1), (671, .iload_n 3, 1), (672, .iconst 1, 1), (673, .iadd, 1), (674, .iaload, 1), (675, .aload_n 0, 1), (676, .iload_n 3, 1), (677, .iconst 2, 1), (678, .iadd, 1), (679, .iaload, 1), (680, .invokevirtual 101, 3), (683, .aload_n 2, 1), (684, .aload_n 0, 1), (685, .iload_n 3, 1), (686, .iconst 1, 1), (687, .iadd, 1), (688, .iaload, 1), (689, .aload_n 0, 1), (690, .iload_n 3, 1), (691, .iconst 2, 1), (692, .iadd, 1), (693, .iaload, 1), (694, .invokevirtual 104, 3), (697, .if_icmp .eq 120, 3), (700, .iconst 0, 1), (701, .ireturn, 1), (702, .aload_n 1, 1), (703, .aload_n 0, 1), (704, .iload_n 3, 1), (705, .iconst 1, 1), (706, .iadd, 1), (707, .iaload, 1), (708, .aload_n 0, 1), (709, .iload_n 3, 1), (710, .iconst 2, 1), (711, .iadd, 1), (712, .iaload, 1), (713, .invokevirtual 105, 3), (716, .aload_n 2, 1), (717, .aload_n 0, 1), (718, .iload_n 3, 1), (719, .iconst 1, 1), (720, .iadd, 1), (721, .iaload, 1), (722, .aload_n 0, 1), (723, .iload_n 3, 1), (724, .iconst 2, 1), (725, .iadd, 1), (726, .iaload, 1), (727, .invokevirtual 108, 3), (730, .if_icmp .eq 87, 3), (733, .iconst 0, 1), (734, .ireturn, 1), (735, .aload_n 1, 1), (736, .aload_n 0, 1), (737, .iload_n 3, 1), (738, .iconst 1, 1), (739, .iadd, 1), (740, .iaload, 1), (741, .invokevirtual 109, 3), (744, .aload_n 2, 1), (745, .aload_n 0, 1), (746, .iload_n 3, 1), (747, .iconst 1, 1), (748, .iadd, 1), (749, .iaload, 1), (750, .invokevirtual 112, 3), (753, .if_icmp .eq 64, 3), (756, .iconst 0, 1), (757, .ireturn, 1), (758, .aload_n 1, 1), (759, .aload_n 0, 1), (760, .iload_n 3, 1), (761, .iconst 1, 1), (762, .iadd, 1), (763, .iaload, 1), (764, .invokevirtual 113, 3), (767, .aload_n 2, 1), (768, .aload_n 0, 1), (769, .iload_n 3, 1), (770, .iconst 1, 1), (771, .iadd, 1), (772, .iaload, 1), (773, .invokevirtual 116, 3), (776, .if_icmp .eq 41, 3), (779, .iconst 0, 1), (780, .ireturn, 1), (781, .aload_n 1, 1), (782, .aload_n 0, 1), (783, .iload_n 3, 1), (784, .iconst 1, 1), (785, .iadd, 1), (786, .iaload, 1), (787, .invokevirtual 117, 3), (790, .aload_n 2, 1), (791, .aload_n 0, 1), (792, .iload_n 3, 1), (793, .iconst 1, 1), (794, .iadd, 1), (795, .iaload, 1), (796, .invokevirtual 120, 3), (799, .if_icmp .eq 18, 3), (802, .iconst 0, 1), (803, .ireturn, 1), (804, .aload_n 1, 1), (805, .invokevirtual 121, 3), (808, .aload_n 2, 1), (809, .invokevirtual 124, 3), (812, .if_icmp .eq 5, 3), (815, .iconst 0, 1), (816, .ireturn, 1), (817, .iinc 3 4, 3), (820, .goto (-802), 3), (823, .iconst 1, 1), (824, .ireturn, 1)]
set_option maxRecDepth 20000 in
theorem dc_L_law_0 : ∀ q ∈ (I_L_law.drop 0).take 120, decode cL_law q.1 = .ok q.2 := by decide +kernel
set_option maxRecDepth 20000 in
theorem dc_L_law_120 : ∀ q ∈ (I_L_law.drop 120).take 120, decode cL_law q.1 = .ok q.2 := by decide +kernel
set_option maxRecDepth 20000 in
theorem dc_L_law_240 : ∀ q ∈ (I_L_law.drop 240).take 120, decode cL_law q.1 = .ok q.2 := by decide +kernel
set_option maxRecDepth 20000 in
theorem dc_L_law_360 : ∀ q ∈ (I_L_law.drop 360).take 120, decode cL_law q.1 = .ok q.2 := by decide +kernel
set_option maxRecDepth 20000 in
theorem dc_L_law_480 : ∀ q ∈ (I_L_law.drop 480).take 120, decode cL_law q.1 = .ok q.2 := by decide +kernel
set_option maxRecDepth 20000 in
theorem dc_L_law : ∀ q ∈ I_L_law, decode cL_law q.1 = .ok q.2 := by
  intro q hq
  rw [show I_L_law = (I_L_law.drop 0).take 120 ++ ((I_L_law.drop 120).take 120 ++ ((I_L_law.drop 240).take 120 ++ ((I_L_law.drop 360).take 120 ++ ((I_L_law.drop 480).take 120)))) from rfl] at hq
  simp only [List.mem_append] at hq
  rcases hq with h | h | h | h | h
  · exact dc_L_law_0 q h
  · exact dc_L_law_120 q h
  · exact dc_L_law_240 q h
  · exact dc_L_law_360 q h
  · exact dc_L_law_480 q h
def E_X0_copyFrom : ME := (yX0_copyFrom, cX0_copyFrom, 2, none, 0, 1, false, 0, 0, false, I_X0_copyFrom)
def E_X1_copyFrom : ME := (yX1_copyFrom, cX1_copyFrom, 3, none, 1, 1, false, 1, 40, false, I_X1_copyFrom)
def E_X1_makeBlock : ME := (yX1_makeBlock, cX1_makeBlock, 5, (some .int), 1, 3, false, 0, 0, false, I_X1_makeBlock)
def E_X1_makeStage : ME := (yX1_makeStage, cX1_makeStage, 1, (some .int), 1, 0, false, 0, 0, false, I_X1_makeStage)
def E_X1_makePiece : ME := (yX1_makePiece, cX1_makePiece, 5, (some .int), 1, 3, false, 3, 67, false, I_X1_makePiece)
def E_X1_raiseStage : ME := (yX1_raiseStage, cX1_raiseStage, 2, (some .int), 1, 1, false, 1, 23, false, I_X1_raiseStage)
def E_X1_lowerStage : ME := (yX1_lowerStage, cX1_lowerStage, 2, (some .int), 1, 1, false, 1, 23, false, I_X1_lowerStage)
def E_X1_newlyKilled : ME := (yX1_newlyKilled, cX1_newlyKilled, 2, (some .int), 1, 1, false, 1, 23, false, I_X1_newlyKilled)
def E_X1_stagesThatAreUp : ME := (yX1_stagesThatAreUp, cX1_stagesThatAreUp, 1, (some .int), 1, 0, false, 1, 20, false, I_X1_stagesThatAreUp)
def E_X1_blockAt : ME := (yX1_blockAt, cX1_blockAt, 2, (some (.object "SightBlocks$Block")), 1, 1, false, 0, 0, false, I_X1_blockAt)
def E_X1_rankOf : ME := (yX1_rankOf, cX1_rankOf, 5, (some .int), 1, 1, false, 1, 21, false, I_X1_rankOf)
def E_X1_priceOf : ME := (yX1_priceOf, cX1_priceOf, 3, (some .int), 1, 1, false, 1, 21, false, I_X1_priceOf)
def E_X1_chairFigure : ME := (yX1_chairFigure, cX1_chairFigure, 3, (some .int), 1, 1, false, 2, 44, false, I_X1_chairFigure)
def E_X1_blockFigure : ME := (yX1_blockFigure, cX1_blockFigure, 4, (some .int), 1, 2, false, 3, 77, false, I_X1_blockFigure)
def E_X1_chairsIn : ME := (yX1_chairsIn, cX1_chairsIn, 3, (some .int), 1, 0, false, 2, 48, false, I_X1_chairsIn)
def E_X1_mark : ME := (yX1_mark, cX1_mark, 5, none, 1, 3, false, 0, 0, false, I_X1_mark)
def E_X1_findPlace : ME := (yX1_findPlace, cX1_findPlace, 10, (some .int), 1, 2, false, 1, 26, false, I_X1_findPlace)
def E_X1_greatestGroup : ME := (yX1_greatestGroup, cX1_greatestGroup, 3, (some .int), 1, 1, false, 2, 55, false, I_X1_greatestGroup)
def E_X1_cheapestFor : ME := (yX1_cheapestFor, cX1_cheapestFor, 5, (some .int), 1, 1, false, 2, 55, false, I_X1_cheapestFor)
def E_X1_upgradeFor : ME := (yX1_upgradeFor, cX1_upgradeFor, 7, (some .int), 1, 2, false, 2, 55, false, I_X1_upgradeFor)
def E_X1_isGroup : ME := (yX1_isGroup, cX1_isGroup, 1, (some .boolean), 1, 1, true, 0, 0, false, I_X1_isGroup)
def E_X1_isStage : ME := (yX1_isStage, cX1_isStage, 2, (some .boolean), 1, 1, false, 0, 0, false, I_X1_isStage)
def E_X1_isUp : ME := (yX1_isUp, cX1_isUp, 2, (some .boolean), 1, 1, false, 0, 0, false, I_X1_isUp)
def E_X1_isChair : ME := (yX1_isChair, cX1_isChair, 4, (some .boolean), 1, 1, false, 1, 21, false, I_X1_isChair)
def E_X1_isPiece : ME := (yX1_isPiece, cX1_isPiece, 4, (some .boolean), 1, 2, false, 2, 44, false, I_X1_isPiece)
def E_X1_chairsUnder : ME := (yX1_chairsUnder, cX1_chairsUnder, 4, (some .int), 1, 1, false, 0, 0, false, I_X1_chairsUnder)
def E_X1_hasTakenChairUnder : ME := (yX1_hasTakenChairUnder, cX1_hasTakenChairUnder, 3, (some .boolean), 1, 1, false, 0, 0, false, I_X1_hasTakenChairUnder)
def E_X1_chairsThatAre : ME := (yX1_chairsThatAre, cX1_chairsThatAre, 8, (some .int), 1, 2, false, 1, 21, false, I_X1_chairsThatAre)
def E_X1_usableIn : ME := (yX1_usableIn, cX1_usableIn, 5, (some .int), 1, 1, false, 1, 26, false, I_X1_usableIn)
def E_X1_usableInRow : ME := (yX1_usableInRow, cX1_usableInRow, 7, (some .int), 1, 3, false, 0, 0, false, I_X1_usableInRow)
def E_X1_hasRoom : ME := (yX1_hasRoom, cX1_hasRoom, 4, (some .boolean), 1, 3, true, 0, 0, false, I_X1_hasRoom)
def E_X1_leftAlone : ME := (yX1_leftAlone, cX1_leftAlone, 6, (some .int), 1, 3, true, 0, 0, false, I_X1_leftAlone)
def E_X2_prepare : ME := (yX2_prepare, cX2_prepare, 2, none, 2, 1, false, 3, 84, false, I_X2_prepare)
def E_X2_keepPrepared : ME := (yX2_keepPrepared, cX2_keepPrepared, 1, none, 2, 0, false, 0, 0, false, I_X2_keepPrepared)
def E_X2_takeBack : ME := (yX2_takeBack, cX2_takeBack, 2, none, 2, 1, false, 3, 84, false, I_X2_takeBack)
def E_X2_stepBack : ME := (yX2_stepBack, cX2_stepBack, 2, (some .int), 2, 1, false, 3, 84, false, I_X2_stepBack)
def E_X3_copyFrom : ME := (yX3_copyFrom, cX3_copyFrom, 2, none, 3, 1, false, 0, 0, false, I_X3_copyFrom)
def E_X4_addCharacter : ME := (yX4_addCharacter, cX4_addCharacter, 2, (some .int), 4, 1, false, 0, 0, false, I_X4_addCharacter)
def E_X4_makeEmpty : ME := (yX4_makeEmpty, cX4_makeEmpty, 2, (some .int), 4, 0, false, 0, 0, false, I_X4_makeEmpty)
def E_X4_runOn : ME := (yX4_runOn, cX4_runOn, 4, (some .int), 4, 1, false, 8, 173, false, I_X4_runOn)
def E_X4_runOrder : ME := (yX4_runOrder, cX4_runOrder, 6, (some .int), 4, 1, false, 7, 148, false, I_X4_runOrder)
def E_X4_perform : ME := (yX4_perform, cX4_perform, 3, (some .int), 4, 2, false, 4, 92, false, I_X4_perform)
def E_X4_orderOfToken : ME := (yX4_orderOfToken, cX4_orderOfToken, 1, (some .int), 4, 0, false, 6, 128, false, I_X4_orderOfToken)
def E_X4_readToken : ME := (yX4_readToken, cX4_readToken, 2, none, 4, 0, false, 1, 20, false, I_X4_readToken)
def E_X4_tokenIs : ME := (yX4_tokenIs, cX4_tokenIs, 3, (some .boolean), 4, 1, false, 5, 106, false, I_X4_tokenIs)
def E_X4_numberOfToken : ME := (yX4_numberOfToken, cX4_numberOfToken, 4, (some .int), 4, 0, false, 1, 20, false, I_X4_numberOfToken)
def E_X4_kindOf : ME := (yX4_kindOf, cX4_kindOf, 1, (some .int), 4, 1, true, 0, 0, false, I_X4_kindOf)
def E_X5_copyFrom : ME := (yX5_copyFrom, cX5_copyFrom, 3, none, 5, 1, false, 2, 62, false, I_X5_copyFrom)
def E_X5_makeHold : ME := (yX5_makeHold, cX5_makeHold, 6, (some .int), 5, 3, false, 2, 55, false, I_X5_makeHold)
def E_X5_buyHold : ME := (yX5_buyHold, cX5_buyHold, 4, (some .int), 5, 1, false, 2, 43, false, I_X5_buyHold)
def E_X5_dropHold : ME := (yX5_dropHold, cX5_dropHold, 3, (some .int), 5, 1, false, 1, 24, false, I_X5_dropHold)
def E_X5_returnTicket : ME := (yX5_returnTicket, cX5_returnTicket, 4, (some .int), 5, 1, false, 1, 24, false, I_X5_returnTicket)
def E_X5_admit : ME := (yX5_admit, cX5_admit, 3, (some .int), 5, 1, false, 3, 70, false, I_X5_admit)
def E_X5_upgradeTicket : ME := (yX5_upgradeTicket, cX5_upgradeTicket, 3, (some .int), 5, 1, false, 5, 128, false, I_X5_upgradeTicket)
def E_X5_moveChain : ME := (yX5_moveChain, cX5_moveChain, 6, (some .int), 5, 1, false, 4, 103, false, I_X5_moveChain)
def E_X5_letPass : ME := (yX5_letPass, cX5_letPass, 5, (some .int), 5, 1, false, 1, 24, false, I_X5_letPass)
def E_X5_shutDoors : ME := (yX5_shutDoors, cX5_shutDoors, 4, (some .int), 5, 0, false, 1, 24, false, I_X5_shutDoors)
def E_X5_numberOf : ME := (yX5_numberOf, cX5_numberOf, 2, (some .int), 5, 1, false, 2, 40, false, I_X5_numberOf)
def E_X5_holdFigure : ME := (yX5_holdFigure, cX5_holdFigure, 4, (some .int), 5, 2, false, 1, 21, false, I_X5_holdFigure)
def E_X5_ticketFigure : ME := (yX5_ticketFigure, cX5_ticketFigure, 4, (some .int), 5, 2, false, 1, 21, false, I_X5_ticketFigure)
def E_X5_minutesToExpiry : ME := (yX5_minutesToExpiry, cX5_minutesToExpiry, 4, (some .int), 5, 0, false, 0, 0, false, I_X5_minutesToExpiry)
def E_X5_ticketAt : ME := (yX5_ticketAt, cX5_ticketAt, 2, (some (.object "SightBlocks$Ticket")), 5, 1, false, 0, 0, false, I_X5_ticketAt)
def E_X5_holdAt : ME := (yX5_holdAt, cX5_holdAt, 2, (some (.object "SightBlocks$Hold")), 5, 1, false, 0, 0, false, I_X5_holdAt)
def E_X5_moveTicket : ME := (yX5_moveTicket, cX5_moveTicket, 5, (some .int), 5, 2, false, 2, 55, false, I_X5_moveTicket)
def E_X5_nextMover : ME := (yX5_nextMover, cX5_nextMover, 7, (some .int), 5, 1, false, 3, 77, false, I_X5_nextMover)
def E_X5_isWait : ME := (yX5_isWait, cX5_isWait, 1, (some .boolean), 5, 1, true, 0, 0, false, I_X5_isWait)
def E_X5_openHolds : ME := (yX5_openHolds, cX5_openHolds, 3, (some .int), 5, 0, false, 0, 0, false, I_X5_openHolds)
def E_X5_ticketsThatAre : ME := (yX5_ticketsThatAre, cX5_ticketsThatAre, 4, (some .int), 5, 1, false, 0, 0, false, I_X5_ticketsThatAre)
def E_X6_copyFrom : ME := (yX6_copyFrom, cX6_copyFrom, 2, none, 6, 1, false, 0, 0, false, I_X6_copyFrom)
def E_X7_addBlock : ME := (yX7_addBlock, cX7_addBlock, 4, (some .int), 7, 3, false, 4, 105, false, I_X7_addBlock)
def E_X7_addStage : ME := (yX7_addStage, cX7_addStage, 1, (some .int), 7, 0, false, 4, 105, false, I_X7_addStage)
def E_X7_addPiece : ME := (yX7_addPiece, cX7_addPiece, 4, (some .int), 7, 3, false, 4, 105, false, I_X7_addPiece)
def E_X7_putUp : ME := (yX7_putUp, cX7_putUp, 2, (some .int), 7, 1, false, 4, 105, false, I_X7_putUp)
def E_X7_takeDown : ME := (yX7_takeDown, cX7_takeDown, 2, (some .int), 7, 1, false, 4, 105, false, I_X7_takeDown)
def E_X7_hold : ME := (yX7_hold, cX7_hold, 4, (some .int), 7, 3, false, 4, 105, false, I_X7_hold)
def E_X7_buy : ME := (yX7_buy, cX7_buy, 2, (some .int), 7, 1, false, 4, 105, false, I_X7_buy)
def E_X7_drop : ME := (yX7_drop, cX7_drop, 2, (some .int), 7, 1, false, 4, 105, false, I_X7_drop)
def E_X7_giveBack : ME := (yX7_giveBack, cX7_giveBack, 2, (some .int), 7, 1, false, 4, 105, false, I_X7_giveBack)
def E_X7_comeIn : ME := (yX7_comeIn, cX7_comeIn, 2, (some .int), 7, 1, false, 4, 105, false, I_X7_comeIn)
def E_X7_upgrade : ME := (yX7_upgrade, cX7_upgrade, 2, (some .int), 7, 1, false, 6, 150, false, I_X7_upgrade)
def E_X7_pass : ME := (yX7_pass, cX7_pass, 2, (some .int), 7, 1, false, 4, 105, false, I_X7_pass)
def E_X7_closeDoors : ME := (yX7_closeDoors, cX7_closeDoors, 1, (some .int), 7, 0, false, 4, 105, false, I_X7_closeDoors)
def E_X7_undo : ME := (yX7_undo, cX7_undo, 1, (some .int), 7, 0, false, 4, 105, false, I_X7_undo)
def E_X7_append : ME := (yX7_append, cX7_append, 2, (some .int), 7, 1, false, 1, 21, false, I_X7_append)
def E_X7_clearText : ME := (yX7_clearText, cX7_clearText, 1, (some .int), 7, 0, false, 1, 21, false, I_X7_clearText)
def E_X7_run : ME := (yX7_run, cX7_run, 2, (some .int), 7, 0, false, 9, 196, false, I_X7_run)
def E_X7_count : ME := (yX7_count, cX7_count, 2, (some .int), 7, 1, false, 3, 61, false, I_X7_count)
def E_X7_block : ME := (yX7_block, cX7_block, 3, (some .int), 7, 2, false, 4, 100, false, I_X7_block)
def E_X7_chair : ME := (yX7_chair, cX7_chair, 2, (some .int), 7, 1, false, 3, 66, false, I_X7_chair)
def E_X7_holdOf : ME := (yX7_holdOf, cX7_holdOf, 3, (some .int), 7, 2, false, 2, 44, false, I_X7_holdOf)
def E_X7_ticket : ME := (yX7_ticket, cX7_ticket, 3, (some .int), 7, 2, false, 2, 44, false, I_X7_ticket)
def E_X7_place : ME := (yX7_place, cX7_place, 3, (some .int), 7, 2, false, 2, 55, false, I_X7_place)
def E_X7_wouldKill : ME := (yX7_wouldKill, cX7_wouldKill, 2, (some .int), 7, 1, false, 2, 44, false, I_X7_wouldKill)
def E_X7_chain : ME := (yX7_chain, cX7_chain, 2, (some .int), 7, 1, false, 5, 128, false, I_X7_chain)
def E_X7_cheapest : ME := (yX7_cheapest, cX7_cheapest, 2, (some .int), 7, 1, false, 3, 79, false, I_X7_cheapest)
def E_X7_nextExpiry : ME := (yX7_nextExpiry, cX7_nextExpiry, 1, (some .int), 7, 0, false, 1, 23, false, I_X7_nextExpiry)
def E_X7_recorded : ME := (yX7_recorded, cX7_recorded, 2, (some .int), 7, 1, false, 1, 20, false, I_X7_recorded)
def E_X8_in : ME := (yX8_in, cX8_in, 3, (some .boolean), 8, 3, true, 0, 0, false, I_X8_in)
def E_X8_record : ME := (yX8_record, cX8_record, 2, none, 8, 0, false, 1, 21, false, I_X8_record)
def E_X8_keep : ME := (yX8_keep, cX8_keep, 2, none, 8, 0, false, 0, 0, false, I_X8_keep)
def E_X8_of : ME := (yX8_of, cX8_of, 3, (some .int), 8, 2, false, 0, 0, false, I_X8_of)
def E_X8_isBlock : ME := (yX8_isBlock, cX8_isBlock, 2, (some .boolean), 8, 1, false, 1, 22, false, I_X8_isBlock)
def E_X8_isStage : ME := (yX8_isStage, cX8_isStage, 2, (some .boolean), 8, 1, false, 1, 22, false, I_X8_isStage)
def E_X8_isHold : ME := (yX8_isHold, cX8_isHold, 2, (some .boolean), 8, 1, false, 1, 22, false, I_X8_isHold)
def E_X8_isTicket : ME := (yX8_isTicket, cX8_isTicket, 2, (some .boolean), 8, 1, false, 1, 22, false, I_X8_isTicket)
def E_X8_ofHold : ME := (yX8_ofHold, cX8_ofHold, 3, (some .int), 8, 2, false, 0, 0, false, I_X8_ofHold)
def E_X8_ofTicket : ME := (yX8_ofTicket, cX8_ofTicket, 3, (some .int), 8, 2, false, 0, 0, false, I_X8_ofTicket)
def E_X8_isUp : ME := (yX8_isUp, cX8_isUp, 2, (some .boolean), 8, 1, false, 0, 0, false, I_X8_isUp)
def E_X8_isChair : ME := (yX8_isChair, cX8_isChair, 2, (some .boolean), 8, 1, false, 2, 43, false, I_X8_isChair)
def E_X8_atChair : ME := (yX8_atChair, cX8_atChair, 1, (some .int), 8, 1, true, 0, 0, false, I_X8_atChair)
def E_X8_isWhat : ME := (yX8_isWhat, cX8_isWhat, 2, (some .int), 8, 1, false, 1, 20, false, I_X8_isWhat)
def E_X8_isKilled : ME := (yX8_isKilled, cX8_isKilled, 2, (some .boolean), 8, 1, false, 1, 20, false, I_X8_isKilled)
def E_X8_isFor : ME := (yX8_isFor, cX8_isFor, 3, (some .boolean), 8, 2, false, 1, 20, false, I_X8_isFor)
def E_X8_become : ME := (yX8_become, cX8_become, 6, none, 8, 3, false, 1, 20, false, I_X8_become)
def E_X8_isOpen : ME := (yX8_isOpen, cX8_isOpen, 3, (some .boolean), 8, 2, false, 3, 64, false, I_X8_isOpen)
def E_X8_areOpen : ME := (yX8_areOpen, cX8_areOpen, 6, (some .boolean), 8, 3, false, 4, 86, false, I_X8_areOpen)
def E_X8_leftAlone : ME := (yX8_leftAlone, cX8_leftAlone, 5, (some .int), 8, 3, false, 4, 86, false, I_X8_leftAlone)
def E_X8_placeIn : ME := (yX8_placeIn, cX8_placeIn, 8, (some .int), 8, 2, false, 5, 111, false, I_X8_placeIn)
def E_X8_rank : ME := (yX8_rank, cX8_rank, 4, (some .int), 8, 1, false, 1, 22, false, I_X8_rank)
def E_X8_counted : ME := (yX8_counted, cX8_counted, 8, (some .int), 8, 2, false, 2, 41, false, I_X8_counted)
def E_X8_countedAll : ME := (yX8_countedAll, cX8_countedAll, 4, (some .int), 8, 1, false, 3, 68, false, I_X8_countedAll)
def E_X8_addBlock : ME := (yX8_addBlock, cX8_addBlock, 5, (some .int), 8, 3, false, 2, 42, false, I_X8_addBlock)
def E_X8_addStage : ME := (yX8_addStage, cX8_addStage, 1, (some .int), 8, 0, false, 2, 42, false, I_X8_addStage)
def E_X8_isPiece : ME := (yX8_isPiece, cX8_isPiece, 3, (some .boolean), 8, 2, false, 3, 64, false, I_X8_isPiece)
def E_X8_killedBy : ME := (yX8_killedBy, cX8_killedBy, 9, (some .int), 8, 3, false, 2, 42, false, I_X8_killedBy)
def E_X8_addPiece : ME := (yX8_addPiece, cX8_addPiece, 6, (some .int), 8, 3, false, 4, 86, false, I_X8_addPiece)
def E_X8_puts : ME := (yX8_puts, cX8_puts, 2, (some .int), 8, 1, false, 4, 91, false, I_X8_puts)
def E_X8_acted : ME := (yX8_acted, cX8_acted, 2, (some .int), 8, 1, false, 1, 21, false, I_X8_acted)
def E_X8_aside : ME := (yX8_aside, cX8_aside, 2, none, 8, 0, false, 0, 0, false, I_X8_aside)
def E_X8_putUp : ME := (yX8_putUp, cX8_putUp, 2, (some .int), 8, 1, false, 5, 112, false, I_X8_putUp)
def E_X8_takeDown : ME := (yX8_takeDown, cX8_takeDown, 2, (some .int), 8, 1, false, 4, 91, false, I_X8_takeDown)
def E_X8_holds : ME := (yX8_holds, cX8_holds, 6, (some .int), 8, 3, false, 6, 138, false, I_X8_holds)
def E_X8_hold : ME := (yX8_hold, cX8_hold, 4, (some .int), 8, 3, false, 7, 163, false, I_X8_hold)
def E_X8_buys : ME := (yX8_buys, cX8_buys, 6, (some .int), 8, 1, false, 2, 45, false, I_X8_buys)
def E_X8_buy : ME := (yX8_buy, cX8_buy, 2, (some .int), 8, 1, false, 3, 70, false, I_X8_buy)
def E_X8_drops : ME := (yX8_drops, cX8_drops, 2, (some .int), 8, 1, false, 2, 45, false, I_X8_drops)
def E_X8_drop : ME := (yX8_drop, cX8_drop, 2, (some .int), 8, 1, false, 3, 66, false, I_X8_drop)
def E_X8_ends : ME := (yX8_ends, cX8_ends, 4, none, 8, 3, false, 2, 45, false, I_X8_ends)
def E_X8_whyNot : ME := (yX8_whyNot, cX8_whyNot, 2, (some .int), 8, 1, false, 2, 43, false, I_X8_whyNot)
def E_X8_givesBack : ME := (yX8_givesBack, cX8_givesBack, 3, (some .int), 8, 1, false, 3, 68, false, I_X8_givesBack)
def E_X8_giveBack : ME := (yX8_giveBack, cX8_giveBack, 2, (some .int), 8, 1, false, 4, 90, false, I_X8_giveBack)
def E_X8_comes : ME := (yX8_comes, cX8_comes, 2, (some .int), 8, 1, false, 4, 91, false, I_X8_comes)
def E_X8_comeIn : ME := (yX8_comeIn, cX8_comeIn, 2, (some .int), 8, 1, false, 5, 112, false, I_X8_comeIn)
def E_X8_better : ME := (yX8_better, cX8_better, 5, (some .int), 8, 1, false, 6, 138, false, I_X8_better)
def E_X8_moves : ME := (yX8_moves, cX8_moves, 4, none, 8, 2, false, 6, 138, false, I_X8_moves)
def E_X8_follower : ME := (yX8_follower, cX8_follower, 4, (some .int), 8, 1, false, 6, 138, false, I_X8_follower)
def E_X8_chains : ME := (yX8_chains, cX8_chains, 6, (some .int), 8, 1, false, 7, 162, false, I_X8_chains)
def E_X8_upgrade : ME := (yX8_upgrade, cX8_upgrade, 2, (some .int), 8, 1, false, 8, 187, false, I_X8_upgrade)
def E_X8_passes : ME := (yX8_passes, cX8_passes, 4, (some .int), 8, 1, false, 2, 45, false, I_X8_passes)
def E_X8_pass : ME := (yX8_pass, cX8_pass, 2, (some .int), 8, 1, false, 3, 68, false, I_X8_pass)
def E_X8_closeDoors : ME := (yX8_closeDoors, cX8_closeDoors, 3, (some .int), 8, 0, false, 3, 68, false, I_X8_closeDoors)
def E_X8_undo : ME := (yX8_undo, cX8_undo, 2, (some .int), 8, 0, false, 0, 0, false, I_X8_undo)
def E_X8_append : ME := (yX8_append, cX8_append, 2, (some .int), 8, 1, false, 1, 22, false, I_X8_append)
def E_X8_clearText : ME := (yX8_clearText, cX8_clearText, 2, (some .int), 8, 0, false, 0, 0, false, I_X8_clearText)
def E_X8_byteAt : ME := (yX8_byteAt, cX8_byteAt, 2, (some .int), 8, 1, false, 0, 0, false, I_X8_byteAt)
def E_X8_isLetter : ME := (yX8_isLetter, cX8_isLetter, 2, (some .boolean), 8, 1, false, 1, 22, false, I_X8_isLetter)
def E_X8_isFigure : ME := (yX8_isFigure, cX8_isFigure, 2, (some .boolean), 8, 1, false, 1, 22, false, I_X8_isFigure)
def E_X8_next : ME := (yX8_next, cX8_next, 1, none, 8, 0, false, 2, 43, false, I_X8_next)
def E_X8_word : ME := (yX8_word, cX8_word, 4, (some .long), 8, 0, false, 0, 0, true, I_X8_word)
def E_X8_orderBy : ME := (yX8_orderBy, cX8_orderBy, 4, (some .int), 8, 1, false, 0, 0, true, I_X8_orderBy)
def E_X8_isNumber : ME := (yX8_isNumber, cX8_isNumber, 1, (some .boolean), 8, 0, false, 0, 0, false, I_X8_isNumber)
def E_X8_value : ME := (yX8_value, cX8_value, 3, (some .int), 8, 0, false, 0, 0, false, I_X8_value)
def E_X8_done : ME := (yX8_done, cX8_done, 3, (some .int), 8, 1, false, 7, 163, false, I_X8_done)
def E_X8_fails : ME := (yX8_fails, cX8_fails, 4, (some .int), 8, 0, false, 8, 185, false, I_X8_fails)
def E_X8_run : ME := (yX8_run, cX8_run, 4, (some .int), 8, 0, false, 9, 208, false, I_X8_run)
def E_X8_many : ME := (yX8_many, cX8_many, 6, (some .int), 8, 3, false, 0, 0, false, I_X8_many)
def E_X8_count : ME := (yX8_count, cX8_count, 2, (some .int), 8, 1, false, 1, 25, false, I_X8_count)
def E_X8_greatest : ME := (yX8_greatest, cX8_greatest, 4, (some .int), 8, 1, false, 6, 138, false, I_X8_greatest)
def E_X8_block : ME := (yX8_block, cX8_block, 3, (some .int), 8, 2, false, 7, 161, false, I_X8_block)
def E_X8_chair : ME := (yX8_chair, cX8_chair, 2, (some .int), 8, 1, false, 3, 64, false, I_X8_chair)
def E_X8_holdOf : ME := (yX8_holdOf, cX8_holdOf, 3, (some .int), 8, 2, false, 2, 43, false, I_X8_holdOf)
def E_X8_ticket : ME := (yX8_ticket, cX8_ticket, 3, (some .int), 8, 2, false, 2, 43, false, I_X8_ticket)
def E_X8_place : ME := (yX8_place, cX8_place, 3, (some .int), 8, 2, false, 6, 138, false, I_X8_place)
def E_X8_wouldKill : ME := (yX8_wouldKill, cX8_wouldKill, 2, (some .int), 8, 1, false, 3, 70, false, I_X8_wouldKill)
def E_X8_chain : ME := (yX8_chain, cX8_chain, 4, (some .int), 8, 1, false, 8, 187, false, I_X8_chain)
def E_X8_cheapest : ME := (yX8_cheapest, cX8_cheapest, 5, (some .int), 8, 1, false, 6, 138, false, I_X8_cheapest)
def E_X8_nextExpiry : ME := (yX8_nextExpiry, cX8_nextExpiry, 4, (some .int), 8, 0, false, 1, 22, false, I_X8_nextExpiry)
def E_J6_bitCount_0f7a4 : ME := (yJ6_bitCount_0f7a4, cJ6_bitCount_0f7a4, 1, (some .int), 10, 1, true, 0, 0, false, I_J6_bitCount_0f7a4)
def E_X0_init : ME := (yX0_init, cX0_init, 1, none, 0, 0, false, 1, 20, false, I_X0_init)
def E_X1_init : ME := (yX1_init, cX1_init, 2, none, 1, 0, false, 2, 40, false, I_X1_init)
def E_X2_init : ME := (yX2_init, cX2_init, 2, none, 2, 0, false, 4, 82, false, I_X2_init)
def E_X3_init : ME := (yX3_init, cX3_init, 1, none, 3, 0, false, 1, 20, false, I_X3_init)
def E_X4_init : ME := (yX4_init, cX4_init, 1, none, 4, 0, false, 1, 20, false, I_X4_init)
def E_X5_init : ME := (yX5_init, cX5_init, 2, none, 5, 0, false, 3, 61, false, I_X5_init)
def E_X6_init : ME := (yX6_init, cX6_init, 1, none, 6, 0, false, 1, 20, false, I_X6_init)
def E_X7_init : ME := (yX7_init, cX7_init, 1, none, 7, 0, false, 5, 103, false, I_X7_init)
def E_X8_init : ME := (yX8_init, cX8_init, 1, none, 8, 0, false, 1, 20, false, I_X8_init)
def E_L_law : ME := (x, code, maxLocals, ret, 9, 1, true, 10, 231, false, I_L_law)
def MT : List ME := [E_X0_copyFrom, E_X1_copyFrom, E_X1_makeBlock, E_X1_makeStage, E_X1_makePiece, E_X1_raiseStage, E_X1_lowerStage, E_X1_newlyKilled, E_X1_stagesThatAreUp, E_X1_blockAt, E_X1_rankOf, E_X1_priceOf, E_X1_chairFigure, E_X1_blockFigure, E_X1_chairsIn, E_X1_mark, E_X1_findPlace, E_X1_greatestGroup, E_X1_cheapestFor, E_X1_upgradeFor, E_X1_isGroup, E_X1_isStage, E_X1_isUp, E_X1_isChair, E_X1_isPiece, E_X1_chairsUnder, E_X1_hasTakenChairUnder, E_X1_chairsThatAre, E_X1_usableIn, E_X1_usableInRow, E_X1_hasRoom, E_X1_leftAlone, E_X2_prepare, E_X2_keepPrepared, E_X2_takeBack, E_X2_stepBack, E_X3_copyFrom, E_X4_addCharacter, E_X4_makeEmpty, E_X4_runOn, E_X4_runOrder, E_X4_perform, E_X4_orderOfToken, E_X4_readToken, E_X4_tokenIs, E_X4_numberOfToken, E_X4_kindOf, E_X5_copyFrom, E_X5_makeHold, E_X5_buyHold, E_X5_dropHold, E_X5_returnTicket, E_X5_admit, E_X5_upgradeTicket, E_X5_moveChain, E_X5_letPass, E_X5_shutDoors, E_X5_numberOf, E_X5_holdFigure, E_X5_ticketFigure, E_X5_minutesToExpiry, E_X5_ticketAt, E_X5_holdAt, E_X5_moveTicket, E_X5_nextMover, E_X5_isWait, E_X5_openHolds, E_X5_ticketsThatAre, E_X6_copyFrom, E_X7_addBlock, E_X7_addStage, E_X7_addPiece, E_X7_putUp, E_X7_takeDown, E_X7_hold, E_X7_buy, E_X7_drop, E_X7_giveBack, E_X7_comeIn, E_X7_upgrade, E_X7_pass, E_X7_closeDoors, E_X7_undo, E_X7_append, E_X7_clearText, E_X7_run, E_X7_count, E_X7_block, E_X7_chair, E_X7_holdOf, E_X7_ticket, E_X7_place, E_X7_wouldKill, E_X7_chain, E_X7_cheapest, E_X7_nextExpiry, E_X7_recorded, E_X8_in, E_X8_record, E_X8_keep, E_X8_of, E_X8_isBlock, E_X8_isStage, E_X8_isHold, E_X8_isTicket, E_X8_ofHold, E_X8_ofTicket, E_X8_isUp, E_X8_isChair, E_X8_atChair, E_X8_isWhat, E_X8_isKilled, E_X8_isFor, E_X8_become, E_X8_isOpen, E_X8_areOpen, E_X8_leftAlone, E_X8_placeIn, E_X8_rank, E_X8_counted, E_X8_countedAll, E_X8_addBlock, E_X8_addStage, E_X8_isPiece, E_X8_killedBy, E_X8_addPiece, E_X8_puts, E_X8_acted, E_X8_aside, E_X8_putUp, E_X8_takeDown, E_X8_holds, E_X8_hold, E_X8_buys, E_X8_buy, E_X8_drops, E_X8_drop, E_X8_ends, E_X8_whyNot, E_X8_givesBack, E_X8_giveBack, E_X8_comes, E_X8_comeIn, E_X8_better, E_X8_moves, E_X8_follower, E_X8_chains, E_X8_upgrade, E_X8_passes, E_X8_pass, E_X8_closeDoors, E_X8_undo, E_X8_append, E_X8_clearText, E_X8_byteAt, E_X8_isLetter, E_X8_isFigure, E_X8_next, E_X8_word, E_X8_orderBy, E_X8_isNumber, E_X8_value, E_X8_done, E_X8_fails, E_X8_run, E_X8_many, E_X8_count, E_X8_greatest, E_X8_block, E_X8_chair, E_X8_holdOf, E_X8_ticket, E_X8_place, E_X8_wouldKill, E_X8_chain, E_X8_cheapest, E_X8_nextExpiry, E_J6_bitCount_0f7a4, E_X0_init, E_X1_init, E_X2_init, E_X3_init, E_X4_init, E_X5_init, E_X6_init, E_X7_init, E_X8_init, E_L_law]
abbrev z_X0_copyFrom : Nat := 0
abbrev z_X1_copyFrom : Nat := 1
abbrev z_X1_makeBlock : Nat := 2
abbrev z_X1_makeStage : Nat := 3
abbrev z_X1_makePiece : Nat := 4
abbrev z_X1_raiseStage : Nat := 5
abbrev z_X1_lowerStage : Nat := 6
abbrev z_X1_newlyKilled : Nat := 7
abbrev z_X1_stagesThatAreUp : Nat := 8
abbrev z_X1_blockAt : Nat := 9
abbrev z_X1_rankOf : Nat := 10
abbrev z_X1_priceOf : Nat := 11
abbrev z_X1_chairFigure : Nat := 12
abbrev z_X1_blockFigure : Nat := 13
abbrev z_X1_chairsIn : Nat := 14
abbrev z_X1_mark : Nat := 15
abbrev z_X1_findPlace : Nat := 16
abbrev z_X1_greatestGroup : Nat := 17
abbrev z_X1_cheapestFor : Nat := 18
abbrev z_X1_upgradeFor : Nat := 19
abbrev z_X1_isGroup : Nat := 20
abbrev z_X1_isStage : Nat := 21
abbrev z_X1_isUp : Nat := 22
abbrev z_X1_isChair : Nat := 23
abbrev z_X1_isPiece : Nat := 24
abbrev z_X1_chairsUnder : Nat := 25
abbrev z_X1_hasTakenChairUnder : Nat := 26
abbrev z_X1_chairsThatAre : Nat := 27
abbrev z_X1_usableIn : Nat := 28
abbrev z_X1_usableInRow : Nat := 29
abbrev z_X1_hasRoom : Nat := 30
abbrev z_X1_leftAlone : Nat := 31
abbrev z_X2_prepare : Nat := 32
abbrev z_X2_keepPrepared : Nat := 33
abbrev z_X2_takeBack : Nat := 34
abbrev z_X2_stepBack : Nat := 35
abbrev z_X3_copyFrom : Nat := 36
abbrev z_X4_addCharacter : Nat := 37
abbrev z_X4_makeEmpty : Nat := 38
abbrev z_X4_runOn : Nat := 39
abbrev z_X4_runOrder : Nat := 40
abbrev z_X4_perform : Nat := 41
abbrev z_X4_orderOfToken : Nat := 42
abbrev z_X4_readToken : Nat := 43
abbrev z_X4_tokenIs : Nat := 44
abbrev z_X4_numberOfToken : Nat := 45
abbrev z_X4_kindOf : Nat := 46
abbrev z_X5_copyFrom : Nat := 47
abbrev z_X5_makeHold : Nat := 48
abbrev z_X5_buyHold : Nat := 49
abbrev z_X5_dropHold : Nat := 50
abbrev z_X5_returnTicket : Nat := 51
abbrev z_X5_admit : Nat := 52
abbrev z_X5_upgradeTicket : Nat := 53
abbrev z_X5_moveChain : Nat := 54
abbrev z_X5_letPass : Nat := 55
abbrev z_X5_shutDoors : Nat := 56
abbrev z_X5_numberOf : Nat := 57
abbrev z_X5_holdFigure : Nat := 58
abbrev z_X5_ticketFigure : Nat := 59
abbrev z_X5_minutesToExpiry : Nat := 60
abbrev z_X5_ticketAt : Nat := 61
abbrev z_X5_holdAt : Nat := 62
abbrev z_X5_moveTicket : Nat := 63
abbrev z_X5_nextMover : Nat := 64
abbrev z_X5_isWait : Nat := 65
abbrev z_X5_openHolds : Nat := 66
abbrev z_X5_ticketsThatAre : Nat := 67
abbrev z_X6_copyFrom : Nat := 68
abbrev z_X7_addBlock : Nat := 69
abbrev z_X7_addStage : Nat := 70
abbrev z_X7_addPiece : Nat := 71
abbrev z_X7_putUp : Nat := 72
abbrev z_X7_takeDown : Nat := 73
abbrev z_X7_hold : Nat := 74
abbrev z_X7_buy : Nat := 75
abbrev z_X7_drop : Nat := 76
abbrev z_X7_giveBack : Nat := 77
abbrev z_X7_comeIn : Nat := 78
abbrev z_X7_upgrade : Nat := 79
abbrev z_X7_pass : Nat := 80
abbrev z_X7_closeDoors : Nat := 81
abbrev z_X7_undo : Nat := 82
abbrev z_X7_append : Nat := 83
abbrev z_X7_clearText : Nat := 84
abbrev z_X7_run : Nat := 85
abbrev z_X7_count : Nat := 86
abbrev z_X7_block : Nat := 87
abbrev z_X7_chair : Nat := 88
abbrev z_X7_holdOf : Nat := 89
abbrev z_X7_ticket : Nat := 90
abbrev z_X7_place : Nat := 91
abbrev z_X7_wouldKill : Nat := 92
abbrev z_X7_chain : Nat := 93
abbrev z_X7_cheapest : Nat := 94
abbrev z_X7_nextExpiry : Nat := 95
abbrev z_X7_recorded : Nat := 96
abbrev z_X8_in : Nat := 97
abbrev z_X8_record : Nat := 98
abbrev z_X8_keep : Nat := 99
abbrev z_X8_of : Nat := 100
abbrev z_X8_isBlock : Nat := 101
abbrev z_X8_isStage : Nat := 102
abbrev z_X8_isHold : Nat := 103
abbrev z_X8_isTicket : Nat := 104
abbrev z_X8_ofHold : Nat := 105
abbrev z_X8_ofTicket : Nat := 106
abbrev z_X8_isUp : Nat := 107
abbrev z_X8_isChair : Nat := 108
abbrev z_X8_atChair : Nat := 109
abbrev z_X8_isWhat : Nat := 110
abbrev z_X8_isKilled : Nat := 111
abbrev z_X8_isFor : Nat := 112
abbrev z_X8_become : Nat := 113
abbrev z_X8_isOpen : Nat := 114
abbrev z_X8_areOpen : Nat := 115
abbrev z_X8_leftAlone : Nat := 116
abbrev z_X8_placeIn : Nat := 117
abbrev z_X8_rank : Nat := 118
abbrev z_X8_counted : Nat := 119
abbrev z_X8_countedAll : Nat := 120
abbrev z_X8_addBlock : Nat := 121
abbrev z_X8_addStage : Nat := 122
abbrev z_X8_isPiece : Nat := 123
abbrev z_X8_killedBy : Nat := 124
abbrev z_X8_addPiece : Nat := 125
abbrev z_X8_puts : Nat := 126
abbrev z_X8_acted : Nat := 127
abbrev z_X8_aside : Nat := 128
abbrev z_X8_putUp : Nat := 129
abbrev z_X8_takeDown : Nat := 130
abbrev z_X8_holds : Nat := 131
abbrev z_X8_hold : Nat := 132
abbrev z_X8_buys : Nat := 133
abbrev z_X8_buy : Nat := 134
abbrev z_X8_drops : Nat := 135
abbrev z_X8_drop : Nat := 136
abbrev z_X8_ends : Nat := 137
abbrev z_X8_whyNot : Nat := 138
abbrev z_X8_givesBack : Nat := 139
abbrev z_X8_giveBack : Nat := 140
abbrev z_X8_comes : Nat := 141
abbrev z_X8_comeIn : Nat := 142
abbrev z_X8_better : Nat := 143
abbrev z_X8_moves : Nat := 144
abbrev z_X8_follower : Nat := 145
abbrev z_X8_chains : Nat := 146
abbrev z_X8_upgrade : Nat := 147
abbrev z_X8_passes : Nat := 148
abbrev z_X8_pass : Nat := 149
abbrev z_X8_closeDoors : Nat := 150
abbrev z_X8_undo : Nat := 151
abbrev z_X8_append : Nat := 152
abbrev z_X8_clearText : Nat := 153
abbrev z_X8_byteAt : Nat := 154
abbrev z_X8_isLetter : Nat := 155
abbrev z_X8_isFigure : Nat := 156
abbrev z_X8_next : Nat := 157
abbrev z_X8_word : Nat := 158
abbrev z_X8_orderBy : Nat := 159
abbrev z_X8_isNumber : Nat := 160
abbrev z_X8_value : Nat := 161
abbrev z_X8_done : Nat := 162
abbrev z_X8_fails : Nat := 163
abbrev z_X8_run : Nat := 164
abbrev z_X8_many : Nat := 165
abbrev z_X8_count : Nat := 166
abbrev z_X8_greatest : Nat := 167
abbrev z_X8_block : Nat := 168
abbrev z_X8_chair : Nat := 169
abbrev z_X8_holdOf : Nat := 170
abbrev z_X8_ticket : Nat := 171
abbrev z_X8_place : Nat := 172
abbrev z_X8_wouldKill : Nat := 173
abbrev z_X8_chain : Nat := 174
abbrev z_X8_cheapest : Nat := 175
abbrev z_X8_nextExpiry : Nat := 176
abbrev z_J6_bitCount_0f7a4 : Nat := 177
abbrev z_X0_init : Nat := 178
abbrev z_X1_init : Nat := 179
abbrev z_X2_init : Nat := 180
abbrev z_X3_init : Nat := 181
abbrev z_X4_init : Nat := 182
abbrev z_X5_init : Nat := 183
abbrev z_X6_init : Nat := 184
abbrev z_X7_init : Nat := 185
abbrev z_X8_init : Nat := 186
abbrev z_L_law : Nat := 187
/-- fields by class and index: class, slot, the place of its word -/
def FTab : List ((Nat × Nat) × Nat × Nat × Nat) := [((0, 7), 0, 0, 43), ((0, 13), 0, 1, 45), ((0, 16), 0, 2, 47), ((1, 11), 1, 0, 56), ((1, 18), 1, 1, 57), ((1, 22), 1, 2, 58), ((1, 35), 1, 3, 59), ((1, 39), 1, 4, 61), ((1, 42), 1, 5, 63), ((1, 45), 0, 0, 44), ((1, 48), 0, 1, 46), ((1, 51), 0, 2, 48), ((2, 13), 2, 0, 176), ((2, 18), 2, 1, 177), ((2, 22), 2, 2, 178), ((3, 7), 3, 0, 87), ((3, 13), 3, 1, 89), ((3, 16), 3, 2, 91), ((3, 19), 3, 3, 93), ((3, 22), 3, 4, 95), ((4, 9), 4, 0, 193), ((4, 15), 4, 1, 194), ((4, 19), 4, 2, 195), ((4, 23), 4, 4, 198), ((4, 29), 4, 3, 197), ((4, 72), 5, 0, 136), ((5, 12), 5, 0, 134), ((5, 20), 5, 1, 137), ((5, 26), 5, 2, 138), ((5, 42), 5, 3, 139), ((5, 46), 5, 4, 140), ((5, 49), 5, 5, 141), ((5, 52), 5, 6, 142), ((5, 56), 5, 7, 143), ((5, 59), 5, 8, 144), ((5, 62), 5, 9, 145), ((5, 80), 3, 0, 88), ((5, 83), 3, 1, 90), ((5, 86), 3, 2, 92), ((5, 89), 3, 3, 94), ((5, 92), 3, 4, 96), ((5, 103), 6, 0, 114), ((5, 104), 6, 1, 116), ((5, 105), 6, 2, 118), ((5, 110), 6, 3, 120), ((5, 111), 6, 4, 122), ((5, 132), 1, 3, 60), ((5, 135), 1, 4, 62), ((6, 7), 6, 0, 113), ((6, 13), 6, 1, 115), ((6, 16), 6, 2, 117), ((6, 19), 6, 3, 119), ((6, 22), 6, 4, 121), ((7, 10), 7, 0, 211), ((7, 16), 7, 1, 212), ((7, 22), 7, 2, 213), ((7, 29), 7, 3, 214), ((7, 37), 5, 0, 135), ((7, 104), 2, 2, 179), ((7, 108), 4, 2, 196), ((8, 7), 8, 1, 699), ((8, 13), 8, 2, 700), ((8, 16), 8, 3, 701), ((8, 19), 8, 5, 703), ((8, 22), 8, 11, 709), ((8, 25), 8, 0, 698), ((8, 32), 8, 4, 702), ((8, 148), 8, 7, 705), ((8, 167), 8, 6, 704), ((8, 173), 8, 9, 707), ((8, 176), 8, 8, 706), ((8, 185), 8, 10, 708)]
/-- calls by class and index: the method, the place of its link -/
def CTab : List ((Nat × Nat) × Nat × Nat) := [((1, 25), 0, 240), ((1, 29), 1000, 244), ((1, 54), 21, 283), ((1, 58), 24, 287), ((1, 62), 22, 299), ((1, 65), 25, 303), ((1, 69), 26, 315), ((1, 72), 177, 602), ((1, 77), 9, 295), ((1, 81), 23, 291), ((1, 84), 27, 409), ((1, 88), 28, 624), ((1, 91), 10, 429), ((1, 94), 17, 628), ((1, 97), 20, 346), ((1, 100), 29, 347), ((1, 104), 30, 351), ((1, 108), 31, 354), ((1, 112), 16, 433), ((1, 115), 11, 683), ((2, 25), 47, 232), ((4, 26), 43, 495), ((4, 32), 40, 502), ((4, 36), 42, 506), ((4, 40), 45, 569), ((4, 45), 44, 511), ((4, 49), 41, 574), ((4, 53), 48, 578), ((4, 59), 49, 579), ((4, 63), 50, 580), ((4, 66), 51, 581), ((4, 69), 52, 582), ((4, 76), 5, 583), ((4, 81), 55, 584), ((4, 98), 46, 499), ((4, 102), 1001, 515), ((4, 106), 1002, 525), ((5, 32), 1, 236), ((5, 36), 36, 247), ((5, 39), 68, 251), ((5, 65), 9, 335), ((5, 69), 20, 336), ((5, 73), 65, 339), ((5, 76), 16, 342), ((5, 95), 15, 357), ((5, 99), 62, 369), ((5, 106), 11, 373), ((5, 112), 61, 393), ((5, 116), 14, 405), ((5, 120), 54, 421), ((5, 123), 19, 425), ((5, 126), 63, 434), ((5, 129), 64, 438), ((5, 138), 8, 598), ((5, 141), 66, 608), ((5, 144), 67, 612), ((5, 147), 10, 442), ((5, 150), 17, 443), ((7, 33), 32, 228), ((7, 41), 2, 255), ((7, 47), 96, 259), ((7, 51), 3, 271), ((7, 55), 4, 279), ((7, 58), 5, 311), ((7, 61), 6, 323), ((7, 64), 48, 331), ((7, 67), 49, 365), ((7, 70), 50, 381), ((7, 73), 51, 389), ((7, 76), 52, 401), ((7, 79), 53, 417), ((7, 82), 55, 451), ((7, 85), 56, 459), ((7, 88), 35, 467), ((7, 92), 37, 475), ((7, 95), 38, 483), ((7, 98), 39, 491), ((7, 101), 34, 585), ((7, 111), 57, 594), ((7, 114), 13, 620), ((7, 118), 12, 633), ((7, 121), 58, 641), ((7, 124), 59, 649), ((7, 127), 9, 657), ((7, 131), 20, 658), ((7, 135), 16, 659), ((7, 138), 7, 664), ((7, 141), 61, 672), ((7, 145), 47, 673), ((7, 148), 54, 674), ((7, 151), 18, 679), ((7, 154), 60, 688), ((7, 157), 33, 263), ((8, 29), 99, 746), ((8, 35), 97, 739), ((8, 39), 101, 770), ((8, 43), 100, 774), ((8, 47), 109, 782), ((8, 51), 108, 766), ((8, 54), 110, 797), ((8, 57), 111, 793), ((8, 60), 114, 845), ((8, 64), 115, 841), ((8, 67), 116, 849), ((8, 71), 119, 817), ((8, 74), 98, 742), ((8, 77), 112, 789), ((8, 80), 102, 758), ((8, 83), 123, 762), ((8, 86), 107, 778), ((8, 89), 124, 785), ((8, 93), 120, 813), ((8, 96), 128, 805), ((8, 99), 126, 809), ((8, 102), 127, 821), ((8, 105), 117, 837), ((8, 108), 113, 853), ((8, 112), 131, 833), ((8, 115), 103, 865), ((8, 118), 105, 869), ((8, 121), 133, 861), ((8, 124), 135, 877), ((8, 127), 106, 897), ((8, 130), 104, 893), ((8, 133), 138, 889), ((8, 136), 137, 901), ((8, 139), 139, 885), ((8, 142), 141, 909), ((8, 145), 118, 921), ((8, 151), 143, 917), ((8, 154), 144, 929), ((8, 158), 145, 933), ((8, 161), 146, 925), ((8, 164), 148, 941), ((8, 170), 154, 969), ((8, 179), 155, 973), ((8, 182), 156, 977), ((8, 202), 158, 985), ((8, 206), 159, 989), ((8, 210), 157, 965), ((8, 213), 160, 1000), ((8, 217), 161, 1004), ((8, 221), 162, 1008), ((8, 224), 163, 981), ((8, 227), 165, 1016), ((8, 230), 167, 1024), ((9, 13), 69, 224), ((9, 17), 121, 735), ((9, 18), 70, 267), ((9, 22), 122, 750), ((9, 23), 71, 275), ((9, 26), 125, 754), ((9, 27), 72, 307), ((9, 31), 129, 801), ((9, 32), 73, 319), ((9, 35), 130, 825), ((9, 36), 74, 327), ((9, 39), 132, 829), ((9, 40), 75, 361), ((9, 43), 134, 857), ((9, 44), 76, 377), ((9, 47), 136, 873), ((9, 48), 77, 385), ((9, 51), 140, 881), ((9, 52), 78, 397), ((9, 55), 142, 905), ((9, 56), 79, 413), ((9, 59), 147, 913), ((9, 60), 80, 447), ((9, 63), 149, 937), ((9, 64), 81, 455), ((9, 67), 150, 945), ((9, 68), 82, 463), ((9, 71), 151, 949), ((9, 72), 83, 471), ((9, 75), 152, 953), ((9, 76), 84, 479), ((9, 79), 153, 957), ((9, 80), 85, 487), ((9, 83), 164, 961), ((9, 84), 86, 590), ((9, 87), 166, 1012), ((9, 88), 87, 616), ((9, 92), 168, 1020), ((9, 93), 88, 629), ((9, 96), 169, 1028), ((9, 97), 89, 637), ((9, 100), 170, 1032), ((9, 101), 90, 645), ((9, 104), 171, 1036), ((9, 105), 91, 653), ((9, 108), 172, 1040), ((9, 109), 92, 660), ((9, 112), 173, 1044), ((9, 113), 93, 668), ((9, 116), 174, 1048), ((9, 117), 94, 675), ((9, 120), 175, 1052), ((9, 121), 95, 684), ((9, 124), 176, 1056)]
/-- places in lw_tbl: static or instanceMethod; selects; initialized; code -/
def WTab : List (Nat × Nat × Nat × Nat) := [(313, 314, 76, 315), (309, 310, 75, 311), (328, 329, 75, 330), (344, 345, 75, 346), (352, 353, 75, 354), (384, 385, 75, 386), (396, 397, 75, 398), (737, 738, 75, 739), (671, 672, 75, 673), (368, 369, 75, 370), (502, 503, 75, 504), (446, 447, 75, 448), (706, 707, 75, 708), (693, 694, 75, 695), (478, 479, 75, 480), (430, 431, 75, 432), (415, 416, 75, 417), (516, 517, 75, 518), (752, 753, 75, 754), (498, 499, 75, 500), (409, 0, 75, 410), (357, 1, 75, 358), (373, 4, 75, 374), (365, 3, 75, 366), (361, 2, 75, 362), (377, 5, 75, 378), (389, 6, 75, 390), (483, 9, 75, 484), (698, 20, 75, 699), (421, 7, 75, 422), (424, 0, 75, 425), (427, 0, 75, 428), (301, 302, 79, 303), (336, 337, 79, 338), (658, 659, 79, 660), (540, 541, 79, 542), (320, 321, 77, 322), (548, 549, 80, 550), (556, 557, 80, 558), (564, 565, 80, 566), (576, 13, 80, 577), (648, 17, 80, 649), (580, 14, 80, 581), (569, 12, 80, 570), (585, 15, 80, 586), (643, 16, 80, 644), (572, 0, 80, 573), (305, 306, 74, 307), (404, 405, 74, 406), (438, 439, 74, 440), (454, 455, 74, 456), (462, 463, 74, 464), (474, 475, 74, 476), (490, 491, 74, 492), (494, 495, 74, 496), (524, 525, 74, 526), (532, 533, 74, 534), (667, 668, 74, 669), (714, 715, 74, 716), (722, 723, 74, 724), (761, 762, 74, 763), (466, 467, 74, 468), (443, 8, 74, 444), (508, 10, 74, 509), (512, 11, 74, 513), (412, 0, 74, 413), (682, 18, 74, 683), (686, 19, 74, 687), (324, 325, 78, 326), (297, 298, 73, 299), (340, 341, 73, 342), (348, 349, 73, 350), (380, 381, 73, 382), (392, 393, 73, 394), (400, 401, 73, 402), (434, 435, 73, 436), (450, 451, 73, 452), (458, 459, 73, 460), (470, 471, 73, 472), (486, 487, 73, 488), (520, 521, 73, 522), (528, 529, 73, 530), (536, 537, 73, 538), (544, 545, 73, 546), (552, 553, 73, 554), (560, 561, 73, 562), (663, 664, 73, 665), (689, 690, 73, 691), (702, 703, 73, 704), (710, 711, 73, 712), (718, 719, 73, 720), (726, 727, 73, 728), (733, 734, 73, 735), (741, 742, 73, 743), (748, 749, 73, 750), (757, 758, 73, 759), (333, 0, 73, 334), (812, 0, 81, 813), (816, 21, 81, 817), (820, 22, 81, 821), (848, 27, 81, 849), (844, 26, 81, 845), (832, 23, 81, 833), (939, 45, 81, 940), (967, 50, 81, 968), (943, 46, 81, 944), (971, 51, 81, 972), (852, 28, 81, 853), (840, 25, 81, 841), (855, 0, 81, 856), (871, 32, 81, 872), (867, 31, 81, 868), (863, 30, 81, 864), (927, 43, 81, 928), (919, 41, 81, 920), (915, 40, 81, 916), (923, 42, 81, 924), (911, 39, 81, 912), (995, 55, 81, 996), (891, 36, 81, 892), (887, 35, 81, 888), (808, 809, 81, 810), (823, 824, 81, 825), (836, 24, 81, 837), (859, 29, 81, 860), (827, 828, 81, 829), (883, 34, 81, 884), (895, 37, 81, 896), (879, 33, 81, 880), (874, 875, 81, 876), (898, 899, 81, 900), (907, 38, 81, 908), (902, 903, 81, 904), (935, 44, 81, 936), (930, 931, 81, 932), (951, 47, 81, 952), (946, 947, 81, 948), (975, 52, 81, 976), (963, 49, 81, 964), (959, 48, 81, 960), (954, 955, 81, 956), (983, 53, 81, 984), (978, 979, 81, 980), (991, 54, 81, 992), (1003, 57, 81, 1004), (1007, 58, 81, 1008), (999, 56, 81, 1000), (986, 987, 81, 988), (1015, 59, 81, 1016), (1010, 1011, 81, 1012), (1018, 1019, 81, 1020), (1022, 1023, 81, 1024), (1026, 1027, 81, 1028), (1030, 1031, 81, 1032), (1043, 61, 81, 1044), (1047, 62, 81, 1048), (1051, 63, 81, 1052), (1039, 60, 81, 1040), (1059, 65, 81, 1060), (1063, 66, 81, 1064), (1074, 67, 81, 1075), (1078, 68, 81, 1079), (1082, 69, 81, 1083), (1055, 64, 81, 1056), (1034, 1035, 81, 1036), (1090, 70, 81, 1091), (1085, 1086, 81, 1087), (1098, 71, 81, 1099), (1093, 1094, 81, 1095), (1101, 1102, 81, 1103), (1105, 1106, 81, 1107), (1109, 1110, 81, 1111), (1113, 1114, 81, 1115), (1117, 1118, 81, 1119), (1121, 1122, 81, 1123), (1125, 1126, 81, 1127), (1129, 1130, 81, 1131), (675, 0, 87, 676), (72, 0, 72, 113), (72, 0, 72, 106), (72, 0, 72, 243), (72, 0, 72, 157), (72, 0, 72, 263), (72, 0, 72, 100), (72, 0, 72, 183), (72, 0, 72, 92), (72, 0, 72, 768)]
def nSel : Nat := 72
def nOK : Nat := 178
end
section
/-! 03: an abstract machine over typed cells. A cell's key: (kind, j, i); what it holds of numbers is a function; where its references lead is fixed (the objects are made once). -/
abbrev Key : Type := Nat × Nat × Nat
abbrev V : Type := Int32 ⊕ (Int64 ⊕ Option Key)
abbrev Mem : Type := Nat → Nat → Nat → Nat → Int32
abbrev SX : Type := Nat × (Nat → Int32)
abbrev St : Type := Nat × List (Option V) × List V × Mem
abbrev Res : Type := St ⊕ ((Nat × List V × List V) ⊕ Option V)
def wr (M : Mem) (K j i s : Nat) (x : Int32) : Mem := fun K' j' i' s' => if K' = K ∧ j' = j ∧ i' = i ∧ s' = s then x else M K' j' i' s'
def cpA (M : Mem) (K j i K2 j2 i2 sp dp n : Nat) : Mem := fun K' j' i' s' => if K' = K2 ∧ j' = j2 ∧ i' = i2 ∧ dp ≤ s' ∧ s' < dp + n then M K j i (sp + (s' - dp)) else M K' j' i' s'
def gd {α : Type} (b : Bool) (y : Option α) : Option α := bif b then y else none
def inb (i : Int32) (n : Nat) : Bool := !(decide (i < 0)) && decide (i.toNatClampNeg < n)
def isb (v : Int32) : Bool := decide (v = 0) || decide (v = 1)
def fnd2 {α : Type} : List ((Nat × Nat) × α) → Nat → Nat → Option α
  | [], _, _ => none
  | q :: l, a, b => bif Nat.beq q.1.1 a && Nat.beq q.1.2 b then some q.2 else fnd2 l a b
/-- where a reference field leads -/
def shp (K s j : Nat) : Option Key := match K, s with
  | 1, 0 => some (9, j, 0)
  | 1, 1 => some (13, j, 0)
  | 1, 2 => some (14, j, 0)
  | 2, 0 => some (12, 0, 0)
  | 4, 0 => some (15, 0, 0)
  | 4, 1 => some (16, 0, 0)
  | 5, 0 => some (1, j, 0)
  | 5, 1 => some (10, j, 0)
  | 5, 2 => some (11, j, 0)
  | 7, 0 => some (5, 0, 0)
  | 7, 1 => some (5, 1, 0)
  | 7, 2 => some (2, 0, 0)
  | 7, 3 => some (4, 0, 0)
  | 8, 1 => some (17, 0, 0)
  | 8, 2 => some (18, 0, 0)
  | 8, 3 => some (19, 0, 0)
  | 8, 5 => some (20, 0, 0)
  | 8, 11 => some (21, 0, 0)
  | _, _ => none
/-- boolean fields -/
def fZ (K s : Nat) : Bool := match K, s with
  | 5, 6 => true
  | _, _ => false
/-- arrays of numbers: length; whether of chars -/
def aln (X : SX) (K : Nat) : Option (Nat × Bool) := match K with
  | 13 => some (600, false)
  | 14 => some (600, false)
  | 15 => some (120, true)
  | 16 => some (3, false)
  | 17 => some (589, false)
  | 18 => some (589, false)
  | 19 => some (2945, false)
  | 20 => some (120, false)
  | 21 => some (3, false)
  | 30 => some (X.1, false)
  | _ => none
/-- arrays of references: length -/
def rln (K : Nat) : Option Nat := match K with
  | 9 => some 6
  | 10 => some 20
  | 11 => some 20
  | 12 => some 6
  | _ => none
/-- arrays of references: what they hold -/
def ael (K j n : Nat) : Key := match K with
  | 9 => (0, j, n)
  | 10 => (3, j, n)
  | 11 => (6, j, n)
  | 12 => (5, 2 + n, 0)
  | _ => (0, 0, 0)
/-- the number in a place of an array -/
def ard (X : SX) (M : Mem) (K j i n : Nat) : Int32 := match K with
  | 30 => X.2 n
  | _ => M K j i n
/-- the String constants -/
def strT : List (List Nat) := [[104, 111, 108, 100], [98, 117, 121], [100, 114, 111, 112], [98, 97, 99, 107], [105, 110], [117, 112], [119, 97, 105, 116], [59]]
def LTab : List ((Nat × Nat) × Nat) := [((4, 84), 0), ((4, 86), 1), ((4, 88), 2), ((4, 90), 3), ((4, 92), 4), ((4, 94), 5), ((4, 96), 6), ((4, 43), 7)]
def KTab : List ((Nat × Nat) × Int32 × Nat) := [((10, 265), 1431655765, 677), ((10, 266), 858993459, 678), ((10, 267), 252645135, 679)]
def JTab : List ((Nat × Nat) × Int64 × Nat) := [((8, 188), 1752132708, 1065), ((8, 190), 6452601, 1066), ((8, 192), 1685221232, 1067), ((8, 194), 1650549611, 1068), ((8, 196), 26990, 1069), ((8, 198), 30064, 1070), ((8, 200), 2002872692, 1071)]
def getL (ls : List (Option V)) (i : Nat) : Option V := match nth ls i with
  | some (some v) => some v
  | _ => none
def setL : List (Option V) → Nat → Option V → List (Option V)
  | [], _, _ => []
  | _ :: l, 0, v => v :: l
  | a :: l, n + 1, v => a :: setL l n v
def isLong : Option V → Bool
  | some (.inr (.inl _)) => true
  | _ => false
def kilL (ls : List (Option V)) : Nat → List (Option V)
  | 0 => ls
  | n + 1 => bif isLong ((nth ls n).getD none) then setL ls n none else ls
def st1 (g : Bool) (ls : List (Option V)) (i : Nat) (v : V) : List (Option V) := setL (bif g then kilL ls i else ls) i (some v)
def st2 (ls : List (Option V)) (i : Nat) (v : V) : List (Option V) := setL (setL (kilL ls i) (i + 1) none) i (some v)
def popN : Nat → List V → Option (List V × List V)
  | 0, st => some ([], st)
  | _ + 1, [] => none
  | n + 1, v :: st => match popN n st with
    | some q => some (q.1 ++ [v], q.2)
    | none => none
def catS : List V → Nat
  | [] => 0
  | .inr (.inl _) :: l => 2 + catS l
  | _ :: l => 1 + catS l
def argS : List V → List (Option V)
  | [] => []
  | .inr (.inl y) :: l => some (.inr (.inl y)) :: none :: argS l
  | v :: l => some v :: argS l
def padL : Nat → List (Option V) → List (Option V)
  | 0, _ => []
  | n + 1, [] => none :: padL n []
  | n + 1, a :: l => a :: padL n l
def initL (n : Nat) (as : List V) : List (Option V) := padL n (argS as)
def pushR : Option V → List V → List V
  | none, st => st
  | some v, st => v :: st
def tg (pc : Nat) (off : Int) : Option Nat := match (pc : Int) + off with
  | .ofNat t => some t
  | _ => none
def tgs (pc : Nat) : List Int → Option (List Nat)
  | [] => some []
  | o :: l => match tg pc o, tgs pc l with
    | some t, some r => some (t :: r)
    | _, _ => none
def swN (v : Int32) : Int → List Nat → Nat → Nat
  | _, [], d => d
  | lo, t :: l, d => if v = Int32.ofInt lo then t else swN v (lo + 1) l d
def brZ (c : Jvm.ClassFile.Cond) (a : Int32) (t f : Nat) : Nat := match c with
  | .eq => if a = 0 then t else f
  | .ne => if a = 0 then f else t
  | .lt => if a < 0 then t else f
  | .ge => if a < 0 then f else t
  | .gt => if 0 < a then t else f
  | .le => if 0 < a then f else t
/-- compares a (below) with b (top) -/
def br2 (c : Jvm.ClassFile.Cond) (a b : Int32) (t f : Nat) : Nat := match c with
  | .eq => if a = b then t else f
  | .ne => if a = b then f else t
  | .lt => if a < b then t else f
  | .ge => if a < b then f else t
  | .gt => if b < a then t else f
  | .le => if b < a then f else t
def nx (pc : Nat) (ls : List (Option V)) (st : List V) (M : Mem) : Option Res := some (.inl (pc, ls, st, M))
def cpOK (sp n : Int32) (N : Nat) : Bool := !(decide (sp < 0)) && !(decide (n < 0)) && decide (sp.toNatClampNeg + n.toNatClampNeg ≤ N)
/-- a call: of the class's own methods, or one of three of the JDK's -/
def doCall (X : SX) (e0 : ME) (z : Nat) (virt : Bool) (pc : Nat) (ls : List (Option V)) (st : List V) (M : Mem) : Option Res :=
  bif Nat.beq z 1000 then (match virt, st with
    | false, .inl n :: .inl dp :: .inr (.inr (some (K2, j2, i2))) :: .inl sp :: .inr (.inr (some (K, j, i))) :: st => (match aln X K, aln X K2 with
      | some (n1, false), some (n2, false) => gd (Nat.ble 1 (eF e0) && Nat.ble 40 (eW e0) && !(Nat.beq K 30) && !(Nat.beq K2 30) && cpOK sp n n1 && cpOK dp n n2 && Nat.ble (catS st) 8) (nx (pc + 3) ls st (cpA M K j i K2 j2 i2 sp.toNatClampNeg dp.toNatClampNeg n.toNatClampNeg))
      | _, _ => none)
    | _, _ => none)
  else bif Nat.beq z 1001 then (match virt, st with
    | true, .inr (.inr (some (31, i, _))) :: st => (match nth strT i with
      | some s => gd (Nat.ble 2 (eF e0) && Nat.ble 40 (eW e0) && Nat.ble (catS st) 8) (nx (pc + 3) ls (.inl (nI s.length) :: st) M)
      | none => none)
    | _, _ => none)
  else bif Nat.beq z 1002 then (match virt, st with
    | true, .inl k :: .inr (.inr (some (31, i, _))) :: st => (match nth strT i with
      | some s => gd (inb k s.length && Nat.ble 5 (eF e0) && Nat.ble 106 (eW e0) && Nat.ble (catS st) 8) (nx (pc + 3) ls (.inl (nI (s.getD k.toNatClampNeg 0)) :: st) M)
      | none => none)
    | _, _ => none)
  else match nth MT z with
    | none => none
    | some e => match popN (eN e) st with
      | none => none
      | some (as, rest) => bif virt then (match rest with
          | .inr (.inr (some k)) :: rest => gd (Nat.ble (eF e + 1) (eF e0) && Nat.ble (8 + (eL e + 11) + eW e) (eW e0) && Nat.beq k.1 (eO e) && !(eS e) && Nat.ble (catS rest) 8 && Nat.ble (argS (.inr (.inr (some k)) :: as)).length (eL e) && (eG e || Nat.beq (argS (.inr (.inr (some k)) :: as)).length (as.length + 1))) (some (.inr (.inl (z, .inr (.inr (some k)) :: as, rest))))
          | _ => none)
        else gd (Nat.ble (eF e + 1) (eF e0) && Nat.ble (8 + (eL e + 11) + eW e) (eW e0) && eS e && Nat.ble (catS rest) 8 && Nat.ble (argS as).length (eL e) && (eG e || Nat.beq (argS as).length as.length)) (some (.inr (.inl (z, as, rest))))
def lcm (a b : Int64) : Int32 := lg_cmp a b
/-- one instruction -/
def stepI (X : SX) (e : ME) (I : Instr) (n pc : Nat) (ls : List (Option V)) (st : List V) (M : Mem) : Option Res := match I with
  | .iconst k => nx (pc + 1) ls (.inl (Int32.ofInt k) :: st) M
  | .bipush k => nx (pc + 2) ls (.inl (Int8.ofInt k).toInt32 :: st) M
  | .sipush k => nx (pc + 3) ls (.inl (Int16.ofInt k).toInt32 :: st) M
  | .lconst k => nx (pc + 1) ls (.inr (.inl (Int64.ofNat k.val)) :: st) M
  | .aconst_null => nx (pc + 1) ls (.inr (.inr none) :: st) M
  | .iload_n k => (match getL ls k.val with
    | some (.inl v) => nx (pc + 1) ls (.inl v :: st) M
    | _ => none)
  | .iload k => (match getL ls k with
    | some (.inl v) => gd (Nat.beq n 2) (nx (pc + 2) ls (.inl v :: st) M)
    | _ => none)
  | .lload_n k => (match getL ls k.val with
    | some (.inr (.inl v)) => nx (pc + 1) ls (.inr (.inl v) :: st) M
    | _ => none)
  | .aload_n k => (match getL ls k.val with
    | some (.inr (.inr v)) => nx (pc + 1) ls (.inr (.inr v) :: st) M
    | _ => none)
  | .aload k => (match getL ls k with
    | some (.inr (.inr v)) => gd (Nat.beq n 2) (nx (pc + 2) ls (.inr (.inr v) :: st) M)
    | _ => none)
  | .istore_n k => (match st with
    | .inl v :: st => gd (Nat.blt k.val ls.length) (nx (pc + 1) (st1 (eG e) ls k.val (.inl v)) st M)
    | _ => none)
  | .istore k => (match st with
    | .inl v :: st => gd (Nat.beq n 2 && Nat.blt k ls.length) (nx (pc + 2) (st1 (eG e) ls k (.inl v)) st M)
    | _ => none)
  | .lstore_n k => (match st with
    | .inr (.inl v) :: st => gd (eG e && Nat.blt (k.val + 1) ls.length) (nx (pc + 1) (st2 ls k.val (.inr (.inl v))) st M)
    | _ => none)
  | .astore_n k => (match st with
    | .inr (.inr v) :: st => gd (Nat.blt k.val ls.length) (nx (pc + 1) (st1 (eG e) ls k.val (.inr (.inr v))) st M)
    | _ => none)
  | .astore k => (match st with
    | .inr (.inr v) :: st => gd (Nat.beq n 2 && Nat.blt k ls.length) (nx (pc + 2) (st1 (eG e) ls k (.inr (.inr v))) st M)
    | _ => none)
  | .iinc k d => (match getL ls k with
    | some (.inl v) => gd (Nat.beq n 3 && Nat.blt k ls.length) (nx (pc + 3) (st1 (eG e) ls k (.inl (v + Int32.ofInt d))) st M)
    | _ => none)
  | .iadd => (match st with
    | .inl b :: .inl a :: st => nx (pc + 1) ls (.inl (a + b) :: st) M
    | _ => none)
  | .isub => (match st with
    | .inl b :: .inl a :: st => nx (pc + 1) ls (.inl (a - b) :: st) M
    | _ => none)
  | .imul => (match st with
    | .inl b :: .inl a :: st => nx (pc + 1) ls (.inl (a * b) :: st) M
    | _ => none)
  | .idiv => (match st with
    | .inl b :: .inl a :: st => gd (!(decide (b = 0))) (nx (pc + 1) ls (.inl (a / b) :: st) M)
    | _ => none)
  | .irem => (match st with
    | .inl b :: .inl a :: st => gd (!(decide (b = 0))) (nx (pc + 1) ls (.inl (a - a / b * b) :: st) M)
    | _ => none)
  | .iand => (match st with
    | .inl b :: .inl a :: st => nx (pc + 1) ls (.inl (a &&& b) :: st) M
    | _ => none)
  | .ior => (match st with
    | .inl b :: .inl a :: st => nx (pc + 1) ls (.inl (a ||| b) :: st) M
    | _ => none)
  | .ixor => (match st with
    | .inl b :: .inl a :: st => nx (pc + 1) ls (.inl (a ^^^ b) :: st) M
    | _ => none)
  | .ishl => (match st with
    | .inl b :: .inl a :: st => nx (pc + 1) ls (.inl (a <<< (b &&& 31)) :: st) M
    | _ => none)
  | .ishr => (match st with
    | .inl b :: .inl a :: st => nx (pc + 1) ls (.inl (a >>> (b &&& 31)) :: st) M
    | _ => none)
  | .iushr => (match st with
    | .inl b :: .inl a :: st => nx (pc + 1) ls (.inl (a.toUInt32 >>> (b.toUInt32 &&& Int32.toUInt32 31)).toInt32 :: st) M
    | _ => none)
  | .i2c => (match st with
    | .inl a :: st => nx (pc + 1) ls (.inl (a.toUInt32 % 65536).toInt32 :: st) M
    | _ => none)
  | .i2l => (match st with
    | .inl a :: st => nx (pc + 1) ls (.inr (.inl a.toInt64) :: st) M
    | _ => none)
  | .lshl => (match st with
    | .inl b :: .inr (.inl a) :: st => nx (pc + 1) ls (.inr (.inl (a <<< (b.toInt64 &&& 63))) :: st) M
    | _ => none)
  | .lor => (match st with
    | .inr (.inl b) :: .inr (.inl a) :: st => nx (pc + 1) ls (.inr (.inl (a ||| b)) :: st) M
    | _ => none)
  | .lcmp => (match st with
    | .inr (.inl b) :: .inr (.inl a) :: st => nx (pc + 1) ls (.inl (lcm a b) :: st) M
    | _ => none)
  | .dup => (match st with
    | .inl a :: st => nx (pc + 1) ls (.inl a :: .inl a :: st) M
    | .inr (.inr a) :: st => nx (pc + 1) ls (.inr (.inr a) :: .inr (.inr a) :: st) M
    | _ => none)
  | .pop => (match st with
    | .inl _ :: st => nx (pc + 1) ls st M
    | .inr (.inr _) :: st => nx (pc + 1) ls st M
    | _ => none)
  | .dup2 => (match st with
    | .inl b :: .inr (.inr a) :: st => nx (pc + 1) ls (.inl b :: .inr (.inr a) :: .inl b :: .inr (.inr a) :: st) M
    | _ => none)
  | .goto o => (match tg pc o with
    | some t => nx t ls st M
    | none => none)
  | .ifCond c o => (match st, tg pc o with
    | .inl a :: st, some t => nx (brZ c a t (pc + 3)) ls st M
    | _, _ => none)
  | .if_icmp c o => (match st, tg pc o with
    | .inl b :: .inl a :: st, some t => nx (br2 c a b t (pc + 3)) ls st M
    | _, _ => none)
  | .ifnull o => (match st, tg pc o with
    | .inr (.inr none) :: st, some t => nx t ls st M
    | .inr (.inr (some _)) :: st, some _ => nx (pc + 3) ls st M
    | _, _ => none)
  | .ifnonnull o => (match st, tg pc o with
    | .inr (.inr none) :: st, some _ => nx (pc + 3) ls st M
    | .inr (.inr (some _)) :: st, some t => nx t ls st M
    | _, _ => none)
  | .tableswitch d lo hi os => (match st, tg pc d, tgs pc os.toList with
    | .inl a :: st, some t, some l => gd (decide (hi + 1 = lo + (os.toList.length : Int)) && decide (-2147483648 ≤ lo) && decide (hi < 2147483648)) (nx (swN a lo l t) ls st M)
    | _, _, _ => none)
  | .getfield ix => (match st with
    | .inr (.inr (some (K, j, i))) :: st => (match fnd2 FTab (eO e) ix with
      | some (K', s, _) => gd (Nat.beq K K') (match shp K s j with
        | some k => nx (pc + 3) ls (.inr (.inr (some k)) :: st) M
        | none => nx (pc + 3) ls (.inl (M K j i s) :: st) M)
      | none => none)
    | _ => none)
  | .putfield ix => (match st with
    | .inl v :: .inr (.inr (some (K, j, i))) :: st => (match fnd2 FTab (eO e) ix with
      | some (K', s, _) => gd (Nat.beq K K') (match shp K s j with
        | some _ => none
        | none => gd (bif fZ K s then isb v else true) (nx (pc + 3) ls st (wr M K j i s v)))
      | none => none)
    | _ => none)
  | .iaload => (match st with
    | .inl v :: .inr (.inr (some (K, j, i))) :: st => (match aln X K with
      | some (N, false) => gd (inb v N) (nx (pc + 1) ls (.inl (ard X M K j i v.toNatClampNeg) :: st) M)
      | _ => none)
    | _ => none)
  | .caload => (match st with
    | .inl v :: .inr (.inr (some (K, j, i))) :: st => (match aln X K with
      | some (N, true) => gd (inb v N) (nx (pc + 1) ls (.inl (M K j i v.toNatClampNeg) :: st) M)
      | _ => none)
    | _ => none)
  | .iastore => (match st with
    | .inl w :: .inl v :: .inr (.inr (some (K, j, i))) :: st => (match aln X K with
      | some (N, false) => gd (!(Nat.beq K 30) && inb v N) (nx (pc + 1) ls st (wr M K j i v.toNatClampNeg w))
      | _ => none)
    | _ => none)
  | .castore => (match st with
    | .inl w :: .inl v :: .inr (.inr (some (K, j, i))) :: st => (match aln X K with
      | some (N, true) => gd (inb v N) (nx (pc + 1) ls st (wr M K j i v.toNatClampNeg (vp_nar .char w)))
      | _ => none)
    | _ => none)
  | .aaload => (match st with
    | .inl v :: .inr (.inr (some (K, j, _))) :: st => (match rln K with
      | some N => gd (inb v N) (nx (pc + 1) ls (.inr (.inr (some (ael K j v.toNatClampNeg))) :: st) M)
      | none => none)
    | _ => none)
  | .arraylength => (match st with
    | .inr (.inr (some (30, _, _))) :: st => nx (pc + 1) ls (.inl (nI X.1) :: st) M
    | _ => none)
  | .ldc ix => (match fnd2 LTab (eO e) ix with
    | some k => nx (pc + 2) ls (.inr (.inr (some (31, k, 0))) :: st) M
    | none => none)
  | .ldc_w ix => (match fnd2 KTab (eO e) ix with
    | some (v, _) => nx (pc + 3) ls (.inl v :: st) M
    | none => none)
  | .ldc2_w ix => (match fnd2 JTab (eO e) ix with
    | some (v, _) => nx (pc + 3) ls (.inr (.inl v) :: st) M
    | none => none)
  | .invokevirtual ix => (match fnd2 CTab (eO e) ix with
    | some (z, _) => doCall X e z true pc ls st M
    | none => none)
  | .invokestatic ix => (match fnd2 CTab (eO e) ix with
    | some (z, _) => doCall X e z false pc ls st M
    | none => none)
  | .ireturn => (match st, eR e with
    | [.inl v], some .int => some (.inr (.inr (some (.inl v))))
    | [.inl v], some .boolean => gd (isb v) (some (.inr (.inr (some (.inl v)))))
    | _, _ => none)
  | .lreturn => (match st, eR e with
    | [.inr (.inl v)], some .long => some (.inr (.inr (some (.inr (.inl v)))))
    | _, _ => none)
  | .areturn => (match st, eR e with
    | [.inr (.inr v)], some (.object _) => some (.inr (.inr (some (.inr (.inr v)))))
    | _, _ => none)
  | .return_ => (match st, eR e with
    | [], none => some (.inr (.inr none))
    | _, _ => none)
  | _ => none
def stepS (X : SX) (z : Nat) (s : St) : Option Res := match nth MT z with
  | none => none
  | some e => match fnd (eI e) s.1 with
    | none => none
    | some q => stepI X e q.1 q.2 s.1 s.2.1 s.2.2.1 s.2.2.2
def run (X : SX) : Nat → Nat → St → Option (Option V × Mem)
  | 0, _, _ => none
  | n + 1, z, s => match stepS X z s with
    | none => none
    | some (.inl s') => run X n z s'
    | some (.inr (.inl (z', as, rest))) => (match nth MT z' with
      | none => none
      | some e => match run X n z' (0, initL (eL e) as, [], s.2.2.2) with
        | none => none
        | some (r, M') => run X n z (s.1 + 3, s.2.1, pushR r rest, M'))
    | some (.inr (.inr r)) => some (r, s.2.2.2)
def mst (X : SX) : Nat → Nat → St → Option St
  | 0, _, s => some s
  | n + 1, z, s => match stepS X z s with
    | some (.inl s') => mst X n z s'
    | _ => none
def Ev (X : SX) (z : Nat) (s : St) (R : Option V × Mem) : Prop := ∃ n, run X n z s = some R
def Cl (X : SX) (z : Nat) (as : List V) (M : Mem) (r : Option V) (M' : Mem) : Prop := ∃ e, nth MT z = some e ∧ Ev X z (0, initL (eL e) as, [], M) (r, M')
theorem run_mono (X : SX) : ∀ (n z : Nat) (s : St) (R : Option V × Mem), run X n z s = some R → run X (n + 1) z s = some R := by
  intro n
  induction n with
  | zero => intro z s R h; simp [run] at h
  | succ n ih =>
    intro z s R h
    rw [run] at h ⊢
    split at h
    · simp at h
    · next s' hs => exact ih _ _ _ h
    · next z' as rest hs =>
      split at h
      · simp at h
      · next e he =>
        split at h
        · simp at h
        · next r M' hr =>
          rw [ih _ _ _ hr]
          exact ih _ _ _ h
    · next r hs => exact h
theorem run_le (X : SX) {n k z : Nat} {s : St} {R : Option V × Mem} (h : run X n z s = some R) (hk : n ≤ k) : run X k z s = some R := by
  induction hk with
  | refl => exact h
  | step _ ih => exact run_mono X _ _ _ _ ih
theorem ev_one {X : SX} {z : Nat} {s s' : St} {R : Option V × Mem} (h : stepS X z s = some (.inl s')) (k : Ev X z s' R) : Ev X z s R := by
  obtain ⟨n, hn⟩ := k
  exact ⟨n + 1, by rw [run, h]; exact hn⟩
theorem ev_st {X : SX} {z : Nat} {s' : St} {R : Option V × Mem} : ∀ (k : Nat) {s : St}, mst X k z s = some s' → Ev X z s' R → Ev X z s R := by
  intro k
  induction k with
  | zero => intro s h q; rw [mst] at h; cases h; exact q
  | succ k ih =>
    intro s h q
    rw [mst] at h
    split at h
    · next s1 hs => exact ev_one hs (ih h q)
    · simp at h
theorem ev_gd {X : SX} {z : Nat} {b : Bool} {s s' : St} {R : Option V × Mem} (h : stepS X z s = gd b (some (.inl s'))) (hb : b = true) (k : Ev X z s' R) : Ev X z s R := by
  subst hb
  exact ev_one h k
theorem ev_call {X : SX} {z z' pc : Nat} {ls : List (Option V)} {st as rest : List V} {M M' : Mem} {r : Option V} {R : Option V × Mem} (h : stepS X z (pc, ls, st, M) = some (.inr (.inl (z', as, rest)))) (hc : Cl X z' as M r M') (k : Ev X z (pc + 3, ls, pushR r rest, M') R) : Ev X z (pc, ls, st, M) R := by
  obtain ⟨e, he, n, hn⟩ := hc
  obtain ⟨m, hm⟩ := k
  refine ⟨max n m + 1, ?_⟩
  rw [run, h]
  simp only [he]
  rw [run_le X hn (Nat.le_max_left n m)]
  exact run_le X hm (Nat.le_max_right n m)
theorem ev_ret {X : SX} {z pc : Nat} {ls : List (Option V)} {st : List V} {M : Mem} {r : Option V} (h : stepS X z (pc, ls, st, M) = some (.inr (.inr r))) : Ev X z (pc, ls, st, M) (r, M) := ⟨1, by rw [run, h]⟩
theorem ev_retg {X : SX} {z pc : Nat} {ls : List (Option V)} {st : List V} {M : Mem} {r : Option V} {b : Bool} (h : stepS X z (pc, ls, st, M) = gd b (some (.inr (.inr r)))) (hb : b = true) : Ev X z (pc, ls, st, M) (r, M) := by
  subst hb
  exact ev_ret h
theorem ev_br {X : SX} {z t f : Nat} {c : Prop} [Decidable c] {ls : List (Option V)} {st : List V} {M : Mem} {R : Option V × Mem} (a : c → Ev X z (t, ls, st, M) R) (b : ¬ c → Ev X z (f, ls, st, M) R) : Ev X z (if c then t else f, ls, st, M) R := by
  by_cases h : c
  · rw [if_pos h]; exact a h
  · rw [if_neg h]; exact b h
theorem cl_of {X : SX} {z : Nat} {as : List V} {M M' : Mem} {r : Option V} {e : ME} (he : nth MT z = some e) (h : Ev X z (0, initL (eL e) as, [], M) (r, M')) : Cl X z as M r M' := ⟨e, he, h⟩
end
section
/-! 04: what the tables' words say of the abstract machine's tables -/
def gtbl : List Jvm.Cond := lw_tbl.filter goodWord
theorem gtbl_good : GoodIn gtbl gtbl := fun w hw => ⟨hw, good_of_word (List.mem_filter.mp hw).2⟩
theorem gtbl_lw : ∀ w ∈ gtbl, w ∈ lw_tbl := fun w hw => (List.mem_filter.mp hw).1
theorem gtbl_of {w : Jvm.Cond} (h : w ∈ lw_tbl) (g : goodWord w = true) : w ∈ gtbl := List.mem_filter.mpr ⟨h, g⟩
theorem mem_t {w : Jvm.Cond} {k : Nat} (h : tables_1[k]? = some w) (g : goodWord w = true := by rfl) : w ∈ gtbl := gtbl_of (List.mem_append_right _ (List.mem_of_getElem? h)) g
theorem mem_l {w : Jvm.Cond} {k : Nat} (h : lw_tbl[k]? = some w) (g : goodWord w = true := by rfl) : w ∈ gtbl := gtbl_of (List.mem_of_getElem? h) g
theorem nth_get {α : Type} : ∀ (l : List α) (n : Nat), nth l n = l[n]? := by
  intro l
  induction l with
  | nil => intro n; simp [nth]
  | cons a l ih =>
    intro n
    cases n with
    | zero => simp [nth]
    | succ n => simp [nth, ih]
theorem fnd2_mem {α : Type} : ∀ (l : List ((Nat × Nat) × α)) (a b : Nat) (v : α), fnd2 l a b = some v → ((a, b), v) ∈ l := by
  intro l
  induction l with
  | nil => intro a b v h; simp [fnd2] at h
  | cons q l ih =>
    intro a b v h
    rw [fnd2] at h
    cases hq : (Nat.beq q.1.1 a && Nat.beq q.1.2 b) with
    | true =>
      rw [hq] at h
      simp only [cond_true, Option.some.injEq] at h
      simp only [Bool.and_eq_true, Nat.beq_eq] at hq
      obtain ⟨⟨x, y⟩, w⟩ := q
      simp only at hq h
      obtain ⟨rfl, rfl⟩ := hq
      subst h
      exact List.mem_cons_self
    | false =>
      rw [hq] at h
      exact List.mem_cons_of_mem _ (ih a b v h)
theorem fnd_mem : ∀ (l : List (Nat × Instr × Nat)) (pc : Nat) (v : Instr × Nat), fnd l pc = some v → (pc, v) ∈ l := by
  intro l
  induction l with
  | nil => intro pc v h; simp [fnd] at h
  | cons q l ih =>
    intro pc v h
    rw [fnd] at h
    cases hq : Nat.beq q.1 pc with
    | true =>
      rw [hq] at h
      simp only [cond_true, Option.some.injEq] at h
      have := Nat.eq_of_beq_eq_true hq
      obtain ⟨x, w⟩ := q
      simp only at this h
      subst this; subst h
      exact List.mem_cons_self
    | false =>
      rw [hq] at h
      exact List.mem_cons_of_mem _ (ih pc v h)
def clN (K : Nat) : Nat := (nth [3, 6, 3, 5, 5, 10, 5, 4, 12] K).getD 0
def clC (K : Nat) : String := (nth [RX0, RX1, RX2, RX3, RX4, RX5, RX6, RX7, RX8] K).getD ""
def clT (K : Nat) : u_T := (nth [TX0, TX1, TX2, TX3, TX4, TX5, TX6, TX7, TX8] K).getD TX0
def clY (K : Nat) : Nat → FieldType := (nth [tyX0, tyX1, tyX2, tyX3, tyX4, tyX5, tyX6, tyX7, tyX8] K).getD tyX0
theorem cl_at : ∀ K, K < 9 → vwCl[K]? = some (clC K, clT K, clN K)
  | 0, _ => rfl
  | 1, _ => rfl
  | 2, _ => rfl
  | 3, _ => rfl
  | 4, _ => rfl
  | 5, _ => rfl
  | 6, _ => rfl
  | 7, _ => rfl
  | 8, _ => rfl
  | k + 9, h => absurd h (by omega)
set_option maxRecDepth 20000 in
theorem i_X0 : ∀ w ∈ wsX00, w ∈ gtbl := fun w hw => let h := (by decide +kernel : ∀ w ∈ wsX00, w ∈ lw_tbl ∧ goodWord w = true) w hw; gtbl_of h.1 h.2
set_option maxRecDepth 20000 in
theorem i_X1 : ∀ w ∈ wsX10, w ∈ gtbl := fun w hw => let h := (by decide +kernel : ∀ w ∈ wsX10, w ∈ lw_tbl ∧ goodWord w = true) w hw; gtbl_of h.1 h.2
set_option maxRecDepth 20000 in
theorem i_X2 : ∀ w ∈ wsX20, w ∈ gtbl := fun w hw => let h := (by decide +kernel : ∀ w ∈ wsX20, w ∈ lw_tbl ∧ goodWord w = true) w hw; gtbl_of h.1 h.2
set_option maxRecDepth 20000 in
theorem i_X3 : ∀ w ∈ wsX30, w ∈ gtbl := fun w hw => let h := (by decide +kernel : ∀ w ∈ wsX30, w ∈ lw_tbl ∧ goodWord w = true) w hw; gtbl_of h.1 h.2
set_option maxRecDepth 20000 in
theorem i_X4 : ∀ w ∈ wsX40, w ∈ gtbl := fun w hw => let h := (by decide +kernel : ∀ w ∈ wsX40, w ∈ lw_tbl ∧ goodWord w = true) w hw; gtbl_of h.1 h.2
set_option maxRecDepth 20000 in
theorem i_X5 : ∀ w ∈ wsX50, w ∈ gtbl := fun w hw => let h := (by decide +kernel : ∀ w ∈ wsX50, w ∈ lw_tbl ∧ goodWord w = true) w hw; gtbl_of h.1 h.2
set_option maxRecDepth 20000 in
theorem i_X6 : ∀ w ∈ wsX60, w ∈ gtbl := fun w hw => let h := (by decide +kernel : ∀ w ∈ wsX60, w ∈ lw_tbl ∧ goodWord w = true) w hw; gtbl_of h.1 h.2
set_option maxRecDepth 20000 in
theorem i_X7 : ∀ w ∈ wsX70, w ∈ gtbl := fun w hw => let h := (by decide +kernel : ∀ w ∈ wsX70, w ∈ lw_tbl ∧ goodWord w = true) w hw; gtbl_of h.1 h.2
set_option maxRecDepth 20000 in
theorem i_X8 : ∀ w ∈ wsX80, w ∈ gtbl := fun w hw => let h := (by decide +kernel : ∀ w ∈ wsX80, w ∈ lw_tbl ∧ goodWord w = true) w hw; gtbl_of h.1 h.2
theorem cl_in : ∀ K, K < 9 → ∀ w ∈ u_ws (clC K) (clT K) (clN K), w ∈ gtbl
  | 0, _ => i_X0
  | 1, _ => i_X1
  | 2, _ => i_X2
  | 3, _ => i_X3
  | 4, _ => i_X4
  | 5, _ => i_X5
  | 6, _ => i_X6
  | 7, _ => i_X7
  | 8, _ => i_X8
  | k + 9, h => absurd h (by omega)
theorem cl_ty : ∀ K, K < 9 → ∀ k, k < clN K → parseFieldDescriptor (clT K k).2.2.1 = some (clY K k)
  | 0, _ => tyX0_ok
  | 1, _ => tyX1_ok
  | 2, _ => tyX2_ok
  | 3, _ => tyX3_ok
  | 4, _ => tyX4_ok
  | 5, _ => tyX5_ok
  | 6, _ => tyX6_ok
  | 7, _ => tyX7_ok
  | 8, _ => tyX8_ok
  | k + 9, h => absurd h (by omega)
theorem cl_nm : ∀ K, K < 9 → ∀ a, a < clN K → ∀ b, b < clN K → a ≠ b → (clT K a).2.1 ≠ (clT K b).2.1
  | 0, _ => nmX0
  | 1, _ => nmX1
  | 2, _ => nmX2
  | 3, _ => nmX3
  | 4, _ => nmX4
  | 5, _ => nmX5
  | 6, _ => nmX6
  | 7, _ => nmX7
  | 8, _ => nmX8
  | k + 9, h => absurd h (by omega)
set_option maxRecDepth 20000 in
theorem ft_ok : ∀ q ∈ FTab, q.2.1 < 9 ∧ q.2.2.1 < clN q.2.1 ∧ tables_1[q.2.2.2]? = some (.fieldLink (ownS q.1.1) q.1.2 (clT q.2.1 q.2.2.1).1 (clT q.2.1 q.2.2.1).2.1 (clT q.2.1 q.2.2.1).2.2.1) := by decide +kernel
set_option maxRecDepth 20000 in
theorem ft_good : ∀ K, K < 9 → ∀ s, s < clN K → shp K s 0 = none → (clT K s).2.2.2 = false ∧ clY K s = (if fZ K s then .boolean else .int) := by decide +kernel
def MW (e : ME) : Prop := (plainName (eY e).cls = true ∧ (eY e).cls = ownS (eO e) ∧ ((eY e).cls ≠ "java/lang/invoke/MethodHandle" ∧ (eY e).cls ≠ "java/lang/invoke/VarHandle" ∧ (parseMethodDescriptor (eY e).desc).map (fun d => d.parameters.length) = some (eN e)) ∧ Cond.initialized (eY e).cls ∈ gtbl ∧ (if eS e = true then Cond.static (eY e) ∈ gtbl else Cond.instanceMethod (eY e) ∈ gtbl ∧ Cond.selects (eY e).cls (eY e) (eY e) ∈ gtbl)) ∧ Cond.code (eY e) (eB e) (eL e) (eR e) ∈ gtbl ∧ (∀ q ∈ eI e, decode (eB e) q.1 = .ok q.2)
theorem w_X0_copyFrom : MW E_X0_copyFrom := ⟨⟨by decide +kernel, by decide +kernel, by decide +kernel, mem_t (k := 4) (by decide +kernel), ⟨mem_t (k := 241) (by decide +kernel), mem_t (k := 242) (by decide +kernel)⟩⟩, mem_t (k := 243) (by decide +kernel), dc_X0_copyFrom⟩
theorem w_X1_copyFrom : MW E_X1_copyFrom := ⟨⟨by decide +kernel, by decide +kernel, by decide +kernel, mem_t (k := 3) (by decide +kernel), ⟨mem_t (k := 237) (by decide +kernel), mem_t (k := 238) (by decide +kernel)⟩⟩, mem_t (k := 239) (by decide +kernel), dc_X1_copyFrom⟩
theorem w_X1_makeBlock : MW E_X1_makeBlock := ⟨⟨by decide +kernel, by decide +kernel, by decide +kernel, mem_t (k := 3) (by decide +kernel), ⟨mem_t (k := 256) (by decide +kernel), mem_t (k := 257) (by decide +kernel)⟩⟩, mem_t (k := 258) (by decide +kernel), dc_X1_makeBlock⟩
theorem w_X1_makeStage : MW E_X1_makeStage := ⟨⟨by decide +kernel, by decide +kernel, by decide +kernel, mem_t (k := 3) (by decide +kernel), ⟨mem_t (k := 272) (by decide +kernel), mem_t (k := 273) (by decide +kernel)⟩⟩, mem_t (k := 274) (by decide +kernel), dc_X1_makeStage⟩
theorem w_X1_makePiece : MW E_X1_makePiece := ⟨⟨by decide +kernel, by decide +kernel, by decide +kernel, mem_t (k := 3) (by decide +kernel), ⟨mem_t (k := 280) (by decide +kernel), mem_t (k := 281) (by decide +kernel)⟩⟩, mem_t (k := 282) (by decide +kernel), dc_X1_makePiece⟩
theorem w_X1_raiseStage : MW E_X1_raiseStage := ⟨⟨by decide +kernel, by decide +kernel, by decide +kernel, mem_t (k := 3) (by decide +kernel), ⟨mem_t (k := 312) (by decide +kernel), mem_t (k := 313) (by decide +kernel)⟩⟩, mem_t (k := 314) (by decide +kernel), dc_X1_raiseStage⟩
theorem w_X1_lowerStage : MW E_X1_lowerStage := ⟨⟨by decide +kernel, by decide +kernel, by decide +kernel, mem_t (k := 3) (by decide +kernel), ⟨mem_t (k := 324) (by decide +kernel), mem_t (k := 325) (by decide +kernel)⟩⟩, mem_t (k := 326) (by decide +kernel), dc_X1_lowerStage⟩
theorem w_X1_newlyKilled : MW E_X1_newlyKilled := ⟨⟨by decide +kernel, by decide +kernel, by decide +kernel, mem_t (k := 3) (by decide +kernel), ⟨mem_t (k := 665) (by decide +kernel), mem_t (k := 666) (by decide +kernel)⟩⟩, mem_t (k := 667) (by decide +kernel), dc_X1_newlyKilled⟩
theorem w_X1_stagesThatAreUp : MW E_X1_stagesThatAreUp := ⟨⟨by decide +kernel, by decide +kernel, by decide +kernel, mem_t (k := 3) (by decide +kernel), ⟨mem_t (k := 599) (by decide +kernel), mem_t (k := 600) (by decide +kernel)⟩⟩, mem_t (k := 601) (by decide +kernel), dc_X1_stagesThatAreUp⟩
theorem w_X1_blockAt : MW E_X1_blockAt := ⟨⟨by decide +kernel, by decide +kernel, by decide +kernel, mem_t (k := 3) (by decide +kernel), ⟨mem_t (k := 296) (by decide +kernel), mem_t (k := 297) (by decide +kernel)⟩⟩, mem_t (k := 298) (by decide +kernel), dc_X1_blockAt⟩
theorem w_X1_rankOf : MW E_X1_rankOf := ⟨⟨by decide +kernel, by decide +kernel, by decide +kernel, mem_t (k := 3) (by decide +kernel), ⟨mem_t (k := 430) (by decide +kernel), mem_t (k := 431) (by decide +kernel)⟩⟩, mem_t (k := 432) (by decide +kernel), dc_X1_rankOf⟩
theorem w_X1_priceOf : MW E_X1_priceOf := ⟨⟨by decide +kernel, by decide +kernel, by decide +kernel, mem_t (k := 3) (by decide +kernel), ⟨mem_t (k := 374) (by decide +kernel), mem_t (k := 375) (by decide +kernel)⟩⟩, mem_t (k := 376) (by decide +kernel), dc_X1_priceOf⟩
theorem w_X1_chairFigure : MW E_X1_chairFigure := ⟨⟨by decide +kernel, by decide +kernel, by decide +kernel, mem_t (k := 3) (by decide +kernel), ⟨mem_t (k := 634) (by decide +kernel), mem_t (k := 635) (by decide +kernel)⟩⟩, mem_t (k := 636) (by decide +kernel), dc_X1_chairFigure⟩
theorem w_X1_blockFigure : MW E_X1_blockFigure := ⟨⟨by decide +kernel, by decide +kernel, by decide +kernel, mem_t (k := 3) (by decide +kernel), ⟨mem_t (k := 621) (by decide +kernel), mem_t (k := 622) (by decide +kernel)⟩⟩, mem_t (k := 623) (by decide +kernel), dc_X1_blockFigure⟩
theorem w_X1_chairsIn : MW E_X1_chairsIn := ⟨⟨by decide +kernel, by decide +kernel, by decide +kernel, mem_t (k := 3) (by decide +kernel), ⟨mem_t (k := 406) (by decide +kernel), mem_t (k := 407) (by decide +kernel)⟩⟩, mem_t (k := 408) (by decide +kernel), dc_X1_chairsIn⟩
theorem w_X1_mark : MW E_X1_mark := ⟨⟨by decide +kernel, by decide +kernel, by decide +kernel, mem_t (k := 3) (by decide +kernel), ⟨mem_t (k := 358) (by decide +kernel), mem_t (k := 359) (by decide +kernel)⟩⟩, mem_t (k := 360) (by decide +kernel), dc_X1_mark⟩
theorem w_X1_findPlace : MW E_X1_findPlace := ⟨⟨by decide +kernel, by decide +kernel, by decide +kernel, mem_t (k := 3) (by decide +kernel), ⟨mem_t (k := 343) (by decide +kernel), mem_t (k := 344) (by decide +kernel)⟩⟩, mem_t (k := 345) (by decide +kernel), dc_X1_findPlace⟩
theorem w_X1_greatestGroup : MW E_X1_greatestGroup := ⟨⟨by decide +kernel, by decide +kernel, by decide +kernel, mem_t (k := 3) (by decide +kernel), ⟨mem_t (k := 444) (by decide +kernel), mem_t (k := 445) (by decide +kernel)⟩⟩, mem_t (k := 446) (by decide +kernel), dc_X1_greatestGroup⟩
theorem w_X1_cheapestFor : MW E_X1_cheapestFor := ⟨⟨by decide +kernel, by decide +kernel, by decide +kernel, mem_t (k := 3) (by decide +kernel), ⟨mem_t (k := 680) (by decide +kernel), mem_t (k := 681) (by decide +kernel)⟩⟩, mem_t (k := 682) (by decide +kernel), dc_X1_cheapestFor⟩
theorem w_X1_upgradeFor : MW E_X1_upgradeFor := ⟨⟨by decide +kernel, by decide +kernel, by decide +kernel, mem_t (k := 3) (by decide +kernel), ⟨mem_t (k := 426) (by decide +kernel), mem_t (k := 427) (by decide +kernel)⟩⟩, mem_t (k := 428) (by decide +kernel), dc_X1_upgradeFor⟩
theorem w_X1_isGroup : MW E_X1_isGroup := ⟨⟨by decide +kernel, by decide +kernel, by decide +kernel, mem_t (k := 3) (by decide +kernel), mem_t (k := 337) (by decide +kernel)⟩, mem_t (k := 338) (by decide +kernel), dc_X1_isGroup⟩
theorem w_X1_isStage : MW E_X1_isStage := ⟨⟨by decide +kernel, by decide +kernel, by decide +kernel, mem_t (k := 3) (by decide +kernel), ⟨mem_t (k := 285) (by decide +kernel), mem_l (k := 1) (by decide +kernel)⟩⟩, mem_t (k := 286) (by decide +kernel), dc_X1_isStage⟩
theorem w_X1_isUp : MW E_X1_isUp := ⟨⟨by decide +kernel, by decide +kernel, by decide +kernel, mem_t (k := 3) (by decide +kernel), ⟨mem_t (k := 301) (by decide +kernel), mem_l (k := 4) (by decide +kernel)⟩⟩, mem_t (k := 302) (by decide +kernel), dc_X1_isUp⟩
theorem w_X1_isChair : MW E_X1_isChair := ⟨⟨by decide +kernel, by decide +kernel, by decide +kernel, mem_t (k := 3) (by decide +kernel), ⟨mem_t (k := 293) (by decide +kernel), mem_l (k := 3) (by decide +kernel)⟩⟩, mem_t (k := 294) (by decide +kernel), dc_X1_isChair⟩
theorem w_X1_isPiece : MW E_X1_isPiece := ⟨⟨by decide +kernel, by decide +kernel, by decide +kernel, mem_t (k := 3) (by decide +kernel), ⟨mem_t (k := 289) (by decide +kernel), mem_l (k := 2) (by decide +kernel)⟩⟩, mem_t (k := 290) (by decide +kernel), dc_X1_isPiece⟩
theorem w_X1_chairsUnder : MW E_X1_chairsUnder := ⟨⟨by decide +kernel, by decide +kernel, by decide +kernel, mem_t (k := 3) (by decide +kernel), ⟨mem_t (k := 305) (by decide +kernel), mem_l (k := 5) (by decide +kernel)⟩⟩, mem_t (k := 306) (by decide +kernel), dc_X1_chairsUnder⟩
theorem w_X1_hasTakenChairUnder : MW E_X1_hasTakenChairUnder := ⟨⟨by decide +kernel, by decide +kernel, by decide +kernel, mem_t (k := 3) (by decide +kernel), ⟨mem_t (k := 317) (by decide +kernel), mem_l (k := 6) (by decide +kernel)⟩⟩, mem_t (k := 318) (by decide +kernel), dc_X1_hasTakenChairUnder⟩
theorem w_X1_chairsThatAre : MW E_X1_chairsThatAre := ⟨⟨by decide +kernel, by decide +kernel, by decide +kernel, mem_t (k := 3) (by decide +kernel), ⟨mem_t (k := 411) (by decide +kernel), mem_l (k := 9) (by decide +kernel)⟩⟩, mem_t (k := 412) (by decide +kernel), dc_X1_chairsThatAre⟩
theorem w_X1_usableIn : MW E_X1_usableIn := ⟨⟨by decide +kernel, by decide +kernel, by decide +kernel, mem_t (k := 3) (by decide +kernel), ⟨mem_t (k := 626) (by decide +kernel), mem_l (k := 20) (by decide +kernel)⟩⟩, mem_t (k := 627) (by decide +kernel), dc_X1_usableIn⟩
theorem w_X1_usableInRow : MW E_X1_usableInRow := ⟨⟨by decide +kernel, by decide +kernel, by decide +kernel, mem_t (k := 3) (by decide +kernel), ⟨mem_t (k := 349) (by decide +kernel), mem_l (k := 7) (by decide +kernel)⟩⟩, mem_t (k := 350) (by decide +kernel), dc_X1_usableInRow⟩
theorem w_X1_hasRoom : MW E_X1_hasRoom := ⟨⟨by decide +kernel, by decide +kernel, by decide +kernel, mem_t (k := 3) (by decide +kernel), mem_t (k := 352) (by decide +kernel)⟩, mem_t (k := 353) (by decide +kernel), dc_X1_hasRoom⟩
theorem w_X1_leftAlone : MW E_X1_leftAlone := ⟨⟨by decide +kernel, by decide +kernel, by decide +kernel, mem_t (k := 3) (by decide +kernel), mem_t (k := 355) (by decide +kernel)⟩, mem_t (k := 356) (by decide +kernel), dc_X1_leftAlone⟩
theorem w_X2_prepare : MW E_X2_prepare := ⟨⟨by decide +kernel, by decide +kernel, by decide +kernel, mem_t (k := 7) (by decide +kernel), ⟨mem_t (k := 229) (by decide +kernel), mem_t (k := 230) (by decide +kernel)⟩⟩, mem_t (k := 231) (by decide +kernel), dc_X2_prepare⟩
theorem w_X2_keepPrepared : MW E_X2_keepPrepared := ⟨⟨by decide +kernel, by decide +kernel, by decide +kernel, mem_t (k := 7) (by decide +kernel), ⟨mem_t (k := 264) (by decide +kernel), mem_t (k := 265) (by decide +kernel)⟩⟩, mem_t (k := 266) (by decide +kernel), dc_X2_keepPrepared⟩
theorem w_X2_takeBack : MW E_X2_takeBack := ⟨⟨by decide +kernel, by decide +kernel, by decide +kernel, mem_t (k := 7) (by decide +kernel), ⟨mem_t (k := 586) (by decide +kernel), mem_t (k := 587) (by decide +kernel)⟩⟩, mem_t (k := 588) (by decide +kernel), dc_X2_takeBack⟩
theorem w_X2_stepBack : MW E_X2_stepBack := ⟨⟨by decide +kernel, by decide +kernel, by decide +kernel, mem_t (k := 7) (by decide +kernel), ⟨mem_t (k := 468) (by decide +kernel), mem_t (k := 469) (by decide +kernel)⟩⟩, mem_t (k := 470) (by decide +kernel), dc_X2_stepBack⟩
theorem w_X3_copyFrom : MW E_X3_copyFrom := ⟨⟨by decide +kernel, by decide +kernel, by decide +kernel, mem_t (k := 5) (by decide +kernel), ⟨mem_t (k := 248) (by decide +kernel), mem_t (k := 249) (by decide +kernel)⟩⟩, mem_t (k := 250) (by decide +kernel), dc_X3_copyFrom⟩
theorem w_X4_addCharacter : MW E_X4_addCharacter := ⟨⟨by decide +kernel, by decide +kernel, by decide +kernel, mem_t (k := 8) (by decide +kernel), ⟨mem_t (k := 476) (by decide +kernel), mem_t (k := 477) (by decide +kernel)⟩⟩, mem_t (k := 478) (by decide +kernel), dc_X4_addCharacter⟩
theorem w_X4_makeEmpty : MW E_X4_makeEmpty := ⟨⟨by decide +kernel, by decide +kernel, by decide +kernel, mem_t (k := 8) (by decide +kernel), ⟨mem_t (k := 484) (by decide +kernel), mem_t (k := 485) (by decide +kernel)⟩⟩, mem_t (k := 486) (by decide +kernel), dc_X4_makeEmpty⟩
theorem w_X4_runOn : MW E_X4_runOn := ⟨⟨by decide +kernel, by decide +kernel, by decide +kernel, mem_t (k := 8) (by decide +kernel), ⟨mem_t (k := 492) (by decide +kernel), mem_t (k := 493) (by decide +kernel)⟩⟩, mem_t (k := 494) (by decide +kernel), dc_X4_runOn⟩
theorem w_X4_runOrder : MW E_X4_runOrder := ⟨⟨by decide +kernel, by decide +kernel, by decide +kernel, mem_t (k := 8) (by decide +kernel), ⟨mem_t (k := 504) (by decide +kernel), mem_l (k := 13) (by decide +kernel)⟩⟩, mem_t (k := 505) (by decide +kernel), dc_X4_runOrder⟩
theorem w_X4_perform : MW E_X4_perform := ⟨⟨by decide +kernel, by decide +kernel, by decide +kernel, mem_t (k := 8) (by decide +kernel), ⟨mem_t (k := 576) (by decide +kernel), mem_l (k := 17) (by decide +kernel)⟩⟩, mem_t (k := 577) (by decide +kernel), dc_X4_perform⟩
theorem w_X4_orderOfToken : MW E_X4_orderOfToken := ⟨⟨by decide +kernel, by decide +kernel, by decide +kernel, mem_t (k := 8) (by decide +kernel), ⟨mem_t (k := 508) (by decide +kernel), mem_l (k := 14) (by decide +kernel)⟩⟩, mem_t (k := 509) (by decide +kernel), dc_X4_orderOfToken⟩
theorem w_X4_readToken : MW E_X4_readToken := ⟨⟨by decide +kernel, by decide +kernel, by decide +kernel, mem_t (k := 8) (by decide +kernel), ⟨mem_t (k := 497) (by decide +kernel), mem_l (k := 12) (by decide +kernel)⟩⟩, mem_t (k := 498) (by decide +kernel), dc_X4_readToken⟩
theorem w_X4_tokenIs : MW E_X4_tokenIs := ⟨⟨by decide +kernel, by decide +kernel, by decide +kernel, mem_t (k := 8) (by decide +kernel), ⟨mem_t (k := 513) (by decide +kernel), mem_l (k := 15) (by decide +kernel)⟩⟩, mem_t (k := 514) (by decide +kernel), dc_X4_tokenIs⟩
theorem w_X4_numberOfToken : MW E_X4_numberOfToken := ⟨⟨by decide +kernel, by decide +kernel, by decide +kernel, mem_t (k := 8) (by decide +kernel), ⟨mem_t (k := 571) (by decide +kernel), mem_l (k := 16) (by decide +kernel)⟩⟩, mem_t (k := 572) (by decide +kernel), dc_X4_numberOfToken⟩
theorem w_X4_kindOf : MW E_X4_kindOf := ⟨⟨by decide +kernel, by decide +kernel, by decide +kernel, mem_t (k := 8) (by decide +kernel), mem_t (k := 500) (by decide +kernel)⟩, mem_t (k := 501) (by decide +kernel), dc_X4_kindOf⟩
theorem w_X5_copyFrom : MW E_X5_copyFrom := ⟨⟨by decide +kernel, by decide +kernel, by decide +kernel, mem_t (k := 2) (by decide +kernel), ⟨mem_t (k := 233) (by decide +kernel), mem_t (k := 234) (by decide +kernel)⟩⟩, mem_t (k := 235) (by decide +kernel), dc_X5_copyFrom⟩
theorem w_X5_makeHold : MW E_X5_makeHold := ⟨⟨by decide +kernel, by decide +kernel, by decide +kernel, mem_t (k := 2) (by decide +kernel), ⟨mem_t (k := 332) (by decide +kernel), mem_t (k := 333) (by decide +kernel)⟩⟩, mem_t (k := 334) (by decide +kernel), dc_X5_makeHold⟩
theorem w_X5_buyHold : MW E_X5_buyHold := ⟨⟨by decide +kernel, by decide +kernel, by decide +kernel, mem_t (k := 2) (by decide +kernel), ⟨mem_t (k := 366) (by decide +kernel), mem_t (k := 367) (by decide +kernel)⟩⟩, mem_t (k := 368) (by decide +kernel), dc_X5_buyHold⟩
theorem w_X5_dropHold : MW E_X5_dropHold := ⟨⟨by decide +kernel, by decide +kernel, by decide +kernel, mem_t (k := 2) (by decide +kernel), ⟨mem_t (k := 382) (by decide +kernel), mem_t (k := 383) (by decide +kernel)⟩⟩, mem_t (k := 384) (by decide +kernel), dc_X5_dropHold⟩
theorem w_X5_returnTicket : MW E_X5_returnTicket := ⟨⟨by decide +kernel, by decide +kernel, by decide +kernel, mem_t (k := 2) (by decide +kernel), ⟨mem_t (k := 390) (by decide +kernel), mem_t (k := 391) (by decide +kernel)⟩⟩, mem_t (k := 392) (by decide +kernel), dc_X5_returnTicket⟩
theorem w_X5_admit : MW E_X5_admit := ⟨⟨by decide +kernel, by decide +kernel, by decide +kernel, mem_t (k := 2) (by decide +kernel), ⟨mem_t (k := 402) (by decide +kernel), mem_t (k := 403) (by decide +kernel)⟩⟩, mem_t (k := 404) (by decide +kernel), dc_X5_admit⟩
theorem w_X5_upgradeTicket : MW E_X5_upgradeTicket := ⟨⟨by decide +kernel, by decide +kernel, by decide +kernel, mem_t (k := 2) (by decide +kernel), ⟨mem_t (k := 418) (by decide +kernel), mem_t (k := 419) (by decide +kernel)⟩⟩, mem_t (k := 420) (by decide +kernel), dc_X5_upgradeTicket⟩
theorem w_X5_moveChain : MW E_X5_moveChain := ⟨⟨by decide +kernel, by decide +kernel, by decide +kernel, mem_t (k := 2) (by decide +kernel), ⟨mem_t (k := 422) (by decide +kernel), mem_t (k := 423) (by decide +kernel)⟩⟩, mem_t (k := 424) (by decide +kernel), dc_X5_moveChain⟩
theorem w_X5_letPass : MW E_X5_letPass := ⟨⟨by decide +kernel, by decide +kernel, by decide +kernel, mem_t (k := 2) (by decide +kernel), ⟨mem_t (k := 452) (by decide +kernel), mem_t (k := 453) (by decide +kernel)⟩⟩, mem_t (k := 454) (by decide +kernel), dc_X5_letPass⟩
theorem w_X5_shutDoors : MW E_X5_shutDoors := ⟨⟨by decide +kernel, by decide +kernel, by decide +kernel, mem_t (k := 2) (by decide +kernel), ⟨mem_t (k := 460) (by decide +kernel), mem_t (k := 461) (by decide +kernel)⟩⟩, mem_t (k := 462) (by decide +kernel), dc_X5_shutDoors⟩
theorem w_X5_numberOf : MW E_X5_numberOf := ⟨⟨by decide +kernel, by decide +kernel, by decide +kernel, mem_t (k := 2) (by decide +kernel), ⟨mem_t (k := 595) (by decide +kernel), mem_t (k := 596) (by decide +kernel)⟩⟩, mem_t (k := 597) (by decide +kernel), dc_X5_numberOf⟩
theorem w_X5_holdFigure : MW E_X5_holdFigure := ⟨⟨by decide +kernel, by decide +kernel, by decide +kernel, mem_t (k := 2) (by decide +kernel), ⟨mem_t (k := 642) (by decide +kernel), mem_t (k := 643) (by decide +kernel)⟩⟩, mem_t (k := 644) (by decide +kernel), dc_X5_holdFigure⟩
theorem w_X5_ticketFigure : MW E_X5_ticketFigure := ⟨⟨by decide +kernel, by decide +kernel, by decide +kernel, mem_t (k := 2) (by decide +kernel), ⟨mem_t (k := 650) (by decide +kernel), mem_t (k := 651) (by decide +kernel)⟩⟩, mem_t (k := 652) (by decide +kernel), dc_X5_ticketFigure⟩
theorem w_X5_minutesToExpiry : MW E_X5_minutesToExpiry := ⟨⟨by decide +kernel, by decide +kernel, by decide +kernel, mem_t (k := 2) (by decide +kernel), ⟨mem_t (k := 689) (by decide +kernel), mem_t (k := 690) (by decide +kernel)⟩⟩, mem_t (k := 691) (by decide +kernel), dc_X5_minutesToExpiry⟩
theorem w_X5_ticketAt : MW E_X5_ticketAt := ⟨⟨by decide +kernel, by decide +kernel, by decide +kernel, mem_t (k := 2) (by decide +kernel), ⟨mem_t (k := 394) (by decide +kernel), mem_t (k := 395) (by decide +kernel)⟩⟩, mem_t (k := 396) (by decide +kernel), dc_X5_ticketAt⟩
theorem w_X5_holdAt : MW E_X5_holdAt := ⟨⟨by decide +kernel, by decide +kernel, by decide +kernel, mem_t (k := 2) (by decide +kernel), ⟨mem_t (k := 371) (by decide +kernel), mem_l (k := 8) (by decide +kernel)⟩⟩, mem_t (k := 372) (by decide +kernel), dc_X5_holdAt⟩
theorem w_X5_moveTicket : MW E_X5_moveTicket := ⟨⟨by decide +kernel, by decide +kernel, by decide +kernel, mem_t (k := 2) (by decide +kernel), ⟨mem_t (k := 436) (by decide +kernel), mem_l (k := 10) (by decide +kernel)⟩⟩, mem_t (k := 437) (by decide +kernel), dc_X5_moveTicket⟩
theorem w_X5_nextMover : MW E_X5_nextMover := ⟨⟨by decide +kernel, by decide +kernel, by decide +kernel, mem_t (k := 2) (by decide +kernel), ⟨mem_t (k := 440) (by decide +kernel), mem_l (k := 11) (by decide +kernel)⟩⟩, mem_t (k := 441) (by decide +kernel), dc_X5_nextMover⟩
theorem w_X5_isWait : MW E_X5_isWait := ⟨⟨by decide +kernel, by decide +kernel, by decide +kernel, mem_t (k := 2) (by decide +kernel), mem_t (k := 340) (by decide +kernel)⟩, mem_t (k := 341) (by decide +kernel), dc_X5_isWait⟩
theorem w_X5_openHolds : MW E_X5_openHolds := ⟨⟨by decide +kernel, by decide +kernel, by decide +kernel, mem_t (k := 2) (by decide +kernel), ⟨mem_t (k := 610) (by decide +kernel), mem_l (k := 18) (by decide +kernel)⟩⟩, mem_t (k := 611) (by decide +kernel), dc_X5_openHolds⟩
theorem w_X5_ticketsThatAre : MW E_X5_ticketsThatAre := ⟨⟨by decide +kernel, by decide +kernel, by decide +kernel, mem_t (k := 2) (by decide +kernel), ⟨mem_t (k := 614) (by decide +kernel), mem_l (k := 19) (by decide +kernel)⟩⟩, mem_t (k := 615) (by decide +kernel), dc_X5_ticketsThatAre⟩
theorem w_X6_copyFrom : MW E_X6_copyFrom := ⟨⟨by decide +kernel, by decide +kernel, by decide +kernel, mem_t (k := 6) (by decide +kernel), ⟨mem_t (k := 252) (by decide +kernel), mem_t (k := 253) (by decide +kernel)⟩⟩, mem_t (k := 254) (by decide +kernel), dc_X6_copyFrom⟩
theorem w_X7_addBlock : MW E_X7_addBlock := ⟨⟨by decide +kernel, by decide +kernel, by decide +kernel, mem_t (k := 1) (by decide +kernel), ⟨mem_t (k := 225) (by decide +kernel), mem_t (k := 226) (by decide +kernel)⟩⟩, mem_t (k := 227) (by decide +kernel), dc_X7_addBlock⟩
theorem w_X7_addStage : MW E_X7_addStage := ⟨⟨by decide +kernel, by decide +kernel, by decide +kernel, mem_t (k := 1) (by decide +kernel), ⟨mem_t (k := 268) (by decide +kernel), mem_t (k := 269) (by decide +kernel)⟩⟩, mem_t (k := 270) (by decide +kernel), dc_X7_addStage⟩
theorem w_X7_addPiece : MW E_X7_addPiece := ⟨⟨by decide +kernel, by decide +kernel, by decide +kernel, mem_t (k := 1) (by decide +kernel), ⟨mem_t (k := 276) (by decide +kernel), mem_t (k := 277) (by decide +kernel)⟩⟩, mem_t (k := 278) (by decide +kernel), dc_X7_addPiece⟩
theorem w_X7_putUp : MW E_X7_putUp := ⟨⟨by decide +kernel, by decide +kernel, by decide +kernel, mem_t (k := 1) (by decide +kernel), ⟨mem_t (k := 308) (by decide +kernel), mem_t (k := 309) (by decide +kernel)⟩⟩, mem_t (k := 310) (by decide +kernel), dc_X7_putUp⟩
theorem w_X7_takeDown : MW E_X7_takeDown := ⟨⟨by decide +kernel, by decide +kernel, by decide +kernel, mem_t (k := 1) (by decide +kernel), ⟨mem_t (k := 320) (by decide +kernel), mem_t (k := 321) (by decide +kernel)⟩⟩, mem_t (k := 322) (by decide +kernel), dc_X7_takeDown⟩
theorem w_X7_hold : MW E_X7_hold := ⟨⟨by decide +kernel, by decide +kernel, by decide +kernel, mem_t (k := 1) (by decide +kernel), ⟨mem_t (k := 328) (by decide +kernel), mem_t (k := 329) (by decide +kernel)⟩⟩, mem_t (k := 330) (by decide +kernel), dc_X7_hold⟩
theorem w_X7_buy : MW E_X7_buy := ⟨⟨by decide +kernel, by decide +kernel, by decide +kernel, mem_t (k := 1) (by decide +kernel), ⟨mem_t (k := 362) (by decide +kernel), mem_t (k := 363) (by decide +kernel)⟩⟩, mem_t (k := 364) (by decide +kernel), dc_X7_buy⟩
theorem w_X7_drop : MW E_X7_drop := ⟨⟨by decide +kernel, by decide +kernel, by decide +kernel, mem_t (k := 1) (by decide +kernel), ⟨mem_t (k := 378) (by decide +kernel), mem_t (k := 379) (by decide +kernel)⟩⟩, mem_t (k := 380) (by decide +kernel), dc_X7_drop⟩
theorem w_X7_giveBack : MW E_X7_giveBack := ⟨⟨by decide +kernel, by decide +kernel, by decide +kernel, mem_t (k := 1) (by decide +kernel), ⟨mem_t (k := 386) (by decide +kernel), mem_t (k := 387) (by decide +kernel)⟩⟩, mem_t (k := 388) (by decide +kernel), dc_X7_giveBack⟩
theorem w_X7_comeIn : MW E_X7_comeIn := ⟨⟨by decide +kernel, by decide +kernel, by decide +kernel, mem_t (k := 1) (by decide +kernel), ⟨mem_t (k := 398) (by decide +kernel), mem_t (k := 399) (by decide +kernel)⟩⟩, mem_t (k := 400) (by decide +kernel), dc_X7_comeIn⟩
theorem w_X7_upgrade : MW E_X7_upgrade := ⟨⟨by decide +kernel, by decide +kernel, by decide +kernel, mem_t (k := 1) (by decide +kernel), ⟨mem_t (k := 414) (by decide +kernel), mem_t (k := 415) (by decide +kernel)⟩⟩, mem_t (k := 416) (by decide +kernel), dc_X7_upgrade⟩
theorem w_X7_pass : MW E_X7_pass := ⟨⟨by decide +kernel, by decide +kernel, by decide +kernel, mem_t (k := 1) (by decide +kernel), ⟨mem_t (k := 448) (by decide +kernel), mem_t (k := 449) (by decide +kernel)⟩⟩, mem_t (k := 450) (by decide +kernel), dc_X7_pass⟩
theorem w_X7_closeDoors : MW E_X7_closeDoors := ⟨⟨by decide +kernel, by decide +kernel, by decide +kernel, mem_t (k := 1) (by decide +kernel), ⟨mem_t (k := 456) (by decide +kernel), mem_t (k := 457) (by decide +kernel)⟩⟩, mem_t (k := 458) (by decide +kernel), dc_X7_closeDoors⟩
theorem w_X7_undo : MW E_X7_undo := ⟨⟨by decide +kernel, by decide +kernel, by decide +kernel, mem_t (k := 1) (by decide +kernel), ⟨mem_t (k := 464) (by decide +kernel), mem_t (k := 465) (by decide +kernel)⟩⟩, mem_t (k := 466) (by decide +kernel), dc_X7_undo⟩
theorem w_X7_append : MW E_X7_append := ⟨⟨by decide +kernel, by decide +kernel, by decide +kernel, mem_t (k := 1) (by decide +kernel), ⟨mem_t (k := 472) (by decide +kernel), mem_t (k := 473) (by decide +kernel)⟩⟩, mem_t (k := 474) (by decide +kernel), dc_X7_append⟩
theorem w_X7_clearText : MW E_X7_clearText := ⟨⟨by decide +kernel, by decide +kernel, by decide +kernel, mem_t (k := 1) (by decide +kernel), ⟨mem_t (k := 480) (by decide +kernel), mem_t (k := 481) (by decide +kernel)⟩⟩, mem_t (k := 482) (by decide +kernel), dc_X7_clearText⟩
theorem w_X7_run : MW E_X7_run := ⟨⟨by decide +kernel, by decide +kernel, by decide +kernel, mem_t (k := 1) (by decide +kernel), ⟨mem_t (k := 488) (by decide +kernel), mem_t (k := 489) (by decide +kernel)⟩⟩, mem_t (k := 490) (by decide +kernel), dc_X7_run⟩
theorem w_X7_count : MW E_X7_count := ⟨⟨by decide +kernel, by decide +kernel, by decide +kernel, mem_t (k := 1) (by decide +kernel), ⟨mem_t (k := 591) (by decide +kernel), mem_t (k := 592) (by decide +kernel)⟩⟩, mem_t (k := 593) (by decide +kernel), dc_X7_count⟩
theorem w_X7_block : MW E_X7_block := ⟨⟨by decide +kernel, by decide +kernel, by decide +kernel, mem_t (k := 1) (by decide +kernel), ⟨mem_t (k := 617) (by decide +kernel), mem_t (k := 618) (by decide +kernel)⟩⟩, mem_t (k := 619) (by decide +kernel), dc_X7_block⟩
theorem w_X7_chair : MW E_X7_chair := ⟨⟨by decide +kernel, by decide +kernel, by decide +kernel, mem_t (k := 1) (by decide +kernel), ⟨mem_t (k := 630) (by decide +kernel), mem_t (k := 631) (by decide +kernel)⟩⟩, mem_t (k := 632) (by decide +kernel), dc_X7_chair⟩
theorem w_X7_holdOf : MW E_X7_holdOf := ⟨⟨by decide +kernel, by decide +kernel, by decide +kernel, mem_t (k := 1) (by decide +kernel), ⟨mem_t (k := 638) (by decide +kernel), mem_t (k := 639) (by decide +kernel)⟩⟩, mem_t (k := 640) (by decide +kernel), dc_X7_holdOf⟩
theorem w_X7_ticket : MW E_X7_ticket := ⟨⟨by decide +kernel, by decide +kernel, by decide +kernel, mem_t (k := 1) (by decide +kernel), ⟨mem_t (k := 646) (by decide +kernel), mem_t (k := 647) (by decide +kernel)⟩⟩, mem_t (k := 648) (by decide +kernel), dc_X7_ticket⟩
theorem w_X7_place : MW E_X7_place := ⟨⟨by decide +kernel, by decide +kernel, by decide +kernel, mem_t (k := 1) (by decide +kernel), ⟨mem_t (k := 654) (by decide +kernel), mem_t (k := 655) (by decide +kernel)⟩⟩, mem_t (k := 656) (by decide +kernel), dc_X7_place⟩
theorem w_X7_wouldKill : MW E_X7_wouldKill := ⟨⟨by decide +kernel, by decide +kernel, by decide +kernel, mem_t (k := 1) (by decide +kernel), ⟨mem_t (k := 661) (by decide +kernel), mem_t (k := 662) (by decide +kernel)⟩⟩, mem_t (k := 663) (by decide +kernel), dc_X7_wouldKill⟩
theorem w_X7_chain : MW E_X7_chain := ⟨⟨by decide +kernel, by decide +kernel, by decide +kernel, mem_t (k := 1) (by decide +kernel), ⟨mem_t (k := 669) (by decide +kernel), mem_t (k := 670) (by decide +kernel)⟩⟩, mem_t (k := 671) (by decide +kernel), dc_X7_chain⟩
theorem w_X7_cheapest : MW E_X7_cheapest := ⟨⟨by decide +kernel, by decide +kernel, by decide +kernel, mem_t (k := 1) (by decide +kernel), ⟨mem_t (k := 676) (by decide +kernel), mem_t (k := 677) (by decide +kernel)⟩⟩, mem_t (k := 678) (by decide +kernel), dc_X7_cheapest⟩
theorem w_X7_nextExpiry : MW E_X7_nextExpiry := ⟨⟨by decide +kernel, by decide +kernel, by decide +kernel, mem_t (k := 1) (by decide +kernel), ⟨mem_t (k := 685) (by decide +kernel), mem_t (k := 686) (by decide +kernel)⟩⟩, mem_t (k := 687) (by decide +kernel), dc_X7_nextExpiry⟩
theorem w_X7_recorded : MW E_X7_recorded := ⟨⟨by decide +kernel, by decide +kernel, by decide +kernel, mem_t (k := 1) (by decide +kernel), ⟨mem_t (k := 261) (by decide +kernel), mem_l (k := 0) (by decide +kernel)⟩⟩, mem_t (k := 262) (by decide +kernel), dc_X7_recorded⟩
theorem w_X8_in : MW E_X8_in := ⟨⟨by decide +kernel, by decide +kernel, by decide +kernel, mem_t (k := 9) (by decide +kernel), mem_t (k := 740) (by decide +kernel)⟩, mem_t (k := 741) (by decide +kernel), dc_X8_in⟩
theorem w_X8_record : MW E_X8_record := ⟨⟨by decide +kernel, by decide +kernel, by decide +kernel, mem_t (k := 9) (by decide +kernel), ⟨mem_t (k := 744) (by decide +kernel), mem_l (k := 21) (by decide +kernel)⟩⟩, mem_t (k := 745) (by decide +kernel), dc_X8_record⟩
theorem w_X8_keep : MW E_X8_keep := ⟨⟨by decide +kernel, by decide +kernel, by decide +kernel, mem_t (k := 9) (by decide +kernel), ⟨mem_t (k := 748) (by decide +kernel), mem_l (k := 22) (by decide +kernel)⟩⟩, mem_t (k := 749) (by decide +kernel), dc_X8_keep⟩
theorem w_X8_of : MW E_X8_of := ⟨⟨by decide +kernel, by decide +kernel, by decide +kernel, mem_t (k := 9) (by decide +kernel), ⟨mem_t (k := 776) (by decide +kernel), mem_l (k := 27) (by decide +kernel)⟩⟩, mem_t (k := 777) (by decide +kernel), dc_X8_of⟩
theorem w_X8_isBlock : MW E_X8_isBlock := ⟨⟨by decide +kernel, by decide +kernel, by decide +kernel, mem_t (k := 9) (by decide +kernel), ⟨mem_t (k := 772) (by decide +kernel), mem_l (k := 26) (by decide +kernel)⟩⟩, mem_t (k := 773) (by decide +kernel), dc_X8_isBlock⟩
theorem w_X8_isStage : MW E_X8_isStage := ⟨⟨by decide +kernel, by decide +kernel, by decide +kernel, mem_t (k := 9) (by decide +kernel), ⟨mem_t (k := 760) (by decide +kernel), mem_l (k := 23) (by decide +kernel)⟩⟩, mem_t (k := 761) (by decide +kernel), dc_X8_isStage⟩
theorem w_X8_isHold : MW E_X8_isHold := ⟨⟨by decide +kernel, by decide +kernel, by decide +kernel, mem_t (k := 9) (by decide +kernel), ⟨mem_t (k := 867) (by decide +kernel), mem_l (k := 45) (by decide +kernel)⟩⟩, mem_t (k := 868) (by decide +kernel), dc_X8_isHold⟩
theorem w_X8_isTicket : MW E_X8_isTicket := ⟨⟨by decide +kernel, by decide +kernel, by decide +kernel, mem_t (k := 9) (by decide +kernel), ⟨mem_t (k := 895) (by decide +kernel), mem_l (k := 50) (by decide +kernel)⟩⟩, mem_t (k := 896) (by decide +kernel), dc_X8_isTicket⟩
theorem w_X8_ofHold : MW E_X8_ofHold := ⟨⟨by decide +kernel, by decide +kernel, by decide +kernel, mem_t (k := 9) (by decide +kernel), ⟨mem_t (k := 871) (by decide +kernel), mem_l (k := 46) (by decide +kernel)⟩⟩, mem_t (k := 872) (by decide +kernel), dc_X8_ofHold⟩
theorem w_X8_ofTicket : MW E_X8_ofTicket := ⟨⟨by decide +kernel, by decide +kernel, by decide +kernel, mem_t (k := 9) (by decide +kernel), ⟨mem_t (k := 899) (by decide +kernel), mem_l (k := 51) (by decide +kernel)⟩⟩, mem_t (k := 900) (by decide +kernel), dc_X8_ofTicket⟩
theorem w_X8_isUp : MW E_X8_isUp := ⟨⟨by decide +kernel, by decide +kernel, by decide +kernel, mem_t (k := 9) (by decide +kernel), ⟨mem_t (k := 780) (by decide +kernel), mem_l (k := 28) (by decide +kernel)⟩⟩, mem_t (k := 781) (by decide +kernel), dc_X8_isUp⟩
theorem w_X8_isChair : MW E_X8_isChair := ⟨⟨by decide +kernel, by decide +kernel, by decide +kernel, mem_t (k := 9) (by decide +kernel), ⟨mem_t (k := 768) (by decide +kernel), mem_l (k := 25) (by decide +kernel)⟩⟩, mem_t (k := 769) (by decide +kernel), dc_X8_isChair⟩
theorem w_X8_atChair : MW E_X8_atChair := ⟨⟨by decide +kernel, by decide +kernel, by decide +kernel, mem_t (k := 9) (by decide +kernel), mem_t (k := 783) (by decide +kernel)⟩, mem_t (k := 784) (by decide +kernel), dc_X8_atChair⟩
theorem w_X8_isWhat : MW E_X8_isWhat := ⟨⟨by decide +kernel, by decide +kernel, by decide +kernel, mem_t (k := 9) (by decide +kernel), ⟨mem_t (k := 799) (by decide +kernel), mem_l (k := 32) (by decide +kernel)⟩⟩, mem_t (k := 800) (by decide +kernel), dc_X8_isWhat⟩
theorem w_X8_isKilled : MW E_X8_isKilled := ⟨⟨by decide +kernel, by decide +kernel, by decide +kernel, mem_t (k := 9) (by decide +kernel), ⟨mem_t (k := 795) (by decide +kernel), mem_l (k := 31) (by decide +kernel)⟩⟩, mem_t (k := 796) (by decide +kernel), dc_X8_isKilled⟩
theorem w_X8_isFor : MW E_X8_isFor := ⟨⟨by decide +kernel, by decide +kernel, by decide +kernel, mem_t (k := 9) (by decide +kernel), ⟨mem_t (k := 791) (by decide +kernel), mem_l (k := 30) (by decide +kernel)⟩⟩, mem_t (k := 792) (by decide +kernel), dc_X8_isFor⟩
theorem w_X8_become : MW E_X8_become := ⟨⟨by decide +kernel, by decide +kernel, by decide +kernel, mem_t (k := 9) (by decide +kernel), ⟨mem_t (k := 855) (by decide +kernel), mem_l (k := 43) (by decide +kernel)⟩⟩, mem_t (k := 856) (by decide +kernel), dc_X8_become⟩
theorem w_X8_isOpen : MW E_X8_isOpen := ⟨⟨by decide +kernel, by decide +kernel, by decide +kernel, mem_t (k := 9) (by decide +kernel), ⟨mem_t (k := 847) (by decide +kernel), mem_l (k := 41) (by decide +kernel)⟩⟩, mem_t (k := 848) (by decide +kernel), dc_X8_isOpen⟩
theorem w_X8_areOpen : MW E_X8_areOpen := ⟨⟨by decide +kernel, by decide +kernel, by decide +kernel, mem_t (k := 9) (by decide +kernel), ⟨mem_t (k := 843) (by decide +kernel), mem_l (k := 40) (by decide +kernel)⟩⟩, mem_t (k := 844) (by decide +kernel), dc_X8_areOpen⟩
theorem w_X8_leftAlone : MW E_X8_leftAlone := ⟨⟨by decide +kernel, by decide +kernel, by decide +kernel, mem_t (k := 9) (by decide +kernel), ⟨mem_t (k := 851) (by decide +kernel), mem_l (k := 42) (by decide +kernel)⟩⟩, mem_t (k := 852) (by decide +kernel), dc_X8_leftAlone⟩
theorem w_X8_placeIn : MW E_X8_placeIn := ⟨⟨by decide +kernel, by decide +kernel, by decide +kernel, mem_t (k := 9) (by decide +kernel), ⟨mem_t (k := 839) (by decide +kernel), mem_l (k := 39) (by decide +kernel)⟩⟩, mem_t (k := 840) (by decide +kernel), dc_X8_placeIn⟩
theorem w_X8_rank : MW E_X8_rank := ⟨⟨by decide +kernel, by decide +kernel, by decide +kernel, mem_t (k := 9) (by decide +kernel), ⟨mem_t (k := 923) (by decide +kernel), mem_l (k := 55) (by decide +kernel)⟩⟩, mem_t (k := 924) (by decide +kernel), dc_X8_rank⟩
theorem w_X8_counted : MW E_X8_counted := ⟨⟨by decide +kernel, by decide +kernel, by decide +kernel, mem_t (k := 9) (by decide +kernel), ⟨mem_t (k := 819) (by decide +kernel), mem_l (k := 36) (by decide +kernel)⟩⟩, mem_t (k := 820) (by decide +kernel), dc_X8_counted⟩
theorem w_X8_countedAll : MW E_X8_countedAll := ⟨⟨by decide +kernel, by decide +kernel, by decide +kernel, mem_t (k := 9) (by decide +kernel), ⟨mem_t (k := 815) (by decide +kernel), mem_l (k := 35) (by decide +kernel)⟩⟩, mem_t (k := 816) (by decide +kernel), dc_X8_countedAll⟩
theorem w_X8_addBlock : MW E_X8_addBlock := ⟨⟨by decide +kernel, by decide +kernel, by decide +kernel, mem_t (k := 9) (by decide +kernel), ⟨mem_t (k := 736) (by decide +kernel), mem_t (k := 737) (by decide +kernel)⟩⟩, mem_t (k := 738) (by decide +kernel), dc_X8_addBlock⟩
theorem w_X8_addStage : MW E_X8_addStage := ⟨⟨by decide +kernel, by decide +kernel, by decide +kernel, mem_t (k := 9) (by decide +kernel), ⟨mem_t (k := 751) (by decide +kernel), mem_t (k := 752) (by decide +kernel)⟩⟩, mem_t (k := 753) (by decide +kernel), dc_X8_addStage⟩
theorem w_X8_isPiece : MW E_X8_isPiece := ⟨⟨by decide +kernel, by decide +kernel, by decide +kernel, mem_t (k := 9) (by decide +kernel), ⟨mem_t (k := 764) (by decide +kernel), mem_l (k := 24) (by decide +kernel)⟩⟩, mem_t (k := 765) (by decide +kernel), dc_X8_isPiece⟩
theorem w_X8_killedBy : MW E_X8_killedBy := ⟨⟨by decide +kernel, by decide +kernel, by decide +kernel, mem_t (k := 9) (by decide +kernel), ⟨mem_t (k := 787) (by decide +kernel), mem_l (k := 29) (by decide +kernel)⟩⟩, mem_t (k := 788) (by decide +kernel), dc_X8_killedBy⟩
theorem w_X8_addPiece : MW E_X8_addPiece := ⟨⟨by decide +kernel, by decide +kernel, by decide +kernel, mem_t (k := 9) (by decide +kernel), ⟨mem_t (k := 755) (by decide +kernel), mem_t (k := 756) (by decide +kernel)⟩⟩, mem_t (k := 757) (by decide +kernel), dc_X8_addPiece⟩
theorem w_X8_puts : MW E_X8_puts := ⟨⟨by decide +kernel, by decide +kernel, by decide +kernel, mem_t (k := 9) (by decide +kernel), ⟨mem_t (k := 811) (by decide +kernel), mem_l (k := 34) (by decide +kernel)⟩⟩, mem_t (k := 812) (by decide +kernel), dc_X8_puts⟩
theorem w_X8_acted : MW E_X8_acted := ⟨⟨by decide +kernel, by decide +kernel, by decide +kernel, mem_t (k := 9) (by decide +kernel), ⟨mem_t (k := 823) (by decide +kernel), mem_l (k := 37) (by decide +kernel)⟩⟩, mem_t (k := 824) (by decide +kernel), dc_X8_acted⟩
theorem w_X8_aside : MW E_X8_aside := ⟨⟨by decide +kernel, by decide +kernel, by decide +kernel, mem_t (k := 9) (by decide +kernel), ⟨mem_t (k := 807) (by decide +kernel), mem_l (k := 33) (by decide +kernel)⟩⟩, mem_t (k := 808) (by decide +kernel), dc_X8_aside⟩
theorem w_X8_putUp : MW E_X8_putUp := ⟨⟨by decide +kernel, by decide +kernel, by decide +kernel, mem_t (k := 9) (by decide +kernel), ⟨mem_t (k := 802) (by decide +kernel), mem_t (k := 803) (by decide +kernel)⟩⟩, mem_t (k := 804) (by decide +kernel), dc_X8_putUp⟩
theorem w_X8_takeDown : MW E_X8_takeDown := ⟨⟨by decide +kernel, by decide +kernel, by decide +kernel, mem_t (k := 9) (by decide +kernel), ⟨mem_t (k := 826) (by decide +kernel), mem_t (k := 827) (by decide +kernel)⟩⟩, mem_t (k := 828) (by decide +kernel), dc_X8_takeDown⟩
theorem w_X8_holds : MW E_X8_holds := ⟨⟨by decide +kernel, by decide +kernel, by decide +kernel, mem_t (k := 9) (by decide +kernel), ⟨mem_t (k := 835) (by decide +kernel), mem_l (k := 38) (by decide +kernel)⟩⟩, mem_t (k := 836) (by decide +kernel), dc_X8_holds⟩
theorem w_X8_hold : MW E_X8_hold := ⟨⟨by decide +kernel, by decide +kernel, by decide +kernel, mem_t (k := 9) (by decide +kernel), ⟨mem_t (k := 830) (by decide +kernel), mem_t (k := 831) (by decide +kernel)⟩⟩, mem_t (k := 832) (by decide +kernel), dc_X8_hold⟩
theorem w_X8_buys : MW E_X8_buys := ⟨⟨by decide +kernel, by decide +kernel, by decide +kernel, mem_t (k := 9) (by decide +kernel), ⟨mem_t (k := 863) (by decide +kernel), mem_l (k := 44) (by decide +kernel)⟩⟩, mem_t (k := 864) (by decide +kernel), dc_X8_buys⟩
theorem w_X8_buy : MW E_X8_buy := ⟨⟨by decide +kernel, by decide +kernel, by decide +kernel, mem_t (k := 9) (by decide +kernel), ⟨mem_t (k := 858) (by decide +kernel), mem_t (k := 859) (by decide +kernel)⟩⟩, mem_t (k := 860) (by decide +kernel), dc_X8_buy⟩
theorem w_X8_drops : MW E_X8_drops := ⟨⟨by decide +kernel, by decide +kernel, by decide +kernel, mem_t (k := 9) (by decide +kernel), ⟨mem_t (k := 879) (by decide +kernel), mem_l (k := 47) (by decide +kernel)⟩⟩, mem_t (k := 880) (by decide +kernel), dc_X8_drops⟩
theorem w_X8_drop : MW E_X8_drop := ⟨⟨by decide +kernel, by decide +kernel, by decide +kernel, mem_t (k := 9) (by decide +kernel), ⟨mem_t (k := 874) (by decide +kernel), mem_t (k := 875) (by decide +kernel)⟩⟩, mem_t (k := 876) (by decide +kernel), dc_X8_drop⟩
theorem w_X8_ends : MW E_X8_ends := ⟨⟨by decide +kernel, by decide +kernel, by decide +kernel, mem_t (k := 9) (by decide +kernel), ⟨mem_t (k := 903) (by decide +kernel), mem_l (k := 52) (by decide +kernel)⟩⟩, mem_t (k := 904) (by decide +kernel), dc_X8_ends⟩
theorem w_X8_whyNot : MW E_X8_whyNot := ⟨⟨by decide +kernel, by decide +kernel, by decide +kernel, mem_t (k := 9) (by decide +kernel), ⟨mem_t (k := 891) (by decide +kernel), mem_l (k := 49) (by decide +kernel)⟩⟩, mem_t (k := 892) (by decide +kernel), dc_X8_whyNot⟩
theorem w_X8_givesBack : MW E_X8_givesBack := ⟨⟨by decide +kernel, by decide +kernel, by decide +kernel, mem_t (k := 9) (by decide +kernel), ⟨mem_t (k := 887) (by decide +kernel), mem_l (k := 48) (by decide +kernel)⟩⟩, mem_t (k := 888) (by decide +kernel), dc_X8_givesBack⟩
theorem w_X8_giveBack : MW E_X8_giveBack := ⟨⟨by decide +kernel, by decide +kernel, by decide +kernel, mem_t (k := 9) (by decide +kernel), ⟨mem_t (k := 882) (by decide +kernel), mem_t (k := 883) (by decide +kernel)⟩⟩, mem_t (k := 884) (by decide +kernel), dc_X8_giveBack⟩
theorem w_X8_comes : MW E_X8_comes := ⟨⟨by decide +kernel, by decide +kernel, by decide +kernel, mem_t (k := 9) (by decide +kernel), ⟨mem_t (k := 911) (by decide +kernel), mem_l (k := 53) (by decide +kernel)⟩⟩, mem_t (k := 912) (by decide +kernel), dc_X8_comes⟩
theorem w_X8_comeIn : MW E_X8_comeIn := ⟨⟨by decide +kernel, by decide +kernel, by decide +kernel, mem_t (k := 9) (by decide +kernel), ⟨mem_t (k := 906) (by decide +kernel), mem_t (k := 907) (by decide +kernel)⟩⟩, mem_t (k := 908) (by decide +kernel), dc_X8_comeIn⟩
theorem w_X8_better : MW E_X8_better := ⟨⟨by decide +kernel, by decide +kernel, by decide +kernel, mem_t (k := 9) (by decide +kernel), ⟨mem_t (k := 919) (by decide +kernel), mem_l (k := 54) (by decide +kernel)⟩⟩, mem_t (k := 920) (by decide +kernel), dc_X8_better⟩
theorem w_X8_moves : MW E_X8_moves := ⟨⟨by decide +kernel, by decide +kernel, by decide +kernel, mem_t (k := 9) (by decide +kernel), ⟨mem_t (k := 931) (by decide +kernel), mem_l (k := 57) (by decide +kernel)⟩⟩, mem_t (k := 932) (by decide +kernel), dc_X8_moves⟩
theorem w_X8_follower : MW E_X8_follower := ⟨⟨by decide +kernel, by decide +kernel, by decide +kernel, mem_t (k := 9) (by decide +kernel), ⟨mem_t (k := 935) (by decide +kernel), mem_l (k := 58) (by decide +kernel)⟩⟩, mem_t (k := 936) (by decide +kernel), dc_X8_follower⟩
theorem w_X8_chains : MW E_X8_chains := ⟨⟨by decide +kernel, by decide +kernel, by decide +kernel, mem_t (k := 9) (by decide +kernel), ⟨mem_t (k := 927) (by decide +kernel), mem_l (k := 56) (by decide +kernel)⟩⟩, mem_t (k := 928) (by decide +kernel), dc_X8_chains⟩
theorem w_X8_upgrade : MW E_X8_upgrade := ⟨⟨by decide +kernel, by decide +kernel, by decide +kernel, mem_t (k := 9) (by decide +kernel), ⟨mem_t (k := 914) (by decide +kernel), mem_t (k := 915) (by decide +kernel)⟩⟩, mem_t (k := 916) (by decide +kernel), dc_X8_upgrade⟩
theorem w_X8_passes : MW E_X8_passes := ⟨⟨by decide +kernel, by decide +kernel, by decide +kernel, mem_t (k := 9) (by decide +kernel), ⟨mem_t (k := 943) (by decide +kernel), mem_l (k := 59) (by decide +kernel)⟩⟩, mem_t (k := 944) (by decide +kernel), dc_X8_passes⟩
theorem w_X8_pass : MW E_X8_pass := ⟨⟨by decide +kernel, by decide +kernel, by decide +kernel, mem_t (k := 9) (by decide +kernel), ⟨mem_t (k := 938) (by decide +kernel), mem_t (k := 939) (by decide +kernel)⟩⟩, mem_t (k := 940) (by decide +kernel), dc_X8_pass⟩
theorem w_X8_closeDoors : MW E_X8_closeDoors := ⟨⟨by decide +kernel, by decide +kernel, by decide +kernel, mem_t (k := 9) (by decide +kernel), ⟨mem_t (k := 946) (by decide +kernel), mem_t (k := 947) (by decide +kernel)⟩⟩, mem_t (k := 948) (by decide +kernel), dc_X8_closeDoors⟩
theorem w_X8_undo : MW E_X8_undo := ⟨⟨by decide +kernel, by decide +kernel, by decide +kernel, mem_t (k := 9) (by decide +kernel), ⟨mem_t (k := 950) (by decide +kernel), mem_t (k := 951) (by decide +kernel)⟩⟩, mem_t (k := 952) (by decide +kernel), dc_X8_undo⟩
theorem w_X8_append : MW E_X8_append := ⟨⟨by decide +kernel, by decide +kernel, by decide +kernel, mem_t (k := 9) (by decide +kernel), ⟨mem_t (k := 954) (by decide +kernel), mem_t (k := 955) (by decide +kernel)⟩⟩, mem_t (k := 956) (by decide +kernel), dc_X8_append⟩
theorem w_X8_clearText : MW E_X8_clearText := ⟨⟨by decide +kernel, by decide +kernel, by decide +kernel, mem_t (k := 9) (by decide +kernel), ⟨mem_t (k := 958) (by decide +kernel), mem_t (k := 959) (by decide +kernel)⟩⟩, mem_t (k := 960) (by decide +kernel), dc_X8_clearText⟩
theorem w_X8_byteAt : MW E_X8_byteAt := ⟨⟨by decide +kernel, by decide +kernel, by decide +kernel, mem_t (k := 9) (by decide +kernel), ⟨mem_t (k := 971) (by decide +kernel), mem_l (k := 61) (by decide +kernel)⟩⟩, mem_t (k := 972) (by decide +kernel), dc_X8_byteAt⟩
theorem w_X8_isLetter : MW E_X8_isLetter := ⟨⟨by decide +kernel, by decide +kernel, by decide +kernel, mem_t (k := 9) (by decide +kernel), ⟨mem_t (k := 975) (by decide +kernel), mem_l (k := 62) (by decide +kernel)⟩⟩, mem_t (k := 976) (by decide +kernel), dc_X8_isLetter⟩
theorem w_X8_isFigure : MW E_X8_isFigure := ⟨⟨by decide +kernel, by decide +kernel, by decide +kernel, mem_t (k := 9) (by decide +kernel), ⟨mem_t (k := 979) (by decide +kernel), mem_l (k := 63) (by decide +kernel)⟩⟩, mem_t (k := 980) (by decide +kernel), dc_X8_isFigure⟩
theorem w_X8_next : MW E_X8_next := ⟨⟨by decide +kernel, by decide +kernel, by decide +kernel, mem_t (k := 9) (by decide +kernel), ⟨mem_t (k := 967) (by decide +kernel), mem_l (k := 60) (by decide +kernel)⟩⟩, mem_t (k := 968) (by decide +kernel), dc_X8_next⟩
theorem w_X8_word : MW E_X8_word := ⟨⟨by decide +kernel, by decide +kernel, by decide +kernel, mem_t (k := 9) (by decide +kernel), ⟨mem_t (k := 987) (by decide +kernel), mem_l (k := 65) (by decide +kernel)⟩⟩, mem_t (k := 988) (by decide +kernel), dc_X8_word⟩
theorem w_X8_orderBy : MW E_X8_orderBy := ⟨⟨by decide +kernel, by decide +kernel, by decide +kernel, mem_t (k := 9) (by decide +kernel), ⟨mem_t (k := 991) (by decide +kernel), mem_l (k := 66) (by decide +kernel)⟩⟩, mem_t (k := 992) (by decide +kernel), dc_X8_orderBy⟩
theorem w_X8_isNumber : MW E_X8_isNumber := ⟨⟨by decide +kernel, by decide +kernel, by decide +kernel, mem_t (k := 9) (by decide +kernel), ⟨mem_t (k := 1002) (by decide +kernel), mem_l (k := 67) (by decide +kernel)⟩⟩, mem_t (k := 1003) (by decide +kernel), dc_X8_isNumber⟩
theorem w_X8_value : MW E_X8_value := ⟨⟨by decide +kernel, by decide +kernel, by decide +kernel, mem_t (k := 9) (by decide +kernel), ⟨mem_t (k := 1006) (by decide +kernel), mem_l (k := 68) (by decide +kernel)⟩⟩, mem_t (k := 1007) (by decide +kernel), dc_X8_value⟩
theorem w_X8_done : MW E_X8_done := ⟨⟨by decide +kernel, by decide +kernel, by decide +kernel, mem_t (k := 9) (by decide +kernel), ⟨mem_t (k := 1010) (by decide +kernel), mem_l (k := 69) (by decide +kernel)⟩⟩, mem_t (k := 1011) (by decide +kernel), dc_X8_done⟩
theorem w_X8_fails : MW E_X8_fails := ⟨⟨by decide +kernel, by decide +kernel, by decide +kernel, mem_t (k := 9) (by decide +kernel), ⟨mem_t (k := 983) (by decide +kernel), mem_l (k := 64) (by decide +kernel)⟩⟩, mem_t (k := 984) (by decide +kernel), dc_X8_fails⟩
theorem w_X8_run : MW E_X8_run := ⟨⟨by decide +kernel, by decide +kernel, by decide +kernel, mem_t (k := 9) (by decide +kernel), ⟨mem_t (k := 962) (by decide +kernel), mem_t (k := 963) (by decide +kernel)⟩⟩, mem_t (k := 964) (by decide +kernel), dc_X8_run⟩
theorem w_X8_many : MW E_X8_many := ⟨⟨by decide +kernel, by decide +kernel, by decide +kernel, mem_t (k := 9) (by decide +kernel), ⟨mem_t (k := 1018) (by decide +kernel), mem_l (k := 70) (by decide +kernel)⟩⟩, mem_t (k := 1019) (by decide +kernel), dc_X8_many⟩
theorem w_X8_count : MW E_X8_count := ⟨⟨by decide +kernel, by decide +kernel, by decide +kernel, mem_t (k := 9) (by decide +kernel), ⟨mem_t (k := 1013) (by decide +kernel), mem_t (k := 1014) (by decide +kernel)⟩⟩, mem_t (k := 1015) (by decide +kernel), dc_X8_count⟩
theorem w_X8_greatest : MW E_X8_greatest := ⟨⟨by decide +kernel, by decide +kernel, by decide +kernel, mem_t (k := 9) (by decide +kernel), ⟨mem_t (k := 1026) (by decide +kernel), mem_l (k := 71) (by decide +kernel)⟩⟩, mem_t (k := 1027) (by decide +kernel), dc_X8_greatest⟩
theorem w_X8_block : MW E_X8_block := ⟨⟨by decide +kernel, by decide +kernel, by decide +kernel, mem_t (k := 9) (by decide +kernel), ⟨mem_t (k := 1021) (by decide +kernel), mem_t (k := 1022) (by decide +kernel)⟩⟩, mem_t (k := 1023) (by decide +kernel), dc_X8_block⟩
theorem w_X8_chair : MW E_X8_chair := ⟨⟨by decide +kernel, by decide +kernel, by decide +kernel, mem_t (k := 9) (by decide +kernel), ⟨mem_t (k := 1029) (by decide +kernel), mem_t (k := 1030) (by decide +kernel)⟩⟩, mem_t (k := 1031) (by decide +kernel), dc_X8_chair⟩
theorem w_X8_holdOf : MW E_X8_holdOf := ⟨⟨by decide +kernel, by decide +kernel, by decide +kernel, mem_t (k := 9) (by decide +kernel), ⟨mem_t (k := 1033) (by decide +kernel), mem_t (k := 1034) (by decide +kernel)⟩⟩, mem_t (k := 1035) (by decide +kernel), dc_X8_holdOf⟩
theorem w_X8_ticket : MW E_X8_ticket := ⟨⟨by decide +kernel, by decide +kernel, by decide +kernel, mem_t (k := 9) (by decide +kernel), ⟨mem_t (k := 1037) (by decide +kernel), mem_t (k := 1038) (by decide +kernel)⟩⟩, mem_t (k := 1039) (by decide +kernel), dc_X8_ticket⟩
theorem w_X8_place : MW E_X8_place := ⟨⟨by decide +kernel, by decide +kernel, by decide +kernel, mem_t (k := 9) (by decide +kernel), ⟨mem_t (k := 1041) (by decide +kernel), mem_t (k := 1042) (by decide +kernel)⟩⟩, mem_t (k := 1043) (by decide +kernel), dc_X8_place⟩
theorem w_X8_wouldKill : MW E_X8_wouldKill := ⟨⟨by decide +kernel, by decide +kernel, by decide +kernel, mem_t (k := 9) (by decide +kernel), ⟨mem_t (k := 1045) (by decide +kernel), mem_t (k := 1046) (by decide +kernel)⟩⟩, mem_t (k := 1047) (by decide +kernel), dc_X8_wouldKill⟩
theorem w_X8_chain : MW E_X8_chain := ⟨⟨by decide +kernel, by decide +kernel, by decide +kernel, mem_t (k := 9) (by decide +kernel), ⟨mem_t (k := 1049) (by decide +kernel), mem_t (k := 1050) (by decide +kernel)⟩⟩, mem_t (k := 1051) (by decide +kernel), dc_X8_chain⟩
theorem w_X8_cheapest : MW E_X8_cheapest := ⟨⟨by decide +kernel, by decide +kernel, by decide +kernel, mem_t (k := 9) (by decide +kernel), ⟨mem_t (k := 1053) (by decide +kernel), mem_t (k := 1054) (by decide +kernel)⟩⟩, mem_t (k := 1055) (by decide +kernel), dc_X8_cheapest⟩
theorem w_X8_nextExpiry : MW E_X8_nextExpiry := ⟨⟨by decide +kernel, by decide +kernel, by decide +kernel, mem_t (k := 9) (by decide +kernel), ⟨mem_t (k := 1057) (by decide +kernel), mem_t (k := 1058) (by decide +kernel)⟩⟩, mem_t (k := 1059) (by decide +kernel), dc_X8_nextExpiry⟩
theorem w_J6_bitCount_0f7a4 : MW E_J6_bitCount_0f7a4 := ⟨⟨by decide +kernel, by decide +kernel, by decide +kernel, mem_t (k := 15) (by decide +kernel), mem_t (k := 603) (by decide +kernel)⟩, mem_t (k := 604) (by decide +kernel), dc_J6_bitCount_0f7a4⟩
theorem mw_at : ∀ z, z < 178 → ∀ e, nth MT z = some e → MW e
  | 0, _, e, h => by cases h; exact w_X0_copyFrom
  | 1, _, e, h => by cases h; exact w_X1_copyFrom
  | 2, _, e, h => by cases h; exact w_X1_makeBlock
  | 3, _, e, h => by cases h; exact w_X1_makeStage
  | 4, _, e, h => by cases h; exact w_X1_makePiece
  | 5, _, e, h => by cases h; exact w_X1_raiseStage
  | 6, _, e, h => by cases h; exact w_X1_lowerStage
  | 7, _, e, h => by cases h; exact w_X1_newlyKilled
  | 8, _, e, h => by cases h; exact w_X1_stagesThatAreUp
  | 9, _, e, h => by cases h; exact w_X1_blockAt
  | 10, _, e, h => by cases h; exact w_X1_rankOf
  | 11, _, e, h => by cases h; exact w_X1_priceOf
  | 12, _, e, h => by cases h; exact w_X1_chairFigure
  | 13, _, e, h => by cases h; exact w_X1_blockFigure
  | 14, _, e, h => by cases h; exact w_X1_chairsIn
  | 15, _, e, h => by cases h; exact w_X1_mark
  | 16, _, e, h => by cases h; exact w_X1_findPlace
  | 17, _, e, h => by cases h; exact w_X1_greatestGroup
  | 18, _, e, h => by cases h; exact w_X1_cheapestFor
  | 19, _, e, h => by cases h; exact w_X1_upgradeFor
  | 20, _, e, h => by cases h; exact w_X1_isGroup
  | 21, _, e, h => by cases h; exact w_X1_isStage
  | 22, _, e, h => by cases h; exact w_X1_isUp
  | 23, _, e, h => by cases h; exact w_X1_isChair
  | 24, _, e, h => by cases h; exact w_X1_isPiece
  | 25, _, e, h => by cases h; exact w_X1_chairsUnder
  | 26, _, e, h => by cases h; exact w_X1_hasTakenChairUnder
  | 27, _, e, h => by cases h; exact w_X1_chairsThatAre
  | 28, _, e, h => by cases h; exact w_X1_usableIn
  | 29, _, e, h => by cases h; exact w_X1_usableInRow
  | 30, _, e, h => by cases h; exact w_X1_hasRoom
  | 31, _, e, h => by cases h; exact w_X1_leftAlone
  | 32, _, e, h => by cases h; exact w_X2_prepare
  | 33, _, e, h => by cases h; exact w_X2_keepPrepared
  | 34, _, e, h => by cases h; exact w_X2_takeBack
  | 35, _, e, h => by cases h; exact w_X2_stepBack
  | 36, _, e, h => by cases h; exact w_X3_copyFrom
  | 37, _, e, h => by cases h; exact w_X4_addCharacter
  | 38, _, e, h => by cases h; exact w_X4_makeEmpty
  | 39, _, e, h => by cases h; exact w_X4_runOn
  | 40, _, e, h => by cases h; exact w_X4_runOrder
  | 41, _, e, h => by cases h; exact w_X4_perform
  | 42, _, e, h => by cases h; exact w_X4_orderOfToken
  | 43, _, e, h => by cases h; exact w_X4_readToken
  | 44, _, e, h => by cases h; exact w_X4_tokenIs
  | 45, _, e, h => by cases h; exact w_X4_numberOfToken
  | 46, _, e, h => by cases h; exact w_X4_kindOf
  | 47, _, e, h => by cases h; exact w_X5_copyFrom
  | 48, _, e, h => by cases h; exact w_X5_makeHold
  | 49, _, e, h => by cases h; exact w_X5_buyHold
  | 50, _, e, h => by cases h; exact w_X5_dropHold
  | 51, _, e, h => by cases h; exact w_X5_returnTicket
  | 52, _, e, h => by cases h; exact w_X5_admit
  | 53, _, e, h => by cases h; exact w_X5_upgradeTicket
  | 54, _, e, h => by cases h; exact w_X5_moveChain
  | 55, _, e, h => by cases h; exact w_X5_letPass
  | 56, _, e, h => by cases h; exact w_X5_shutDoors
  | 57, _, e, h => by cases h; exact w_X5_numberOf
  | 58, _, e, h => by cases h; exact w_X5_holdFigure
  | 59, _, e, h => by cases h; exact w_X5_ticketFigure
  | 60, _, e, h => by cases h; exact w_X5_minutesToExpiry
  | 61, _, e, h => by cases h; exact w_X5_ticketAt
  | 62, _, e, h => by cases h; exact w_X5_holdAt
  | 63, _, e, h => by cases h; exact w_X5_moveTicket
  | 64, _, e, h => by cases h; exact w_X5_nextMover
  | 65, _, e, h => by cases h; exact w_X5_isWait
  | 66, _, e, h => by cases h; exact w_X5_openHolds
  | 67, _, e, h => by cases h; exact w_X5_ticketsThatAre
  | 68, _, e, h => by cases h; exact w_X6_copyFrom
  | 69, _, e, h => by cases h; exact w_X7_addBlock
  | 70, _, e, h => by cases h; exact w_X7_addStage
  | 71, _, e, h => by cases h; exact w_X7_addPiece
  | 72, _, e, h => by cases h; exact w_X7_putUp
  | 73, _, e, h => by cases h; exact w_X7_takeDown
  | 74, _, e, h => by cases h; exact w_X7_hold
  | 75, _, e, h => by cases h; exact w_X7_buy
  | 76, _, e, h => by cases h; exact w_X7_drop
  | 77, _, e, h => by cases h; exact w_X7_giveBack
  | 78, _, e, h => by cases h; exact w_X7_comeIn
  | 79, _, e, h => by cases h; exact w_X7_upgrade
  | 80, _, e, h => by cases h; exact w_X7_pass
  | 81, _, e, h => by cases h; exact w_X7_closeDoors
  | 82, _, e, h => by cases h; exact w_X7_undo
  | 83, _, e, h => by cases h; exact w_X7_append
  | 84, _, e, h => by cases h; exact w_X7_clearText
  | 85, _, e, h => by cases h; exact w_X7_run
  | 86, _, e, h => by cases h; exact w_X7_count
  | 87, _, e, h => by cases h; exact w_X7_block
  | 88, _, e, h => by cases h; exact w_X7_chair
  | 89, _, e, h => by cases h; exact w_X7_holdOf
  | 90, _, e, h => by cases h; exact w_X7_ticket
  | 91, _, e, h => by cases h; exact w_X7_place
  | 92, _, e, h => by cases h; exact w_X7_wouldKill
  | 93, _, e, h => by cases h; exact w_X7_chain
  | 94, _, e, h => by cases h; exact w_X7_cheapest
  | 95, _, e, h => by cases h; exact w_X7_nextExpiry
  | 96, _, e, h => by cases h; exact w_X7_recorded
  | 97, _, e, h => by cases h; exact w_X8_in
  | 98, _, e, h => by cases h; exact w_X8_record
  | 99, _, e, h => by cases h; exact w_X8_keep
  | 100, _, e, h => by cases h; exact w_X8_of
  | 101, _, e, h => by cases h; exact w_X8_isBlock
  | 102, _, e, h => by cases h; exact w_X8_isStage
  | 103, _, e, h => by cases h; exact w_X8_isHold
  | 104, _, e, h => by cases h; exact w_X8_isTicket
  | 105, _, e, h => by cases h; exact w_X8_ofHold
  | 106, _, e, h => by cases h; exact w_X8_ofTicket
  | 107, _, e, h => by cases h; exact w_X8_isUp
  | 108, _, e, h => by cases h; exact w_X8_isChair
  | 109, _, e, h => by cases h; exact w_X8_atChair
  | 110, _, e, h => by cases h; exact w_X8_isWhat
  | 111, _, e, h => by cases h; exact w_X8_isKilled
  | 112, _, e, h => by cases h; exact w_X8_isFor
  | 113, _, e, h => by cases h; exact w_X8_become
  | 114, _, e, h => by cases h; exact w_X8_isOpen
  | 115, _, e, h => by cases h; exact w_X8_areOpen
  | 116, _, e, h => by cases h; exact w_X8_leftAlone
  | 117, _, e, h => by cases h; exact w_X8_placeIn
  | 118, _, e, h => by cases h; exact w_X8_rank
  | 119, _, e, h => by cases h; exact w_X8_counted
  | 120, _, e, h => by cases h; exact w_X8_countedAll
  | 121, _, e, h => by cases h; exact w_X8_addBlock
  | 122, _, e, h => by cases h; exact w_X8_addStage
  | 123, _, e, h => by cases h; exact w_X8_isPiece
  | 124, _, e, h => by cases h; exact w_X8_killedBy
  | 125, _, e, h => by cases h; exact w_X8_addPiece
  | 126, _, e, h => by cases h; exact w_X8_puts
  | 127, _, e, h => by cases h; exact w_X8_acted
  | 128, _, e, h => by cases h; exact w_X8_aside
  | 129, _, e, h => by cases h; exact w_X8_putUp
  | 130, _, e, h => by cases h; exact w_X8_takeDown
  | 131, _, e, h => by cases h; exact w_X8_holds
  | 132, _, e, h => by cases h; exact w_X8_hold
  | 133, _, e, h => by cases h; exact w_X8_buys
  | 134, _, e, h => by cases h; exact w_X8_buy
  | 135, _, e, h => by cases h; exact w_X8_drops
  | 136, _, e, h => by cases h; exact w_X8_drop
  | 137, _, e, h => by cases h; exact w_X8_ends
  | 138, _, e, h => by cases h; exact w_X8_whyNot
  | 139, _, e, h => by cases h; exact w_X8_givesBack
  | 140, _, e, h => by cases h; exact w_X8_giveBack
  | 141, _, e, h => by cases h; exact w_X8_comes
  | 142, _, e, h => by cases h; exact w_X8_comeIn
  | 143, _, e, h => by cases h; exact w_X8_better
  | 144, _, e, h => by cases h; exact w_X8_moves
  | 145, _, e, h => by cases h; exact w_X8_follower
  | 146, _, e, h => by cases h; exact w_X8_chains
  | 147, _, e, h => by cases h; exact w_X8_upgrade
  | 148, _, e, h => by cases h; exact w_X8_passes
  | 149, _, e, h => by cases h; exact w_X8_pass
  | 150, _, e, h => by cases h; exact w_X8_closeDoors
  | 151, _, e, h => by cases h; exact w_X8_undo
  | 152, _, e, h => by cases h; exact w_X8_append
  | 153, _, e, h => by cases h; exact w_X8_clearText
  | 154, _, e, h => by cases h; exact w_X8_byteAt
  | 155, _, e, h => by cases h; exact w_X8_isLetter
  | 156, _, e, h => by cases h; exact w_X8_isFigure
  | 157, _, e, h => by cases h; exact w_X8_next
  | 158, _, e, h => by cases h; exact w_X8_word
  | 159, _, e, h => by cases h; exact w_X8_orderBy
  | 160, _, e, h => by cases h; exact w_X8_isNumber
  | 161, _, e, h => by cases h; exact w_X8_value
  | 162, _, e, h => by cases h; exact w_X8_done
  | 163, _, e, h => by cases h; exact w_X8_fails
  | 164, _, e, h => by cases h; exact w_X8_run
  | 165, _, e, h => by cases h; exact w_X8_many
  | 166, _, e, h => by cases h; exact w_X8_count
  | 167, _, e, h => by cases h; exact w_X8_greatest
  | 168, _, e, h => by cases h; exact w_X8_block
  | 169, _, e, h => by cases h; exact w_X8_chair
  | 170, _, e, h => by cases h; exact w_X8_holdOf
  | 171, _, e, h => by cases h; exact w_X8_ticket
  | 172, _, e, h => by cases h; exact w_X8_place
  | 173, _, e, h => by cases h; exact w_X8_wouldKill
  | 174, _, e, h => by cases h; exact w_X8_chain
  | 175, _, e, h => by cases h; exact w_X8_cheapest
  | 176, _, e, h => by cases h; exact w_X8_nextExpiry
  | 177, _, e, h => by cases h; exact w_J6_bitCount_0f7a4
  | k + 178, h, _, _ => absurd h (by omega)
set_option maxRecDepth 20000 in
theorem ct_ok : ∀ q ∈ CTab, (q.2.1 < 178 ∧ (match nth MT q.2.1 with | some e => decide (tables_1[q.2.2]? = some (.methodLink (ownS q.1.1) q.1.2 (eY e))) | none => false) = true) ∨ 1000 ≤ q.2.1 := by decide +kernel
def Y_ac : MethodName := ⟨"java/lang/System", "arraycopy", "(Ljava/lang/Object;ILjava/lang/Object;II)V"⟩
set_option maxRecDepth 20000 in
theorem ct_ac : ∀ q ∈ CTab, q.2.1 = 1000 → tables_1[q.2.2]? = some (.methodLink (ownS q.1.1) q.1.2 Y_ac) := by decide +kernel
def Y_ln : MethodName := ⟨"java/lang/String", "length", "()I"⟩
set_option maxRecDepth 20000 in
theorem ct_ln : ∀ q ∈ CTab, q.2.1 = 1001 → tables_1[q.2.2]? = some (.methodLink (ownS q.1.1) q.1.2 Y_ln) := by decide +kernel
def Y_ch : MethodName := ⟨"java/lang/String", "charAt", "(I)C"⟩
set_option maxRecDepth 20000 in
theorem ct_ch : ∀ q ∈ CTab, q.2.1 = 1002 → tables_1[q.2.2]? = some (.methodLink (ownS q.1.1) q.1.2 Y_ch) := by decide +kernel
set_option maxRecDepth 20000 in
theorem kt_ok : ∀ q ∈ KTab, lw_tbl[q.2.2]? = some (.constant (ownS q.1.1) q.1.2 q.2.1) := by decide +kernel
set_option maxRecDepth 20000 in
theorem jt_ok : ∀ q ∈ JTab, lw_tbl[q.2.2]? = some (.constantLong (ownS q.1.1) q.1.2 q.2.1) := by decide +kernel
end
section
/-! 05: the cells behind the abstract machine -/
def AK : List Key := [(7, 0, 0), (5, 0, 0), (1, 0, 0), (9, 0, 0), (0, 0, 0), (0, 0, 1), (0, 0, 2), (0, 0, 3), (0, 0, 4), (0, 0, 5), (13, 0, 0), (14, 0, 0), (10, 0, 0), (11, 0, 0), (3, 0, 0), (6, 0, 0), (3, 0, 1), (6, 0, 1), (3, 0, 2), (6, 0, 2), (3, 0, 3), (6, 0, 3), (3, 0, 4), (6, 0, 4), (3, 0, 5), (6, 0, 5), (3, 0, 6), (6, 0, 6), (3, 0, 7), (6, 0, 7), (3, 0, 8), (6, 0, 8), (3, 0, 9), (6, 0, 9), (3, 0, 10), (6, 0, 10), (3, 0, 11), (6, 0, 11), (3, 0, 12), (6, 0, 12), (3, 0, 13), (6, 0, 13), (3, 0, 14), (6, 0, 14), (3, 0, 15), (6, 0, 15), (3, 0, 16), (6, 0, 16), (3, 0, 17), (6, 0, 17), (3, 0, 18), (6, 0, 18), (3, 0, 19), (6, 0, 19), (5, 1, 0), (1, 1, 0), (9, 1, 0), (0, 1, 0), (0, 1, 1), (0, 1, 2), (0, 1, 3), (0, 1, 4), (0, 1, 5), (13, 1, 0), (14, 1, 0), (10, 1, 0), (11, 1, 0), (3, 1, 0), (6, 1, 0), (3, 1, 1), (6, 1, 1), (3, 1, 2), (6, 1, 2), (3, 1, 3), (6, 1, 3), (3, 1, 4), (6, 1, 4), (3, 1, 5), (6, 1, 5), (3, 1, 6), (6, 1, 6), (3, 1, 7), (6, 1, 7), (3, 1, 8), (6, 1, 8), (3, 1, 9), (6, 1, 9), (3, 1, 10), (6, 1, 10), (3, 1, 11), (6, 1, 11), (3, 1, 12), (6, 1, 12), (3, 1, 13), (6, 1, 13), (3, 1, 14), (6, 1, 14), (3, 1, 15), (6, 1, 15), (3, 1, 16), (6, 1, 16), (3, 1, 17), (6, 1, 17), (3, 1, 18), (6, 1, 18), (3, 1, 19), (6, 1, 19), (2, 0, 0), (12, 0, 0), (5, 2, 0), (1, 2, 0), (9, 2, 0), (0, 2, 0), (0, 2, 1), (0, 2, 2), (0, 2, 3), (0, 2, 4), (0, 2, 5), (13, 2, 0), (14, 2, 0), (10, 2, 0), (11, 2, 0), (3, 2, 0), (6, 2, 0), (3, 2, 1), (6, 2, 1), (3, 2, 2), (6, 2, 2), (3, 2, 3), (6, 2, 3), (3, 2, 4), (6, 2, 4), (3, 2, 5), (6, 2, 5), (3, 2, 6), (6, 2, 6), (3, 2, 7), (6, 2, 7), (3, 2, 8), (6, 2, 8), (3, 2, 9), (6, 2, 9), (3, 2, 10), (6, 2, 10), (3, 2, 11), (6, 2, 11), (3, 2, 12), (6, 2, 12), (3, 2, 13), (6, 2, 13), (3, 2, 14), (6, 2, 14), (3, 2, 15), (6, 2, 15), (3, 2, 16), (6, 2, 16), (3, 2, 17), (6, 2, 17), (3, 2, 18), (6, 2, 18), (3, 2, 19), (6, 2, 19), (5, 3, 0), (1, 3, 0), (9, 3, 0), (0, 3, 0), (0, 3, 1), (0, 3, 2), (0, 3, 3), (0, 3, 4), (0, 3, 5), (13, 3, 0), (14, 3, 0), (10, 3, 0), (11, 3, 0), (3, 3, 0), (6, 3, 0), (3, 3, 1), (6, 3, 1), (3, 3, 2), (6, 3, 2), (3, 3, 3), (6, 3, 3), (3, 3, 4), (6, 3, 4), (3, 3, 5), (6, 3, 5), (3, 3, 6), (6, 3, 6), (3, 3, 7), (6, 3, 7), (3, 3, 8), (6, 3, 8), (3, 3, 9), (6, 3, 9), (3, 3, 10), (6, 3, 10), (3, 3, 11), (6, 3, 11), (3, 3, 12), (6, 3, 12), (3, 3, 13), (6, 3, 13), (3, 3, 14), (6, 3, 14), (3, 3, 15), (6, 3, 15), (3, 3, 16), (6, 3, 16), (3, 3, 17), (6, 3, 17), (3, 3, 18), (6, 3, 18), (3, 3, 19), (6, 3, 19), (5, 4, 0), (1, 4, 0), (9, 4, 0), (0, 4, 0), (0, 4, 1), (0, 4, 2), (0, 4, 3), (0, 4, 4), (0, 4, 5), (13, 4, 0), (14, 4, 0), (10, 4, 0), (11, 4, 0), (3, 4, 0), (6, 4, 0), (3, 4, 1), (6, 4, 1), (3, 4, 2), (6, 4, 2), (3, 4, 3), (6, 4, 3), (3, 4, 4), (6, 4, 4), (3, 4, 5), (6, 4, 5), (3, 4, 6), (6, 4, 6), (3, 4, 7), (6, 4, 7), (3, 4, 8), (6, 4, 8), (3, 4, 9), (6, 4, 9), (3, 4, 10), (6, 4, 10), (3, 4, 11), (6, 4, 11), (3, 4, 12), (6, 4, 12), (3, 4, 13), (6, 4, 13), (3, 4, 14), (6, 4, 14), (3, 4, 15), (6, 4, 15), (3, 4, 16), (6, 4, 16), (3, 4, 17), (6, 4, 17), (3, 4, 18), (6, 4, 18), (3, 4, 19), (6, 4, 19), (5, 5, 0), (1, 5, 0), (9, 5, 0), (0, 5, 0), (0, 5, 1), (0, 5, 2), (0, 5, 3), (0, 5, 4), (0, 5, 5), (13, 5, 0), (14, 5, 0), (10, 5, 0), (11, 5, 0), (3, 5, 0), (6, 5, 0), (3, 5, 1), (6, 5, 1), (3, 5, 2), (6, 5, 2), (3, 5, 3), (6, 5, 3), (3, 5, 4), (6, 5, 4), (3, 5, 5), (6, 5, 5), (3, 5, 6), (6, 5, 6), (3, 5, 7), (6, 5, 7), (3, 5, 8), (6, 5, 8), (3, 5, 9), (6, 5, 9), (3, 5, 10), (6, 5, 10), (3, 5, 11), (6, 5, 11), (3, 5, 12), (6, 5, 12), (3, 5, 13), (6, 5, 13), (3, 5, 14), (6, 5, 14), (3, 5, 15), (6, 5, 15), (3, 5, 16), (6, 5, 16), (3, 5, 17), (6, 5, 17), (3, 5, 18), (6, 5, 18), (3, 5, 19), (6, 5, 19), (5, 6, 0), (1, 6, 0), (9, 6, 0), (0, 6, 0), (0, 6, 1), (0, 6, 2), (0, 6, 3), (0, 6, 4), (0, 6, 5), (13, 6, 0), (14, 6, 0), (10, 6, 0), (11, 6, 0), (3, 6, 0), (6, 6, 0), (3, 6, 1), (6, 6, 1), (3, 6, 2), (6, 6, 2), (3, 6, 3), (6, 6, 3), (3, 6, 4), (6, 6, 4), (3, 6, 5), (6, 6, 5), (3, 6, 6), (6, 6, 6), (3, 6, 7), (6, 6, 7), (3, 6, 8), (6, 6, 8), (3, 6, 9), (6, 6, 9), (3, 6, 10), (6, 6, 10), (3, 6, 11), (6, 6, 11), (3, 6, 12), (6, 6, 12), (3, 6, 13), (6, 6, 13), (3, 6, 14), (6, 6, 14), (3, 6, 15), (6, 6, 15), (3, 6, 16), (6, 6, 16), (3, 6, 17), (6, 6, 17), (3, 6, 18), (6, 6, 18), (3, 6, 19), (6, 6, 19), (5, 7, 0), (1, 7, 0), (9, 7, 0), (0, 7, 0), (0, 7, 1), (0, 7, 2), (0, 7, 3), (0, 7, 4), (0, 7, 5), (13, 7, 0), (14, 7, 0), (10, 7, 0), (11, 7, 0), (3, 7, 0), (6, 7, 0), (3, 7, 1), (6, 7, 1), (3, 7, 2), (6, 7, 2), (3, 7, 3), (6, 7, 3), (3, 7, 4), (6, 7, 4), (3, 7, 5), (6, 7, 5), (3, 7, 6), (6, 7, 6), (3, 7, 7), (6, 7, 7), (3, 7, 8), (6, 7, 8), (3, 7, 9), (6, 7, 9), (3, 7, 10), (6, 7, 10), (3, 7, 11), (6, 7, 11), (3, 7, 12), (6, 7, 12), (3, 7, 13), (6, 7, 13), (3, 7, 14), (6, 7, 14), (3, 7, 15), (6, 7, 15), (3, 7, 16), (6, 7, 16), (3, 7, 17), (6, 7, 17), (3, 7, 18), (6, 7, 18), (3, 7, 19), (6, 7, 19), (4, 0, 0), (15, 0, 0), (16, 0, 0), (8, 0, 0), (17, 0, 0), (18, 0, 0), (19, 0, 0), (20, 0, 0), (21, 0, 0)]
def tysA (dA : Nat → ClassId) : List (ClassId × FieldType) := [(dA 0, .int), (dA 1, .char), (dA 2, .object RX0), (dA 3, .object RX3), (dA 4, .object RX6), (dA 5, .object RX5)]
def NC : Nat := 9
def X0 : SX := (0, fun _ => 0)
def fdsOf (ad : Key → Nat) (K j i : Nat) (M : Mem) : List Value := (List.range (clN K)).map fun s => match shp K s j with
  | some k => Value.ref (ad k)
  | none => .int (M K j i s)
def ent (dA : Nat → ClassId) (ad : Key → Nat) (M : Mem) (k : Key) : va_E :=
  if k.1 < NC then .inr (k.1, fdsOf ad k.1 k.2.1 k.2.2 M) else match aln X0 k.1 with
    | some (N, c) => .inl (dA (if c = true then 1 else 0), N, .inl (M k.1 k.2.1 k.2.2))
    | none => .inl (dA (k.1 - 7), (rln k.1).getD 0, .inr (.inr (.inr (.inr (fun n => some (ad (ael k.1 k.2.1 n)))))))
def WS (dA : Nat → ClassId) (ad : Key → Nat) (M : Mem) : va_W := AK.map fun k => (ad k, ent dA ad M k)
def AA (ad : Key → Nat) : Nat → Prop := fun q => ∃ k, k ∈ AK ∧ q = ad k
def vok : V → Prop
  | .inr (.inr (some k)) => k ∈ AK ∨ k = (30, 0, 0) ∨ (k.1 = 31 ∧ k.2.2 = 0 ∧ ∃ s, nth strT k.2.1 = some s)
  | _ => True
def cv (ad : Key → Nat) : V → Value
  | .inl a => .int a
  | .inr (.inl a) => .long a
  | .inr (.inr none) => .null
  | .inr (.inr (some k)) => .ref (ad k)
def vls (ls : List (Option V)) : Prop := ∀ (i : Nat) (v : V), getL ls i = some v → vok v
def vst (st : List V) : Prop := ∀ v ∈ st, vok v
def LR (ad : Key → Nat) (g : Bool) (n : Nat) (ls : List (Option V)) (als : Array Slot) : Prop := ls.length = n ∧ als.size = n ∧ lv_wf als ∧ (∀ (i : Nat) (v : V), getL ls i = some v → als[i]? = some (.val (cv ad v))) ∧ (g = false → ∀ (i : Nat) (v : V), getL ls i = some v → (cv ad v).category ≠ 2)
def asc (ad : Key → Nat) (ls : List (Option V)) : List (Nat × Value) := (List.range ls.length).filterMap fun i => (getL ls i).map fun v => (i, cv ad v)
theorem getL_lt {ls : List (Option V)} {i : Nat} {v : V} (h : getL ls i = some v) : i < ls.length := by
  rw [getL, nth_get] at h
  rcases Nat.lt_or_ge i ls.length with q | q
  · exact q
  · rw [List.getElem?_eq_none q] at h; simp at h
theorem mem_asc {ad : Key → Nat} {ls : List (Option V)} {q : Nat × Value} : q ∈ asc ad ls ↔ ∃ v, getL ls q.1 = some v ∧ q.2 = cv ad v := by
  obtain ⟨i, w⟩ := q
  constructor
  · intro h
    obtain ⟨j, -, hj⟩ := List.mem_filterMap.mp h
    cases hv : getL ls j with
    | none => rw [hv] at hj; cases hj
    | some v => rw [hv] at hj; cases hj; exact ⟨v, hv, rfl⟩
  · rintro ⟨v, hv, hw⟩
    simp only at hv hw
    exact List.mem_filterMap.mpr ⟨i, List.mem_range.mpr (getL_lt hv), by rw [hv, hw]; rfl⟩
theorem LR_has {ad : Key → Nat} {g : Bool} {n : Nat} {ls : List (Option V)} {als : Array Slot} (h : LR ad g n ls als) : lv_has als n (asc ad ls) := by
  obtain ⟨h1, h2, h3, h4, -⟩ := h
  refine ⟨h2, h3, fun q hq => ?_⟩
  obtain ⟨v, hv, e⟩ := mem_asc.mp hq
  rw [e]; exact h4 _ _ hv
theorem setL_len : ∀ (ls : List (Option V)) (i : Nat) (v : Option V), (setL ls i v).length = ls.length := by
  intro ls
  induction ls with
  | nil => intro i v; rfl
  | cons a l ih =>
    intro i v
    cases i with
    | zero => rfl
    | succ i => simp [setL, ih]
theorem nth_setL : ∀ (ls : List (Option V)) (i j : Nat) (v : Option V), nth (setL ls i v) j = if j = i ∧ i < ls.length then some v else nth ls j := by
  intro ls
  induction ls with
  | nil => intro i j v; simp [setL, nth]
  | cons a l ih =>
    intro i j v
    cases i with
    | zero =>
      cases j with
      | zero => simp [setL, nth]
      | succ j => simp [setL, nth]
    | succ i =>
      cases j with
      | zero => simp [setL, nth]
      | succ j => simp [setL, nth, ih]
theorem getL_setL (ls : List (Option V)) (i j : Nat) (v : Option V) : getL (setL ls i v) j = if j = i ∧ i < ls.length then v else getL ls j := by
  unfold getL
  rw [nth_setL]
  by_cases h : j = i ∧ i < ls.length
  · rw [if_pos h, if_pos h]
    cases v <;> rfl
  · rw [if_neg h, if_neg h]
theorem kilL_succ (ls : List (Option V)) (n : Nat) : kilL ls (n + 1) = bif isLong ((nth ls n).getD none) then setL ls n none else ls := rfl
theorem kilL_len (ls : List (Option V)) (i : Nat) : (kilL ls i).length = ls.length := by
  cases i with
  | zero => rfl
  | succ n =>
    rw [kilL_succ]
    cases isLong ((nth ls n).getD none) with
    | true => exact setL_len _ _ _
    | false => rfl
theorem isLong_cat {ad : Key → Nat} {v : V} (h : (cv ad v).category = 2) : isLong (some v) = true := by
  match v, h with
  | .inr (.inl a), _ => rfl
  | .inl a, h => simp [cv, Value.category] at h
  | .inr (.inr none), h => simp [cv, Value.category] at h
  | .inr (.inr (some k)), h => simp [cv, Value.category] at h
theorem getL_kilL {ad : Key → Nat} {ls : List (Option V)} {i j : Nat} {v : V} (h : getL (kilL ls i) j = some v) : getL ls j = some v ∧ ¬ (j + 1 = i ∧ (cv ad v).category = 2) := by
  cases i with
  | zero => exact ⟨h, fun q => absurd q.1 (by omega)⟩
  | succ n =>
    rw [kilL_succ] at h
    cases hl : isLong ((nth ls n).getD none) with
    | true =>
      rw [hl] at h
      simp only [cond_true] at h
      rw [getL_setL] at h
      split at h
      · cases h
      · next q =>
        refine ⟨h, fun z => q ⟨by omega, ?_⟩⟩
        have := getL_lt h
        omega
    | false =>
      rw [hl] at h
      simp only [cond_false] at h
      refine ⟨h, fun z => ?_⟩
      have e : j = n := by omega
      subst e
      have h2 := isLong_cat z.2
      unfold getL at h
      cases hn : nth ls j with
      | none => rw [hn] at h; cases h
      | some w =>
        rw [hn] at h hl
        cases w with
        | none => cases h
        | some w =>
          simp only [Option.some.injEq] at h
          subst h
          simp only [Option.getD_some] at hl
          rw [h2] at hl; cases hl
theorem LR_st1 {ad : Key → Nat} {g : Bool} {n i : Nat} {ls : List (Option V)} {als als' : Array Slot} {v : V} (h : LR ad g n ls als) (hi : i < n) (hc : (cv ad v).category = 1)
    (h' : lv_has als' n ((i, cv ad v) :: (asc ad ls).filter (fun q => !(q.1 == i) && !(q.1 + 1 == i && q.2.category == 2)))) : LR ad g n (st1 g ls i v) als' := by
  obtain ⟨h1, h2, h3, h4, h5⟩ := h
  obtain ⟨a1, a2, a3⟩ := h'
  have key : ∀ (j : Nat) (w : V), getL (st1 g ls i v) j = some w → (j = i ∧ w = v) ∨ (j ≠ i ∧ getL ls j = some w ∧ ¬ (j + 1 = i ∧ (cv ad w).category = 2)) := by
    intro j w hw
    unfold st1 at hw
    rw [getL_setL] at hw
    split at hw
    · next q => exact Or.inl ⟨q.1, by cases hw; rfl⟩
    · next q =>
      have hlen : (bif g then kilL ls i else ls).length = n := by
        cases g with
        | true => rw [cond_true, kilL_len, h1]
        | false => exact h1
      have hji : j ≠ i := fun z => q ⟨z, by rw [hlen]; exact hi⟩
      refine Or.inr ⟨hji, ?_⟩
      cases g with
      | true => exact getL_kilL hw
      | false =>
        refine ⟨hw, fun z => h5 rfl j w hw z.2⟩
  refine ⟨?_, a1, a2, fun j w hw => ?_, fun hg j w hw => ?_⟩
  · unfold st1
    rw [setL_len]
    cases g with
    | true => rw [cond_true, kilL_len, h1]
    | false => exact h1
  · rcases key j w hw with ⟨rfl, rfl⟩ | ⟨hji, hw, hn⟩
    · exact a3 _ List.mem_cons_self
    · refine a3 (j, cv ad w) (List.mem_cons_of_mem _ (List.mem_filter.mpr ⟨mem_asc.mpr ⟨w, hw, rfl⟩, ?_⟩))
      simp only [Bool.and_eq_true, Bool.not_eq_true', beq_eq_false_iff_ne, ne_eq, hji, not_false_eq_true, true_and, Bool.and_eq_false_iff]
      by_cases q : j + 1 = i
      · exact Or.inr (fun z => hn ⟨q, z⟩)
      · exact Or.inl q
  · rcases key j w hw with ⟨rfl, rfl⟩ | ⟨hji, hw, hn⟩
    · omega
    · exact h5 hg j w hw
theorem LR_st2 {ad : Key → Nat} {n i : Nat} {ls : List (Option V)} {als als' : Array Slot} {v : V} (h : LR ad true n ls als) (hi : i + 1 < n)
    (h' : lv_has als' n ((i, cv ad v) :: (asc ad ls).filter (fun q => !(q.1 == i) && (!(q.1 == i + 1) && !(q.1 + 1 == i && q.2.category == 2))))) : LR ad true n (st2 ls i v) als' := by
  obtain ⟨h1, h2, h3, h4, h5⟩ := h
  obtain ⟨a1, a2, a3⟩ := h'
  have hlen : (setL (kilL ls i) (i + 1) none).length = n := by rw [setL_len, kilL_len, h1]
  refine ⟨by unfold st2; rw [setL_len, hlen], a1, a2, fun j w hw => ?_, fun hg => by cases hg⟩
  unfold st2 at hw
  rw [getL_setL] at hw
  split at hw
  · next q =>
    obtain ⟨rfl, -⟩ := q
    cases hw
    exact a3 _ List.mem_cons_self
  · next q =>
    have hji : j ≠ i := fun z => q ⟨z, by rw [hlen]; omega⟩
    rw [getL_setL] at hw
    split at hw
    · cases hw
    · next q2 =>
      have hj2 : j ≠ i + 1 := fun z => q2 ⟨z, by rw [kilL_len, h1]; exact hi⟩
      obtain ⟨hw, hn⟩ := getL_kilL (ad := ad) hw
      refine a3 (j, cv ad w) (List.mem_cons_of_mem _ (List.mem_filter.mpr ⟨mem_asc.mpr ⟨w, hw, rfl⟩, ?_⟩))
      simp only [Bool.and_eq_true, Bool.not_eq_true', beq_eq_false_iff_ne, ne_eq, hji, hj2, not_false_eq_true, true_and, Bool.and_eq_false_iff]
      by_cases q : j + 1 = i
      · exact Or.inr (fun z => hn ⟨q, z⟩)
      · exact Or.inl q
theorem vls_st1 {g : Bool} {ls : List (Option V)} {i : Nat} {v : V} (h : vls ls) (hv : vok v) : vls (st1 g ls i v) := by
  intro j w hw
  unfold st1 at hw
  rw [getL_setL] at hw
  split at hw
  · cases hw; exact hv
  · cases g with
    | true => exact h j w (getL_kilL (ad := fun _ => 0) hw).1
    | false => exact h j w hw
theorem vls_st2 {ls : List (Option V)} {i : Nat} {v : V} (h : vls ls) (hv : vok v) : vls (st2 ls i v) := by
  intro j w hw
  unfold st2 at hw
  rw [getL_setL] at hw
  split at hw
  · cases hw; exact hv
  · rw [getL_setL] at hw
    split at hw
    · cases hw
    · exact h j w (getL_kilL (ad := fun _ => 0) hw).1
theorem cat_S (ad : Key → Nat) : ∀ st : List V, ((st.map (cv ad)).map fun v => v.category).sum = catS st := by
  intro st
  induction st with
  | nil => rfl
  | cons v st ih =>
    rw [List.map_cons, List.map_cons, List.sum_cons, ih]
    match v with
    | .inl a => rfl
    | .inr (.inl a) => rfl
    | .inr (.inr none) => rfl
    | .inr (.inr (some k)) => rfl
theorem popN_spec : ∀ (n : Nat) (st as rest : List V), popN n st = some (as, rest) → st = as.reverse ++ rest ∧ as.length = n := by
  intro n
  induction n with
  | zero => intro st as rest h; rw [popN] at h; cases h; exact ⟨rfl, rfl⟩
  | succ n ih =>
    intro st as rest h
    cases st with
    | nil => cases h
    | cons v st =>
      rw [popN] at h
      cases hq : popN n st with
      | none => rw [hq] at h; cases h
      | some q =>
        rw [hq] at h
        simp only [Option.some.injEq, Prod.mk.injEq] at h
        obtain ⟨rfl, rfl⟩ := h
        obtain ⟨e1, e2⟩ := ih st q.1 q.2 hq
        refine ⟨?_, by simp [e2]⟩
        rw [e1]; simp
theorem argS_len : ∀ as : List V, (lg_sl (as.map (cv fun _ => 0))).length = (argS as).length := by
  intro as
  induction as with
  | nil => rfl
  | cons v as ih =>
    match v with
    | .inl a => simp [lg_sl, argS, cv, Value.category] at ih ⊢; omega
    | .inr (.inl a) => simp [lg_sl, argS, cv, Value.category] at ih ⊢; omega
    | .inr (.inr none) => simp [lg_sl, argS, cv, Value.category] at ih ⊢; omega
    | .inr (.inr (some k)) => simp [lg_sl, argS, cv, Value.category] at ih ⊢; omega
theorem argS_len' (ad : Key → Nat) : ∀ as : List V, (lg_sl (as.map (cv ad))).length = (argS as).length := by
  intro as
  induction as with
  | nil => rfl
  | cons v as ih =>
    match v with
    | .inl a => simp [lg_sl, argS, cv, Value.category] at ih ⊢; omega
    | .inr (.inl a) => simp [lg_sl, argS, cv, Value.category] at ih ⊢; omega
    | .inr (.inr none) => simp [lg_sl, argS, cv, Value.category] at ih ⊢; omega
    | .inr (.inr (some k)) => simp [lg_sl, argS, cv, Value.category] at ih ⊢; omega
theorem argS_mem (ad : Key → Nat) : ∀ (as : List V) (i j : Nat) (v : V), nth (argS as) i = some (some v) → (j + i, cv ad v) ∈ lv_args j (as.map (cv ad)) ∧ v ∈ as := by
  intro as
  induction as with
  | nil => intro i j v h; simp [argS, nth] at h
  | cons w as ih =>
    intro i j v h
    match w, h with
    | .inl a, h =>
      cases i with
      | zero => simp [argS, nth] at h; subst h; exact ⟨List.mem_cons_self, List.mem_cons_self⟩
      | succ i => obtain ⟨q1, q2⟩ := ih i (j + 1) v (by simpa [argS, nth] using h); refine ⟨?_, List.mem_cons_of_mem _ q2⟩; have e : j + (i + 1) = j + 1 + i := by omega
                  rw [e]; exact List.mem_cons_of_mem _ q1
    | .inr (.inr none), h =>
      cases i with
      | zero => simp [argS, nth] at h; subst h; exact ⟨List.mem_cons_self, List.mem_cons_self⟩
      | succ i => obtain ⟨q1, q2⟩ := ih i (j + 1) v (by simpa [argS, nth] using h); refine ⟨?_, List.mem_cons_of_mem _ q2⟩; have e : j + (i + 1) = j + 1 + i := by omega
                  rw [e]; exact List.mem_cons_of_mem _ q1
    | .inr (.inr (some k)), h =>
      cases i with
      | zero => simp [argS, nth] at h; subst h; exact ⟨List.mem_cons_self, List.mem_cons_self⟩
      | succ i => obtain ⟨q1, q2⟩ := ih i (j + 1) v (by simpa [argS, nth] using h); refine ⟨?_, List.mem_cons_of_mem _ q2⟩; have e : j + (i + 1) = j + 1 + i := by omega
                  rw [e]; exact List.mem_cons_of_mem _ q1
    | .inr (.inl a), h =>
      match i, h with
      | 0, h => simp [argS, nth] at h; subst h; exact ⟨List.mem_cons_self, List.mem_cons_self⟩
      | 1, h => simp [argS, nth] at h
      | i + 2, h => obtain ⟨q1, q2⟩ := ih i (j + 2) v (by simpa [argS, nth] using h); refine ⟨?_, List.mem_cons_of_mem _ q2⟩; have e : j + (i + 2) = j + 2 + i := by omega
                    rw [e]; exact List.mem_cons_of_mem _ q1
theorem padL_len : ∀ (n : Nat) (l : List (Option V)), (padL n l).length = n := by
  intro n
  induction n with
  | zero => intro l; rfl
  | succ n ih => intro l; cases l <;> simp [padL, ih]
theorem padL_get : ∀ (n : Nat) (l : List (Option V)) (i : Nat) (v : V), getL (padL n l) i = some v → nth l i = some (some v) := by
  intro n
  induction n with
  | zero => intro l i v h; simp [padL, getL, nth] at h
  | succ n ih =>
    intro l i v h
    cases l with
    | nil =>
      cases i with
      | zero => simp [padL, getL, nth] at h
      | succ i =>
        have := ih [] i v (by simpa [padL, getL, nth] using h)
        simp [nth] at this
    | cons a l =>
      cases i with
      | zero =>
        cases a with
        | none => simp [padL, getL, nth] at h
        | some a => simp [padL, getL, nth] at h; simp [nth, h]
      | succ i => simpa [nth] using ih l i v (by simpa [padL, getL, nth] using h)
theorem LR_init {ad : Key → Nat} {g : Bool} {n : Nat} {as : List V} (hn : (argS as).length ≤ n) (hg : g = false → ∀ v ∈ as, (cv ad v).category ≠ 2) :
    LR ad g n (initL n as) (lg_sl (as.map (cv ad)) ++ List.replicate (n - (lg_sl (as.map (cv ad))).length) Slot.unset).toArray := by
  have h := lv_entry (as.map (cv ad)) (n := n) (by rw [argS_len']; exact hn)
  refine ⟨padL_len _ _, h.1, h.2.1, fun i v hv => ?_, fun hf i v hv => ?_⟩
  · have := (argS_mem ad as i 0 v (padL_get _ _ _ _ hv)).1
    rw [Nat.zero_add] at this
    exact h.2.2 _ this
  · exact hg hf v (argS_mem ad as i 0 v (padL_get _ _ _ _ hv)).2
theorem vls_init {n : Nat} {as : List V} (h : vst as) : vls (initL n as) := fun i v hv => h v (argS_mem (fun _ => 0) as i 0 v (padL_get _ _ _ _ hv)).2
/-! the list of cells -/
def nodupB : List Key → Bool
  | [] => true
  | a :: l => !(l.contains a) && nodupB l
theorem nodupB_inj : ∀ (l : List Key), nodupB l = true → ∀ (i j : Nat) (a : Key), l[i]? = some a → l[j]? = some a → i = j
  | [], _, i, j, a, h, _ => by simp at h
  | b :: l, hn, i, j, a, h1, h2 => by
    simp only [nodupB, Bool.and_eq_true, Bool.not_eq_true', List.contains_eq_mem, decide_eq_false_iff_not] at hn
    cases i with
    | zero =>
      cases j with
      | zero => rfl
      | succ j =>
        rw [List.getElem?_cons_zero] at h1
        rw [List.getElem?_cons_succ] at h2
        cases h1
        exact absurd (List.mem_of_getElem? h2) hn.1
    | succ i =>
      rw [List.getElem?_cons_succ] at h1
      cases j with
      | zero =>
        rw [List.getElem?_cons_zero] at h2
        cases h2
        exact absurd (List.mem_of_getElem? h1) hn.1
      | succ j =>
        rw [List.getElem?_cons_succ] at h2
        rw [nodupB_inj l hn.2 i j a h1 h2]
set_option maxRecDepth 20000 in
theorem AK_nodup : nodupB AK = true := by decide +kernel
theorem WS_at {dA : Nat → ClassId} {ad : Key → Nat} {M : Mem} {c : Nat} {k : Key} (h : AK[c]? = some k) : (WS dA ad M)[c]? = some (ad k, ent dA ad M k) := by
  rw [WS, List.getElem?_map, h]; rfl
theorem WS_set {dA : Nat → ClassId} {ad : Key → Nat} {M M' : Mem} {c : Nat} {k : Key} {x : va_E} (h : AK[c]? = some k) (hx : ent dA ad M' k = x) (ho : ∀ k', k' ≠ k → ent dA ad M' k' = ent dA ad M k') : (WS dA ad M).set c (ad k, x) = WS dA ad M' := by
  apply List.ext_getElem?
  intro n
  have hl : c < (WS dA ad M).length := by
    rw [WS, List.length_map]
    exact (List.getElem?_eq_some_iff.mp h).1
  by_cases hn : n = c
  · subst hn
    rw [List.getElem?_set_self hl, WS_at h, hx]
  · rw [List.getElem?_set_ne (Ne.symm hn), WS, WS, List.getElem?_map, List.getElem?_map]
    cases hk : AK[n]? with
    | none => rfl
    | some k' =>
      have hne : k' ≠ k := fun z => hn (nodupB_inj AK AK_nodup n c k (by rw [hk, z]) h)
      simp only [Option.map_some]
      rw [ho k' hne]
theorem fds_other {ad : Key → Nat} {M : Mem} {K j i s K' j' i' : Nat} {v : Int32} (h : (K', j', i') ≠ (K, j, i)) : fdsOf ad K' j' i' (wr M K j i s v) = fdsOf ad K' j' i' M := by
  unfold fdsOf
  refine List.map_congr_left fun q _ => ?_
  split
  · rfl
  · congr 1
    unfold wr
    rw [if_neg]
    rintro ⟨rfl, rfl, rfl, -⟩
    exact h rfl
theorem ent_other {dA : Nat → ClassId} {ad : Key → Nat} {M : Mem} {k k' : Key} {s : Nat} {v : Int32} (h : k' ≠ k) : ent dA ad (wr M k.1 k.2.1 k.2.2 s v) k' = ent dA ad M k' := by
  obtain ⟨K, j, i⟩ := k
  obtain ⟨K', j', i'⟩ := k'
  unfold ent
  simp only
  split
  · rw [fds_other h]
  · split
    · congr 3
      congr 1
      funext q
      unfold wr
      rw [if_neg]
      rintro ⟨rfl, rfl, rfl, -⟩
      exact h rfl
    · rfl
set_option maxRecDepth 20000 in
theorem AK_shp : ∀ k ∈ AK, ∀ s, s < 12 → ∀ k' ∈ shp k.1 s k.2.1, k' ∈ AK := by decide +kernel
set_option maxRecDepth 20000 in
theorem AK_ael : ∀ k ∈ AK, ∀ n, n < (rln k.1).getD 0 → ael k.1 k.2.1 n ∈ AK := by decide +kernel
set_option maxRecDepth 20000 in
theorem AK_k : ∀ k ∈ AK, k.1 < 22 := by decide +kernel
theorem clN_12 : ∀ K, clN K ≤ 12 := by
  intro K
  rcases Nat.lt_or_ge K 9 with h | h
  · exact (by decide +kernel : ∀ K, K < 9 → clN K ≤ 12) K h
  · unfold clN
    rw [nth_get, List.getElem?_eq_none (by simpa using h)]
    exact Nat.zero_le _
end
section
/-! 06: soundness of one instruction -/
def strN (k : Nat) : String := (nth ["hold", "buy", "drop", "back", "in", "up", "wait", ";"] k).getD ""
def strL : List Nat := strT.map List.length
def strB : List (List Int32) := strT.map (fun s => s.map nI)
/-- what stands in the old heap: the String constants, two statics -/
def SS (ad : Key → Nat) (U : State) (H : Heap) : Prop :=
  (∃ adV : Nat → Nat, vk_S strT.length strL strB (fun i => ad (31, i, 0)) adV (AA ad) U H) ∧ va_Z "java/lang/String" "COMPACT_STRINGS" "Z" (.int 1) (AA ad) U H ∧ (∃ v : Value, (v = .null ∨ ∃ a, v = .ref a) ∧ va_Z "jdk/internal/util/Preconditions" "SIOOBE_FORMATTER" "Ljava/util/function/BiFunction;" v (AA ad) U H) ∧ ∀ q ∈ LTab, vk_R (ownS q.1.1) q.1.2 (strN q.2) (ad (31, q.2, 0)) U
def Cx (D : va_G) (dA : Nat → ClassId) (ad : Key → Nat) (X : SX) (U : State) : Prop := va_K D vwCl (tysA dA) U ∧ va_X (ad (30, 0, 0)) X.1 X.2 U U.heap ∧ ad (30, 0, 0) < U.heap.size ∧ ¬ AA ad (ad (30, 0, 0)) ∧ SS ad U U.heap
theorem SS_to {ad : Key → Nat} {s U : State} {H : Heap} (h : SS ad s s.heap) (hq : ∀ a : Nat, a < s.heap.size → ¬ AA ad a → H[a]? = s.heap[a]?) (hW : s.WarmedH U.vm) : SS ad U H := by
  obtain ⟨⟨adV, h1⟩, h2, ⟨v, hv, h3⟩, h4⟩ := h
  refine ⟨⟨adV, vk_S.moved (u := s) hW.alike (h1.kept hq)⟩, va_Z.moved (u := s) hW.alike (h2.kept hq), ⟨v, hv, va_Z.moved (u := s) hW.alike (h3.kept hq)⟩, fun q hq2 => vk_R.warm hW (h4 q hq2)⟩
theorem Cx_to {D : va_G} {dA : Nat → ClassId} {ad : Key → Nat} {X : SX} {s U : State} {H : Heap} {locs : List Loc} (h : Cx D dA ad X s) (hS : va_S (AA ad) s.heap H locs) (hU : U.heap = H) (hW : s.WarmedH U.vm) : Cx D dA ad X U := by
  obtain ⟨h1, h2, h3, h4, h5⟩ := h
  subst hU
  exact ⟨va_K.moved hW.alike h1, va_X.moved hW.alike (h2.kept (hS.2.1 _ h3 h4)), Nat.lt_of_lt_of_le h3 hS.1, h4, SS_to h5 hS.2.1 hW⟩
def lenI : Instr → Nat
  | .newarray _ | .bipush _ | .ldc _ | .iload _ | .lload _ | .aload _ | .istore _ | .astore _ => 2
  | .new _ | .anewarray _ | .invokespecial _ | .sipush _ | .goto _ | .ifCond _ _ | .if_icmp _ _ | .ifnull _ | .ifnonnull _ | .getfield _ | .putfield _ | .invokevirtual _ | .invokestatic _ | .ldc_w _ | .ldc2_w _ | .iinc _ _ => 3
  | .tableswitch _ _ _ _ => 0
  | _ => 1
def lenOK (I : Instr) (n : Nat) : Bool := Nat.beq (lenI I) 0 || Nat.beq (lenI I) n
theorem lenOK_eq {I : Instr} {n : Nat} (h : lenOK I n = true) (h0 : lenI I ≠ 0) : n = lenI I := by
  simp only [lenOK, Bool.or_eq_true, Nat.beq_eq] at h
  rcases h with h | h
  · exact absurd h h0
  · exact h.symm
theorem gd_some {α : Type} {b : Bool} {y : Option α} {r : α} (h : gd b y = some r) : b = true ∧ y = some r := by
  cases b with
  | true => exact ⟨rfl, h⟩
  | false => cases h
theorem nx_some {pc : Nat} {ls : List (Option V)} {st : List V} {M : Mem} {s' : St} (h : nx pc ls st M = some (.inl s')) : s' = (pc, ls, st, M) := by
  cases h; rfl
theorem tg_spec {pc t : Nat} {off : Int} (h : tg pc off = some t) : (pc : Int) + off = (t : Int) := by
  unfold tg at h
  split at h
  · next q => cases h; exact q
  · cases h
theorem inb_spec {i : Int32} {n : Nat} (h : inb i n = true) : vp_in i n := by
  simp only [inb, Bool.and_eq_true, Bool.not_eq_true', decide_eq_false_iff_not, decide_eq_true_eq] at h
  rintro (q | q)
  · exact h.1 q
  · omega
theorem isb_spec {v : Int32} (h : isb v = true) : v = 0 ∨ v = 1 := by
  simpa only [isb, Bool.or_eq_true, decide_eq_true_eq] using h
theorem shp_j (K s j : Nat) (h : shp K s j = none) : shp K s 0 = none := by
  unfold shp at h ⊢
  split at h <;> first | (cases h; done) | rfl | (split <;> simp_all)
theorem fds_len (ad : Key → Nat) (K j i : Nat) (M : Mem) : (fdsOf ad K j i M).length = clN K := by simp [fdsOf]
theorem fds_at {ad : Key → Nat} {K j i s : Nat} {M : Mem} (h : s < clN K) : (fdsOf ad K j i M)[s]? = some (match shp K s j with
  | some k => Value.ref (ad k)
  | none => .int (M K j i s)) := by
  rw [fdsOf, List.getElem?_map, List.getElem?_range h]; rfl
theorem fds_set {ad : Key → Nat} {K j i s : Nat} {M : Mem} {v : Int32} (h : s < clN K) (hs : shp K s j = none) : fdsOf ad K j i (wr M K j i s v) = (fdsOf ad K j i M).set s (.int v) := by
  apply List.ext_getElem?
  intro n
  rcases Nat.lt_or_ge n (clN K) with hn | hn
  · rw [fds_at hn]
    by_cases e : n = s
    · subst e
      rw [List.getElem?_set_self (by rw [fds_len]; exact hn), hs]
      simp [wr]
    · rw [List.getElem?_set_ne (Ne.symm e), fds_at hn]
      split
      · rfl
      · simp [wr, e]
  · rw [List.getElem?_eq_none (by rw [fds_len]; exact hn), List.getElem?_eq_none (by rw [List.length_set, fds_len]; exact hn)]
theorem ent_o {dA : Nat → ClassId} {ad : Key → Nat} {M : Mem} {K j i : Nat} (h : K < NC) : ent dA ad M (K, j, i) = .inr (K, fdsOf ad K j i M) := if_pos h
theorem aln_NC : ∀ K, K < NC → aln X0 K = none ∧ rln K = none := by decide +kernel
theorem aln_X {X : SX} {K : Nat} (h : K ≠ 30) : aln X K = aln X0 K := by
  unfold aln
  split <;> first | rfl | exact absurd rfl h | skip
theorem ent_a {dA : Nat → ClassId} {ad : Key → Nat} {M : Mem} {K j i N : Nat} {c : Bool} (h : aln X0 K = some (N, c)) : ent dA ad M (K, j, i) = .inl (dA (if c = true then 1 else 0), N, .inl (M K j i)) := by
  have hK : ¬ K < NC := fun q => by rw [(aln_NC K q).1] at h; cases h
  unfold ent
  rw [if_neg hK]
  simp only [h]
theorem rln_K {K N : Nat} (h : rln K = some N) : (K = 9 ∨ K = 10 ∨ K = 11 ∨ K = 12) := by
  unfold rln at h
  split at h <;> simp_all
theorem ent_r {dA : Nat → ClassId} {ad : Key → Nat} {M : Mem} {K j i N : Nat} (h : rln K = some N) : ent dA ad M (K, j, i) = .inl (dA (K - 7), N, .inr (.inr (.inr (.inr (fun n => some (ad (ael K j n))))))) := by
  unfold ent
  rcases rln_K h with rfl | rfl | rfl | rfl <;> (cases h; rfl)
theorem tys_r {dA : Nat → ClassId} {K N : Nat} (h : rln K = some N) : ∃ C, (tysA dA)[K - 7]? = some (dA (K - 7), .object C) := by
  rcases rln_K h with rfl | rfl | rfl | rfl <;> exact ⟨_, rfl⟩
theorem ent_wr {dA : Nat → ClassId} {ad : Key → Nat} {M : Mem} {K j i s N : Nat} {c : Bool} {v : Int32} (h : aln X0 K = some (N, c)) : ent dA ad (wr M K j i s v) (K, j, i) = .inl (dA (if c = true then 1 else 0), N, .inl (upd (M K j i) s v)) := by
  rw [ent_a h]
  congr 3
  congr 1
  funext q
  by_cases e : q = s
  · subst e; simp [wr, upd]
  · simp [wr, upd, e]
theorem ent_cp_o {dA : Nat → ClassId} {ad : Key → Nat} {M : Mem} {K j i sp dp n : Nat} {k2 k' : Key} (h : k' ≠ k2) : ent dA ad (cpA M K j i k2.1 k2.2.1 k2.2.2 sp dp n) k' = ent dA ad M k' := by
  obtain ⟨K2, j2, i2⟩ := k2
  obtain ⟨K', j', i'⟩ := k'
  have key : ∀ q, cpA M K j i K2 j2 i2 sp dp n K' j' i' q = M K' j' i' q := by
    intro q
    unfold cpA
    rw [if_neg]
    rintro ⟨rfl, rfl, rfl, -⟩
    exact h rfl
  unfold ent
  simp only
  split
  · have e : fdsOf ad K' j' i' (cpA M K j i K2 j2 i2 sp dp n) = fdsOf ad K' j' i' M := by
      unfold fdsOf
      refine List.map_congr_left fun q _ => ?_
      split
      · rfl
      · rw [key]
    rw [e]
  · split
    · congr 3
      congr 1
      funext q
      exact key q
    · rfl
theorem ent_cp {dA : Nat → ClassId} {ad : Key → Nat} {M : Mem} {K j i K2 j2 i2 sp dp n N : Nat} {c : Bool} (h : aln X0 K2 = some (N, c)) : ent dA ad (cpA M K j i K2 j2 i2 sp dp n) (K2, j2, i2) = .inl (dA (if c = true then 1 else 0), N, .inl (va_cpy (M K j i) (M K2 j2 i2) sp dp n)) := by
  rw [ent_a h]
  congr 3
  congr 1
  funext q
  unfold va_cpy cpA
  by_cases e : dp ≤ q ∧ q < dp + n
  · simp [e]
  · rw [if_neg e, if_neg]
    rintro ⟨-, -, -, q2⟩
    exact e q2
theorem tgs_len {pc : Nat} : ∀ {os : List Int} {l : List Nat}, tgs pc os = some l → l.length = os.length := by
  intro os
  induction os with
  | nil => intro l h; cases h; rfl
  | cons o os ih =>
    intro l h
    rw [tgs] at h
    split at h
    · next t r h1 h2 => cases h; simp [ih h2]
    · cases h
theorem ofInt_toInt {lo : Int} (h1 : -2147483648 ≤ lo) (h2 : lo < 2147483648) : (Int32.ofInt lo).toInt = lo := by
  rw [Int32.toInt_ofInt]
  show Int.bmod lo 4294967296 = lo
  unfold Int.bmod
  simp only
  split <;> omega
theorem swN_in {pc d : Nat} {a : Int32} : ∀ (os : List Int) (l : List Nat) (lo : Int) (j : Nat) (off : Int), tgs pc os = some l → a.toInt = lo + j → os[j]? = some off → -2147483648 ≤ lo → lo + os.length ≤ 2147483648 → (pc : Int) + off = (swN a lo l d : Int) := by
  intro os
  induction os with
  | nil => intro l lo j off _ _ h; simp at h
  | cons o os ih =>
    intro l lo j off h ha ho h1 h2
    rw [tgs] at h
    split at h
    · next t r q1 q2 =>
      cases h
      rw [List.length_cons] at h2
      cases j with
      | zero =>
        simp only [List.getElem?_cons_zero, Option.some.injEq] at ho
        subst ho
        have e : a = Int32.ofInt lo := by
          apply Int32.toInt_inj.mp
          rw [ofInt_toInt h1 (by omega), ha]; simp
        rw [swN, if_pos e]
        exact tg_spec q1
      | succ j =>
        have e : ¬ a = Int32.ofInt lo := by
          intro q
          rw [q, ofInt_toInt h1 (by omega)] at ha
          omega
        rw [swN, if_neg e]
        exact ih r (lo + 1) j off q2 (by omega) (by simpa using ho) (by omega) (by omega)
    · cases h
theorem swN_out {d : Nat} {a : Int32} : ∀ (l : List Nat) (lo : Int), -2147483648 ≤ lo → lo + l.length ≤ 2147483648 → (a.toInt < lo ∨ lo + l.length ≤ a.toInt) → swN a lo l d = d := by
  intro l
  induction l with
  | nil => intro lo _ _ _; rfl
  | cons t l ih =>
    intro lo h1 h2 h3
    rw [List.length_cons] at h2 h3
    have e : ¬ a = Int32.ofInt lo := by
      intro q
      rw [q, ofInt_toInt h1 (by omega)] at h3
      omega
    rw [swN, if_neg e]
    exact ih (lo + 1) (by omega) (by omega) (by omega)
section
variable {p : Program} {l : Launch} {env : Env} {R : Room} {s : State} {m : MethodId} {args : Array Value} {below : List Frame} {meth : Method} {c : Code} {cells slots : Nat} {Q : State → Prop} {D : va_G} {dA : Nat → ClassId} {ad : Key → Nat} {X : SX} {e : ME}
def HY (p : Program) (s : State) (m : MethodId) (args : Array Value) (c : Code) (D : va_G) (dA : Nat → ClassId) (ad : Key → Nat) (X : SX) (e : ME) : Prop :=
  p.tables.exec = Jvm.exec ∧ c.code = eB e ∧ c.maxLocals = eL e ∧ s.vm.findClass (ownS (eO e)) = some m.cls ∧ (∀ w ∈ gtbl, w.before args s = true) ∧ Cx D dA ad X s
def Gs (p : Program) (l : Launch) (env : Env) (R : Room) (s : State) (m : MethodId) (args : Array Value) (below : List Frame) (meth : Method) (c : Code) (cells slots : Nat) (Q : State → Prop) (D : va_G) (dA : Nat → ClassId) (ad : Key → Nat) (e : ME) (s1 : St) : Prop :=
  ∀ (H : Heap) (locs : List Loc) (als : Array Slot), LR ad (eG e) (eL e) s1.2.1 als → va_P D vwCl (WS dA ad s1.2.2.2) H → va_S (AA ad) s.heap H locs → W p l env R s m args below meth c H locs cells slots Q (F0 m s1.1 als (s1.2.2.1.map (cv ad)))
/-- the contracts of the JDK's String members, on the constants -/
def wsP (y : MethodName) (b : ByteArray) (n : Nat) (r : Option FieldType) : List Jvm.Cond := .code y b n r :: gtbl
def HLn (l : Launch) (ad : Key → Nat) : Prop := ∀ (i : Nat) (sx : List Nat), nth strT i = some sx → Met l Y_ln (wsP Y_ln cJ0_length_8abf5 1 (some .int)) { frames := 1, cells := 0, slots := 0, locals := 20 } (fun a U => a = #[Value.ref (ad (31, i, 0))] ∧ SS ad U U.heap) (fun _ st o t => o = .returned (some (.int (nI sx.length))) ∧ t.heap = st.heap) 0 0 (fun _ => False)
def HCh (l : Launch) (ad : Key → Nat) : Prop := ∀ (i : Nat) (sx : List Nat) (k : Int32), nth strT i = some sx → inb k sx.length = true → Met l Y_ch (wsP Y_ch cJ0_charAt_5068e 2 (some .char)) { frames := 4, cells := 0, slots := 0, locals := 85 } (fun a U => a = #[Value.ref (ad (31, i, 0)), .int k] ∧ SS ad U U.heap) (fun _ st o t => o = .returned (some (.int (nI (sx.getD k.toNatClampNeg 0)))) ∧ t.heap = st.heap) 0 0 (fun _ => False)
theorem P_set {c0 : Nat} {k : Key} {x : va_E} {M M' : Mem} {H : Heap} (hc : AK[c0]? = some k) (hP : va_P D vwCl ((WS dA ad M).set c0 (ad k, x)) H) (hx : ent dA ad M' k = x) (ho : ∀ k', k' ≠ k → ent dA ad M' k' = ent dA ad M k') : va_P D vwCl (WS dA ad M') H := by
  rw [WS_set hc hx ho] at hP
  exact hP
theorem vst_cons {v : V} {st : List V} (h : vok v) (hs : vst st) : vst (v :: st) := fun w hw => by
  rcases List.mem_cons.mp hw with rfl | hw
  · exact h
  · exact hs w hw
theorem vst_tail {v : V} {st : List V} (h : vst (v :: st)) : vst st := fun w hw => h w (List.mem_cons_of_mem _ hw)
theorem vok_small {k : Key} (h : vok (.inr (.inr (some k)))) (hk : k.1 < 22) : k ∈ AK := by
  rcases h with h | h | h
  · exact h
  · rw [h] at hk; exact absurd hk (by decide)
  · have := h.1; omega
theorem ard_n {X : SX} {M : Mem} {K j i n : Nat} (h : K ≠ 30) : ard X M K j i n = M K j i n := by
  unfold ard
  split
  · exact absurd rfl h
  · rfl
theorem lt_str : ∀ q ∈ LTab, ∃ s, nth strT q.2 = some s := by
  intro q hq
  have h : ∀ q ∈ LTab, q.2 < strT.length := by decide +kernel
  exact ⟨_, by rw [nth_get]; exact List.getElem?_eq_getElem (h q hq)⟩
theorem cpOK_spec {sp n : Int32} {N : Nat} (h : cpOK sp n N = true) : ¬ sp < 0 ∧ ¬ n < 0 ∧ sp.toNatClampNeg + n.toNatClampNeg ≤ N := by
  simp only [cpOK, Bool.and_eq_true, Bool.not_eq_true', decide_eq_false_iff_not, decide_eq_true_eq] at h
  exact ⟨h.1.1, h.1.2, h.2⟩
/-- a call whose callee writes nothing: reading the old heap alone -/
theorem W_read {H : Heap} {locs : List Loc} {als : Array Slot} {pc : Nat} {st0 rest : List Value} {r : Option Value} {Qa : State → Outcome → State → Prop} (hr : va_Run p l env R s m args below meth c H locs cells slots 0 0 (F0 m pc als st0) rest Qa (fun _ => False)) (hS : va_S (AA ad) s.heap H locs)
    (hq : ∀ (st t : State) (v : Option Value), st.heap = H → Qa st (.returned v) t → v = r ∧ t.heap = st.heap)
    (kk : ∀ (locs1 : List Loc), va_S (AA ad) s.heap H locs1 → W p l env R s m args below meth c H locs1 cells slots Q (F0 m (pc + 3) als (r.toList ++ rest))) : W p l env R s m args below meth c H locs cells slots Q (F0 m pc als st0) := by
  intro T hT X
  obtain ⟨v, st₀, t, T', L, h0, X', hL, e1, e2, hqa, st⟩ := hr T hT X
  obtain ⟨rfl, hh⟩ := hq st₀ t v h0 hqa
  obtain ⟨t2, a1, b1⟩ := kk (locs ++ L) ⟨hS.1, hS.2.1, fun q hq => by
      rcases List.mem_append.mp hq with h | h
      · exact hS.2.2 q h
      · exact (hL q h).elim⟩ T' (by rw [e1, hh, h0]) X'
  exact ⟨t2, st t2 a1, b1⟩
theorem SS_recv {i : Nat} {sx : List Nat} {U : State} {H : Heap} (h : SS ad U H) (hi : nth strT i = some sx) : ∃ cell : Cell, H[ad (31, i, 0)]? = some cell ∧ cell.vm.isStatics = false ∧ U.vm.findClass "java/lang/String" = some cell.cls := by
  obtain ⟨⟨adV, h1⟩, -⟩ := h
  have hl : i < strT.length := by
    rw [nth_get] at hi
    exact (List.getElem?_eq_some_iff.mp hi).1
  obtain ⟨⟨cell, q1, q2, q3, -⟩, -⟩ := h1.1 i hl
  exact ⟨cell, q1, q2, q3⟩
theorem str_words : (Cond.instanceMethod Y_ln ∈ gtbl ∧ Cond.selects "java/lang/String" Y_ln Y_ln ∈ gtbl ∧ Cond.initialized "java/lang/String" ∈ gtbl ∧ Cond.code Y_ln cJ0_length_8abf5 1 (some .int) ∈ gtbl) ∧ (Cond.instanceMethod Y_ch ∈ gtbl ∧ Cond.selects "java/lang/String" Y_ch Y_ch ∈ gtbl ∧ Cond.code Y_ch cJ0_charAt_5068e 2 (some .char) ∈ gtbl) ∧ (Cond.native Y_ac ∈ gtbl ∧ Cond.static Y_ac ∈ gtbl ∧ Cond.initialized "java/lang/System" ∈ gtbl) := by
  refine ⟨⟨mem_t (k := 516) (by decide +kernel), mem_t (k := 517) (by decide +kernel), mem_t (k := 11) (by decide +kernel), mem_t (k := 518) (by decide +kernel)⟩, ⟨mem_t (k := 526) (by decide +kernel), mem_t (k := 527) (by decide +kernel), mem_t (k := 528) (by decide +kernel)⟩, ⟨mem_t (k := 246) (by decide +kernel), mem_t (k := 245) (by decide +kernel), mem_t (k := 10) (by decide +kernel)⟩⟩
theorem good_code {y : MethodName} {b : ByteArray} {n : Nat} {r : Option FieldType} {own C : String} {ix : Nat} (h1 : Cond.methodLink own ix y ∈ gtbl) (h2 : Cond.instanceMethod y ∈ gtbl) (h3 : Cond.selects C y y ∈ gtbl) (h4 : Cond.initialized C ∈ gtbl) (h5 : Cond.code y b n r ∈ gtbl) : GoodIn gtbl (wsV own ix C y (wsP y b n r)) := by
  intro w hw
  unfold wsV wsP at hw
  rcases List.mem_append.mp hw with hw | hw
  · simp only [List.mem_cons, List.not_mem_nil, or_false] at hw
    rcases hw with rfl | rfl | rfl | rfl
    · exact ⟨h1, Or.inl (by rfl)⟩
    · exact ⟨h2, Or.inl (by rfl)⟩
    · exact ⟨h3, Or.inl (by rfl)⟩
    · exact ⟨h4, Or.inl (by rfl)⟩
  · rcases List.mem_cons.mp hw with rfl | hw
    · exact ⟨h5, Or.inl (by rfl)⟩
    · exact gtbl_good w hw
theorem good_codeS {y : MethodName} {b : ByteArray} {n : Nat} {r : Option FieldType} {own : String} {ix : Nat} (h1 : Cond.methodLink own ix y ∈ gtbl) (h2 : Cond.static y ∈ gtbl) (h4 : Cond.initialized y.cls ∈ gtbl) (h5 : Cond.code y b n r ∈ gtbl) : GoodIn gtbl (va_wsS own ix y (wsP y b n r)) := by
  intro w hw
  unfold va_wsS wsP at hw
  rcases List.mem_append.mp hw with hw | hw
  · simp only [List.mem_cons, List.not_mem_nil, or_false] at hw
    rcases hw with rfl | rfl | rfl
    · exact ⟨h1, Or.inl (by rfl)⟩
    · exact ⟨h2, Or.inl (by rfl)⟩
    · exact ⟨h4, Or.inl (by rfl)⟩
  · rcases List.mem_cons.mp hw with rfl | hw
    · exact ⟨h5, Or.inl (by rfl)⟩
    · exact gtbl_good w hw
/-- arraycopy, String.length, String.charAt -/
theorem prim_sound (hLn : HLn l ad) (hCh : HCh l ad) (hDD : ∀ M, va_D (AA ad) (WS dA ad M)) (hR : eF e ≤ R.frames ∧ eW e ≤ R.locals ∧ cells ≤ R.cells ∧ slots ≤ R.slots) {z ix pl pc : Nat} {virt : Bool} {ls : List (Option V)} {st : List V} {M : Mem} {s' : St} {I : Instr} (hd : decode (eB e) pc = .ok (I, 3)) (hI : I = if virt = true then .invokevirtual ix else .invokestatic ix) (hf : fnd2 CTab (eO e) ix = some (z, pl)) (h : doCall X e z virt pc ls st M = some (.inl s')) (hvl : vls ls) (hvs : vst st) :
    (vls s'.2.1 ∧ vst s'.2.2.1) ∧ (HY p s m args c D dA ad X e → Gs p l env R s m args below meth c cells slots Q D dA ad e s' → Gs p l env R s m args below meth c cells slots Q D dA ad e (pc, ls, st, M)) := by
  have hmem := fnd2_mem _ _ _ _ hf
  unfold doCall at h
  cases h0 : Nat.beq z 1000 with
  | true =>
    obtain rfl := Nat.eq_of_beq_eq_true h0
    rw [h0, cond_true] at h
    split at h
    · next n dp K2 j2 i2 sp K j i st =>
      rw [if_neg (by decide)] at hI
      subst hI
      split at h
      · next n1 n2 ha1 ha2 =>
        have hg := (gd_some h).1; replace h := (gd_some h).2
        simp only [Bool.and_eq_true, Bool.not_eq_true'] at hg
        obtain ⟨⟨⟨⟨⟨⟨g1, g2⟩, g3⟩, g4⟩, g5⟩, g6⟩, g7⟩ := hg
        have hK : K ≠ 30 := Nat.ne_of_beq_eq_false g3
        have hK2 : K2 ≠ 30 := Nat.ne_of_beq_eq_false g4
        rw [aln_X hK] at ha1
        rw [aln_X hK2] at ha2
        obtain rfl := nx_some h
        have hv3 := vst_tail (vst_tail (vst_tail (vst_tail (vst_tail hvs))))
        refine ⟨⟨hvl, hv3⟩, fun hy K1 H locs als hL hP hS => ?_⟩
        obtain ⟨hx, hb, hml, hown, hts, hCx⟩ := hy
        have small : ∀ {K j i N : Nat}, aln X0 K = some (N, false) → K ≠ 30 → vok (.inr (.inr (some (K, j, i)))) → (K, j, i) ∈ AK := by
          intro K j i N ha hK hv
          rcases hv with hk | hk | hk
          · exact hk
          · cases hk; exact absurd rfl hK
          · have e : K = 31 := hk.1
            subst e
            cases ha
        obtain ⟨c1, hc1⟩ := List.getElem?_of_mem (small ha1 hK (hvs _ (List.mem_cons_of_mem _ (List.mem_cons_of_mem _ (List.mem_cons_of_mem _ (List.mem_cons_of_mem _ List.mem_cons_self))))))
        obtain ⟨c2, hc2⟩ := List.getElem?_of_mem (small ha2 hK2 (hvs _ (List.mem_cons_of_mem _ (List.mem_cons_of_mem _ List.mem_cons_self))))
        obtain ⟨p1, p2, p3⟩ := cpOK_spec g5
        obtain ⟨p4, -, p6⟩ := cpOK_spec g6
        refine va_copyi (D := D) (A := AA ad) (H0 := s.heap) hx hb (by rw [hml, hL.2.1]) hown (hts _ (mem_t (ct_ac _ hmem rfl))) (hts _ str_words.2.2.1) (hts _ str_words.2.2.2.1) (hts _ str_words.2.2.2.2) hCx.1 hP (hDD M) hS c1 c2 0 0 (f := M K j i) (g := M K2 j2 i2) (by rw [WS_at hc1, ent_a ha1]; rfl) (by rw [WS_at hc2, ent_a ha2]; rfl) rfl rfl rfl p1 p4 p2 p3 p6 (fun _ _ => rfl) (by have := Nat.le_of_ble_eq_true g1; omega) ?_ hd (fun H1 locs1 hP1 _ hS1 => K1 H1 locs1 als hL ?_ hS1)
        · rw [cat_S]
          have := Nat.le_of_ble_eq_true g2
          have := Nat.le_of_ble_eq_true g7
          show catS st + (7 + 11) ≤ R.locals
          omega
        · exact P_set hc2 hP1 (ent_cp ha2) (fun k' hk' => ent_cp_o (k2 := (K2, j2, i2)) hk')
      · cases h
    · cases h
  | false =>
    rw [h0, cond_false] at h
    cases h1 : Nat.beq z 1001 with
    | true =>
      obtain rfl := Nat.eq_of_beq_eq_true h1
      rw [h1, cond_true] at h
      split at h
      · next i x0 st =>
        rw [if_pos rfl] at hI
        subst hI
        split at h
        · next sx hsx =>
          have hg := (gd_some h).1; replace h := (gd_some h).2
          simp only [Bool.and_eq_true] at hg
          obtain ⟨⟨g1, g2⟩, g3⟩ := hg
          obtain rfl := nx_some h
          have hx0 : x0 = 0 := by
            rcases hvs _ List.mem_cons_self with hk | hk | hk
            · have := AK_k _ hk; simp only at this; omega
            · cases hk
            · exact hk.2.1
          subst hx0
          refine ⟨⟨hvl, vst_cons trivial (vst_tail hvs)⟩, fun hy K1 H locs als hL hP hS => ?_⟩
          obtain ⟨hx, hb, hml, hown, hts, hCx⟩ := hy
          have hG := good_code (b := cJ0_length_8abf5) (n := 1) (r := some .int) (mem_t (ct_ln _ hmem rfl)) str_words.1.1 str_words.1.2.1 str_words.1.2.2.1 str_words.1.2.2.2
          refine W_read (Q := Q) (r := some (.int (nI sx.length))) (va_runV (As := []) (rest := st.map (cv ad)) ⟨hx, hb, hml, hown, hts⟩ (hLn i sx hsx) (cwV 0 hts hG rfl rfl rfl (by decide +kernel) ⟨?_, ?_⟩) ⟨fun a U g mk q => q, ?_, fun U hU hW => ⟨rfl, by have h5 := hCx.2.2.2.2; rw [hU]; exact SS_to h5 hS.2.1 hW⟩⟩ rfl rfl hL.2.1 rfl (lv_room (by rw [cat_S]; exact Nat.le_of_ble_eq_true g3)) hd ⟨hR.2.2.1, hR.2.2.2⟩) hS (fun st t v _ hq => ⟨Outcome.returned.inj hq.1, hq.2⟩) (fun locs1 hS1 => K1 H locs1 als hL hP hS1)
          · have := Nat.le_of_ble_eq_true g1
            show 1 + 1 ≤ R.frames
            omega
          · have := Nat.le_of_ble_eq_true g2
            show 8 + (1 + 11) + 20 ≤ R.locals
            omega
          · obtain ⟨cell, q1, q2, q3⟩ := SS_recv hCx.2.2.2.2 hsx
            have hlt := (Array.getElem?_eq_some_iff.mp q1).1
            have hA : ¬ AA ad (ad (31, i, 0)) := by
              have hl : i < strT.length := by
                rw [nth_get] at hsx
                exact (List.getElem?_eq_some_iff.mp hsx).1
              obtain ⟨⟨adV, h1⟩, -⟩ := hCx.2.2.2.2
              obtain ⟨⟨_, _, _, _, q4⟩, -⟩ := h1.1 i hl
              exact q4
            exact ⟨cell, by rw [hS.2.1 _ hlt hA]; exact q1, q2, q3⟩
        · cases h
      · cases h
    | false =>
      rw [h1, cond_false] at h
      cases h2 : Nat.beq z 1002 with
      | true =>
        obtain rfl := Nat.eq_of_beq_eq_true h2
        rw [h2, cond_true] at h
        split at h
        · next k i x0 st =>
          rw [if_pos rfl] at hI
          subst hI
          split at h
          · next sx hsx =>
            have hg := (gd_some h).1; replace h := (gd_some h).2
            simp only [Bool.and_eq_true] at hg
            obtain ⟨⟨⟨g0, g1⟩, g2⟩, g3⟩ := hg
            obtain rfl := nx_some h
            have hx0 : x0 = 0 := by
              rcases hvs _ (List.mem_cons_of_mem _ List.mem_cons_self) with hk | hk | hk
              · have := AK_k _ hk; simp only at this; omega
              · cases hk
              · exact hk.2.1
            subst hx0
            refine ⟨⟨hvl, vst_cons trivial (vst_tail (vst_tail hvs))⟩, fun hy K1 H locs als hL hP hS => ?_⟩
            obtain ⟨hx, hb, hml, hown, hts, hCx⟩ := hy
            have hG := good_code (b := cJ0_charAt_5068e) (n := 2) (r := some .char) (mem_t (ct_ch _ hmem rfl)) str_words.2.1.1 str_words.2.1.2.1 str_words.1.2.2.1 str_words.2.1.2.2
            refine W_read (Q := Q) (r := some (.int (nI (sx.getD k.toNatClampNeg 0)))) (va_runV (As := [.int k]) (rest := st.map (cv ad)) ⟨hx, hb, hml, hown, hts⟩ (hCh i sx k hsx g0) (cwV 1 hts hG rfl rfl rfl (by decide +kernel) ⟨?_, ?_⟩) ⟨fun a U g mk q => q, ?_, fun U hU hW => ⟨rfl, by have h5 := hCx.2.2.2.2; rw [hU]; exact SS_to h5 hS.2.1 hW⟩⟩ rfl rfl hL.2.1 rfl (lv_room (by rw [cat_S]; exact Nat.le_of_ble_eq_true g3)) hd ⟨hR.2.2.1, hR.2.2.2⟩) hS (fun st t v _ hq => ⟨Outcome.returned.inj hq.1, hq.2⟩) (fun locs1 hS1 => K1 H locs1 als hL hP hS1)
            · have := Nat.le_of_ble_eq_true g1
              show 4 + 1 ≤ R.frames
              omega
            · have := Nat.le_of_ble_eq_true g2
              show 8 + (2 + 11) + 85 ≤ R.locals
              omega
            · obtain ⟨cell, q1, q2, q3⟩ := SS_recv hCx.2.2.2.2 hsx
              have hlt := (Array.getElem?_eq_some_iff.mp q1).1
              have hA : ¬ AA ad (ad (31, i, 0)) := by
                have hl : i < strT.length := by
                  rw [nth_get] at hsx
                  exact (List.getElem?_eq_some_iff.mp hsx).1
                obtain ⟨⟨adV, h1⟩, -⟩ := hCx.2.2.2.2
                obtain ⟨⟨_, _, _, _, q4⟩, -⟩ := h1.1 i hl
                exact q4
              exact ⟨cell, by rw [hS.2.1 _ hlt hA]; exact q1, q2, q3⟩
          · cases h
        · cases h
      | false =>
        rw [h2, cond_false] at h
        split at h
        · cases h
        · split at h
          · cases h
          · next as rest _ =>
            cases virt with
            | true =>
              rw [cond_true] at h
              split at h
              · replace h := (gd_some h).2; cases h
              · cases h
            | false =>
              rw [cond_false] at h
              replace h := (gd_some h).2; cases h

set_option maxRecDepth 100000 in
set_option maxHeartbeats 4000000 in
theorem one_sound (hLn : HLn l ad) (hCh : HCh l ad) (hDD : ∀ M, va_D (AA ad) (WS dA ad M)) (hR : eF e ≤ R.frames ∧ eW e ≤ R.locals ∧ cells ≤ R.cells ∧ slots ≤ R.slots) {I : Instr} {n pc : Nat} {ls : List (Option V)} {st : List V} {M : Mem} {s' : St} (h : stepI X e I n pc ls st M = some (.inl s')) (hd : decode (eB e) pc = .ok (I, n)) (hlen : lenOK I n = true) (hvl : vls ls) (hvs : vst st) :
    (vls s'.2.1 ∧ vst s'.2.2.1) ∧ (HY p s m args c D dA ad X e → Gs p l env R s m args below meth c cells slots Q D dA ad e s' → Gs p l env R s m args below meth c cells slots Q D dA ad e (pc, ls, st, M)) := by
  cases I with
  | iconst k =>
    have hn := lenOK_eq hlen (by simp [lenI])
    simp only [lenI] at hn
    subst hn
    simp only [stepI] at h
    obtain rfl := nx_some h
    exact ⟨⟨hvl, vst_cons trivial hvs⟩, fun hy K H locs als hL hP hS => by
      obtain ⟨hx, hb, hml, hown, hts, hCx⟩ := hy
      exact lv_iconst hx hb hd rfl (K H locs als hL hP hS)⟩
  | bipush k =>
    have hn := lenOK_eq hlen (by simp [lenI])
    simp only [lenI] at hn
    subst hn
    simp only [stepI] at h
    obtain rfl := nx_some h
    exact ⟨⟨hvl, vst_cons trivial hvs⟩, fun hy K H locs als hL hP hS => by
      obtain ⟨hx, hb, hml, hown, hts, hCx⟩ := hy
      exact lv_bipush hx hb hd rfl (K H locs als hL hP hS)⟩
  | sipush k =>
    have hn := lenOK_eq hlen (by simp [lenI])
    simp only [lenI] at hn
    subst hn
    simp only [stepI] at h
    obtain rfl := nx_some h
    exact ⟨⟨hvl, vst_cons trivial hvs⟩, fun hy K H locs als hL hP hS => by
      obtain ⟨hx, hb, hml, hown, hts, hCx⟩ := hy
      exact lv_sipush hx hb hd rfl (K H locs als hL hP hS)⟩
  | lconst k =>
    have hn := lenOK_eq hlen (by simp [lenI])
    simp only [lenI] at hn
    subst hn
    simp only [stepI] at h
    obtain rfl := nx_some h
    exact ⟨⟨hvl, vst_cons trivial hvs⟩, fun hy K H locs als hL hP hS => by
      obtain ⟨hx, hb, hml, hown, hts, hCx⟩ := hy
      exact lv_lconst hx hb hd rfl (K H locs als hL hP hS)⟩
  | aconst_null =>
    have hn := lenOK_eq hlen (by simp [lenI])
    simp only [lenI] at hn
    subst hn
    simp only [stepI] at h
    obtain rfl := nx_some h
    exact ⟨⟨hvl, vst_cons trivial hvs⟩, fun hy K H locs als hL hP hS => by
      obtain ⟨hx, hb, hml, hown, hts, hCx⟩ := hy
      exact lv_null hx hb hd (K H locs als hL hP hS)⟩
  | iload_n k =>
    have hn := lenOK_eq hlen (by simp [lenI])
    simp only [lenI] at hn
    subst hn
    simp only [stepI] at h
    split at h
    · next v hv =>
      obtain rfl := nx_some h
      exact ⟨⟨hvl, vst_cons (hvl _ _ hv) hvs⟩, fun hy K H locs als hL hP hS => by
        obtain ⟨hx, hb, hml, hown, hts, hCx⟩ := hy
        exact lv_iload_n hx hb hd rfl (hL.2.2.2.1 _ _ hv) (K H locs als hL hP hS)⟩
    · cases h
  | lload_n k =>
    have hn := lenOK_eq hlen (by simp [lenI])
    simp only [lenI] at hn
    subst hn
    simp only [stepI] at h
    split at h
    · next v hv =>
      obtain rfl := nx_some h
      exact ⟨⟨hvl, vst_cons (hvl _ _ hv) hvs⟩, fun hy K H locs als hL hP hS => by
        obtain ⟨hx, hb, hml, hown, hts, hCx⟩ := hy
        exact lv_lload_n hx hb hd rfl (hL.2.2.2.1 _ _ hv) (K H locs als hL hP hS)⟩
    · cases h
  | iload k =>
    have hn := lenOK_eq hlen (by simp [lenI])
    simp only [lenI] at hn
    subst hn
    simp only [stepI] at h
    split at h
    · next v hv =>
      replace h := (gd_some h).2
      obtain rfl := nx_some h
      exact ⟨⟨hvl, vst_cons (hvl _ _ hv) hvs⟩, fun hy K H locs als hL hP hS => by
        obtain ⟨hx, hb, hml, hown, hts, hCx⟩ := hy
        exact lv_iload hx hb hd (hL.2.2.2.1 _ _ hv) (K H locs als hL hP hS)⟩
    · cases h
  | aload_n k =>
    have hn := lenOK_eq hlen (by simp [lenI])
    simp only [lenI] at hn
    subst hn
    simp only [stepI] at h
    split at h
    · next v hv =>
      obtain rfl := nx_some h
      refine ⟨⟨hvl, vst_cons (hvl _ _ hv) hvs⟩, fun hy K H locs als hL hP hS => ?_⟩
      obtain ⟨hx, hb, hml, hown, hts, hCx⟩ := hy
      cases v with
      | none => exact lv_aload_nN hx hb hd rfl (hL.2.2.2.1 _ _ hv) (K H locs als hL hP hS)
      | some v => exact lv_aload_n hx hb hd rfl (hL.2.2.2.1 _ _ hv) (K H locs als hL hP hS)
    · cases h
  | aload k =>
    have hn := lenOK_eq hlen (by simp [lenI])
    simp only [lenI] at hn
    subst hn
    simp only [stepI] at h
    split at h
    · next v hv =>
      replace h := (gd_some h).2
      obtain rfl := nx_some h
      refine ⟨⟨hvl, vst_cons (hvl _ _ hv) hvs⟩, fun hy K H locs als hL hP hS => ?_⟩
      obtain ⟨hx, hb, hml, hown, hts, hCx⟩ := hy
      cases v with
      | none => exact lv_aloadN hx hb hd (hL.2.2.2.1 _ _ hv) (K H locs als hL hP hS)
      | some v => exact lv_aload hx hb hd (hL.2.2.2.1 _ _ hv) (K H locs als hL hP hS)
    · cases h
  | istore_n k =>
    have hn := lenOK_eq hlen (by simp [lenI])
    simp only [lenI] at hn
    subst hn
    simp only [stepI] at h
    split at h
    · next v st =>
      have hg := (gd_some h).1; replace h := (gd_some h).2
      have hi := Nat.blt_eq.mp hg
      obtain rfl := nx_some h
      exact ⟨⟨vls_st1 hvl (hvs _ List.mem_cons_self), vst_tail hvs⟩, fun hy K H locs als hL hP hS => by
        obtain ⟨hx, hb, hml, hown, hts, hCx⟩ := hy
        exact lv_istore_n hx hb hd rfl (LR_has hL) (by rw [← hL.1]; exact hi) rfl (fun als2 h2 => K H locs als2 (LR_st1 (v := .inl v) hL (by rw [← hL.1]; exact hi) rfl h2) hP hS)⟩
    · cases h
  | istore k =>
    have hn := lenOK_eq hlen (by simp [lenI])
    simp only [lenI] at hn
    subst hn
    simp only [stepI] at h
    split at h
    · next v st =>
      have hg := (gd_some h).1; replace h := (gd_some h).2
      simp only [Bool.and_eq_true] at hg
      have hi := Nat.blt_eq.mp hg.2
      obtain rfl := nx_some h
      exact ⟨⟨vls_st1 hvl (hvs _ List.mem_cons_self), vst_tail hvs⟩, fun hy K H locs als hL hP hS => by
        obtain ⟨hx, hb, hml, hown, hts, hCx⟩ := hy
        exact lv_istore hx hb hd (LR_has hL) (by rw [← hL.1]; exact hi) rfl (fun als2 h2 => K H locs als2 (LR_st1 (v := .inl v) hL (by rw [← hL.1]; exact hi) rfl h2) hP hS)⟩
    · cases h
  | lstore_n k =>
    have hn := lenOK_eq hlen (by simp [lenI])
    simp only [lenI] at hn
    subst hn
    simp only [stepI] at h
    split at h
    · next v st =>
      have hg := (gd_some h).1; replace h := (gd_some h).2
      simp only [Bool.and_eq_true] at hg
      have hi := Nat.blt_eq.mp hg.2
      obtain rfl := nx_some h
      refine ⟨⟨vls_st2 hvl (hvs _ List.mem_cons_self), vst_tail hvs⟩, fun hy K H locs als hL hP hS => ?_⟩
      obtain ⟨hx, hb, hml, hown, hts, hCx⟩ := hy
      refine lv_lstore_n hx hb hd rfl (LR_has hL) (by rw [← hL.1]; exact hi) rfl (fun als2 h2 => K H locs als2 ?_ hP hS)
      rw [hg.1] at hL ⊢
      exact LR_st2 (v := .inr (.inl v)) hL (by rw [← hL.1]; exact hi) h2
    · cases h
  | astore_n k =>
    have hn := lenOK_eq hlen (by simp [lenI])
    simp only [lenI] at hn
    subst hn
    simp only [stepI] at h
    split at h
    · next v st =>
      have hg := (gd_some h).1; replace h := (gd_some h).2
      have hi := Nat.blt_eq.mp hg
      obtain rfl := nx_some h
      refine ⟨⟨vls_st1 hvl (hvs _ List.mem_cons_self), vst_tail hvs⟩, fun hy K H locs als hL hP hS => ?_⟩
      obtain ⟨hx, hb, hml, hown, hts, hCx⟩ := hy
      cases v with
      | none => exact lv_astore_nN hx hb hd rfl (LR_has hL) (by rw [← hL.1]; exact hi) rfl (fun als2 h2 => K H locs als2 (LR_st1 (v := .inr (.inr none)) hL (by rw [← hL.1]; exact hi) rfl h2) hP hS)
      | some v => exact lv_astore_n hx hb hd rfl (LR_has hL) (by rw [← hL.1]; exact hi) rfl (fun als2 h2 => K H locs als2 (LR_st1 (v := .inr (.inr (some v))) hL (by rw [← hL.1]; exact hi) rfl h2) hP hS)
    · cases h
  | astore k =>
    have hn := lenOK_eq hlen (by simp [lenI])
    simp only [lenI] at hn
    subst hn
    simp only [stepI] at h
    split at h
    · next v st =>
      have hg := (gd_some h).1; replace h := (gd_some h).2
      simp only [Bool.and_eq_true] at hg
      have hi := Nat.blt_eq.mp hg.2
      obtain rfl := nx_some h
      refine ⟨⟨vls_st1 hvl (hvs _ List.mem_cons_self), vst_tail hvs⟩, fun hy K H locs als hL hP hS => ?_⟩
      obtain ⟨hx, hb, hml, hown, hts, hCx⟩ := hy
      cases v with
      | none => exact lv_astoreN hx hb hd (LR_has hL) (by rw [← hL.1]; exact hi) rfl (fun als2 h2 => K H locs als2 (LR_st1 (v := .inr (.inr none)) hL (by rw [← hL.1]; exact hi) rfl h2) hP hS)
      | some v => exact lv_astore hx hb hd (LR_has hL) (by rw [← hL.1]; exact hi) rfl (fun als2 h2 => K H locs als2 (LR_st1 (v := .inr (.inr (some v))) hL (by rw [← hL.1]; exact hi) rfl h2) hP hS)
    · cases h
  | iinc k d =>
    have hn := lenOK_eq hlen (by simp [lenI])
    simp only [lenI] at hn
    subst hn
    simp only [stepI] at h
    split at h
    · next v hv =>
      have hg := (gd_some h).1; replace h := (gd_some h).2
      simp only [Bool.and_eq_true] at hg
      have hi := Nat.blt_eq.mp hg.2
      obtain rfl := nx_some h
      refine ⟨⟨vls_st1 hvl trivial, hvs⟩, fun hy K H locs als hL hP hS => ?_⟩
      obtain ⟨hx, hb, hml, hown, hts, hCx⟩ := hy
      obtain ⟨q, hq⟩ := List.getElem?_of_mem ((mem_asc (ad := ad) (ls := ls) (q := (k, .int v))).mpr ⟨_, hv, rfl⟩)
      exact lv_iinc hx hb hd (LR_has hL) hq rfl (by rw [← hL.1]; exact hi) rfl (fun als2 h2 => K H locs als2 (LR_st1 (v := .inl (v + Int32.ofInt d)) hL (by rw [← hL.1]; exact hi) rfl h2) hP hS)
    · cases h
  | iadd =>
    have hn := lenOK_eq hlen (by simp [lenI])
    simp only [lenI] at hn
    subst hn
    simp only [stepI] at h
    split at h
    · next b a st =>
      obtain rfl := nx_some h
      exact ⟨⟨hvl, vst_cons trivial (vst_tail (vst_tail hvs))⟩, fun hy K H locs als hL hP hS => by
        obtain ⟨hx, hb, hml, hown, hts, hCx⟩ := hy
        exact lv_iadd hx hb hd (K H locs als hL hP hS)⟩
    · cases h
  | isub =>
    have hn := lenOK_eq hlen (by simp [lenI])
    simp only [lenI] at hn
    subst hn
    simp only [stepI] at h
    split at h
    · next b a st =>
      obtain rfl := nx_some h
      exact ⟨⟨hvl, vst_cons trivial (vst_tail (vst_tail hvs))⟩, fun hy K H locs als hL hP hS => by
        obtain ⟨hx, hb, hml, hown, hts, hCx⟩ := hy
        exact lv_isub hx hb hd (K H locs als hL hP hS)⟩
    · cases h
  | imul =>
    have hn := lenOK_eq hlen (by simp [lenI])
    simp only [lenI] at hn
    subst hn
    simp only [stepI] at h
    split at h
    · next b a st =>
      obtain rfl := nx_some h
      exact ⟨⟨hvl, vst_cons trivial (vst_tail (vst_tail hvs))⟩, fun hy K H locs als hL hP hS => by
        obtain ⟨hx, hb, hml, hown, hts, hCx⟩ := hy
        exact lv_imul hx hb hd (K H locs als hL hP hS)⟩
    · cases h
  | iand =>
    have hn := lenOK_eq hlen (by simp [lenI])
    simp only [lenI] at hn
    subst hn
    simp only [stepI] at h
    split at h
    · next b a st =>
      obtain rfl := nx_some h
      exact ⟨⟨hvl, vst_cons trivial (vst_tail (vst_tail hvs))⟩, fun hy K H locs als hL hP hS => by
        obtain ⟨hx, hb, hml, hown, hts, hCx⟩ := hy
        exact lv_iand hx hb hd (K H locs als hL hP hS)⟩
    · cases h
  | ior =>
    have hn := lenOK_eq hlen (by simp [lenI])
    simp only [lenI] at hn
    subst hn
    simp only [stepI] at h
    split at h
    · next b a st =>
      obtain rfl := nx_some h
      exact ⟨⟨hvl, vst_cons trivial (vst_tail (vst_tail hvs))⟩, fun hy K H locs als hL hP hS => by
        obtain ⟨hx, hb, hml, hown, hts, hCx⟩ := hy
        exact lv_ior hx hb hd (K H locs als hL hP hS)⟩
    · cases h
  | ixor =>
    have hn := lenOK_eq hlen (by simp [lenI])
    simp only [lenI] at hn
    subst hn
    simp only [stepI] at h
    split at h
    · next b a st =>
      obtain rfl := nx_some h
      exact ⟨⟨hvl, vst_cons trivial (vst_tail (vst_tail hvs))⟩, fun hy K H locs als hL hP hS => by
        obtain ⟨hx, hb, hml, hown, hts, hCx⟩ := hy
        exact lv_ixor hx hb hd (K H locs als hL hP hS)⟩
    · cases h
  | ishl =>
    have hn := lenOK_eq hlen (by simp [lenI])
    simp only [lenI] at hn
    subst hn
    simp only [stepI] at h
    split at h
    · next b a st =>
      obtain rfl := nx_some h
      exact ⟨⟨hvl, vst_cons trivial (vst_tail (vst_tail hvs))⟩, fun hy K H locs als hL hP hS => by
        obtain ⟨hx, hb, hml, hown, hts, hCx⟩ := hy
        exact lv_ishl hx hb hd (K H locs als hL hP hS)⟩
    · cases h
  | ishr =>
    have hn := lenOK_eq hlen (by simp [lenI])
    simp only [lenI] at hn
    subst hn
    simp only [stepI] at h
    split at h
    · next b a st =>
      obtain rfl := nx_some h
      exact ⟨⟨hvl, vst_cons trivial (vst_tail (vst_tail hvs))⟩, fun hy K H locs als hL hP hS => by
        obtain ⟨hx, hb, hml, hown, hts, hCx⟩ := hy
        exact lv_ishr hx hb hd (K H locs als hL hP hS)⟩
    · cases h
  | iushr =>
    have hn := lenOK_eq hlen (by simp [lenI])
    simp only [lenI] at hn
    subst hn
    simp only [stepI] at h
    split at h
    · next b a st =>
      obtain rfl := nx_some h
      exact ⟨⟨hvl, vst_cons trivial (vst_tail (vst_tail hvs))⟩, fun hy K H locs als hL hP hS => by
        obtain ⟨hx, hb, hml, hown, hts, hCx⟩ := hy
        exact lv_iushr hx hb hd rfl (K H locs als hL hP hS)⟩
    · cases h
  | idiv =>
    have hn := lenOK_eq hlen (by simp [lenI])
    simp only [lenI] at hn
    subst hn
    simp only [stepI] at h
    split at h
    · next b a st =>
      have hg := (gd_some h).1; replace h := (gd_some h).2
      simp only [Bool.not_eq_true', decide_eq_false_iff_not] at hg
      obtain rfl := nx_some h
      exact ⟨⟨hvl, vst_cons trivial (vst_tail (vst_tail hvs))⟩, fun hy K H locs als hL hP hS => by
        obtain ⟨hx, hb, hml, hown, hts, hCx⟩ := hy
        exact lv_idiv hx hb hd hg (K H locs als hL hP hS)⟩
    · cases h
  | irem =>
    have hn := lenOK_eq hlen (by simp [lenI])
    simp only [lenI] at hn
    subst hn
    simp only [stepI] at h
    split at h
    · next b a st =>
      have hg := (gd_some h).1; replace h := (gd_some h).2
      simp only [Bool.not_eq_true', decide_eq_false_iff_not] at hg
      obtain rfl := nx_some h
      exact ⟨⟨hvl, vst_cons trivial (vst_tail (vst_tail hvs))⟩, fun hy K H locs als hL hP hS => by
        obtain ⟨hx, hb, hml, hown, hts, hCx⟩ := hy
        exact lv_irem hx hb hd hg (K H locs als hL hP hS)⟩
    · cases h
  | i2c =>
    have hn := lenOK_eq hlen (by simp [lenI])
    simp only [lenI] at hn
    subst hn
    simp only [stepI] at h
    split at h
    · next a st =>
      obtain rfl := nx_some h
      exact ⟨⟨hvl, vst_cons trivial (vst_tail hvs)⟩, fun hy K H locs als hL hP hS => by
        obtain ⟨hx, hb, hml, hown, hts, hCx⟩ := hy
        exact lv_i2c hx hb hd rfl (K H locs als hL hP hS)⟩
    · cases h
  | i2l =>
    have hn := lenOK_eq hlen (by simp [lenI])
    simp only [lenI] at hn
    subst hn
    simp only [stepI] at h
    split at h
    · next a st =>
      obtain rfl := nx_some h
      exact ⟨⟨hvl, vst_cons trivial (vst_tail hvs)⟩, fun hy K H locs als hL hP hS => by
        obtain ⟨hx, hb, hml, hown, hts, hCx⟩ := hy
        exact lv_i2l hx hb hd rfl (K H locs als hL hP hS)⟩
    · cases h
  | lshl =>
    have hn := lenOK_eq hlen (by simp [lenI])
    simp only [lenI] at hn
    subst hn
    simp only [stepI] at h
    split at h
    · next b a st =>
      obtain rfl := nx_some h
      exact ⟨⟨hvl, vst_cons trivial (vst_tail (vst_tail hvs))⟩, fun hy K H locs als hL hP hS => by
        obtain ⟨hx, hb, hml, hown, hts, hCx⟩ := hy
        exact lv_lshl hx hb hd rfl (K H locs als hL hP hS)⟩
    · cases h
  | lor =>
    have hn := lenOK_eq hlen (by simp [lenI])
    simp only [lenI] at hn
    subst hn
    simp only [stepI] at h
    split at h
    · next b a st =>
      obtain rfl := nx_some h
      exact ⟨⟨hvl, vst_cons trivial (vst_tail (vst_tail hvs))⟩, fun hy K H locs als hL hP hS => by
        obtain ⟨hx, hb, hml, hown, hts, hCx⟩ := hy
        exact lv_lor hx hb hd (K H locs als hL hP hS)⟩
    · cases h
  | lcmp =>
    have hn := lenOK_eq hlen (by simp [lenI])
    simp only [lenI] at hn
    subst hn
    simp only [stepI] at h
    split at h
    · next b a st =>
      obtain rfl := nx_some h
      exact ⟨⟨hvl, vst_cons trivial (vst_tail (vst_tail hvs))⟩, fun hy K H locs als hL hP hS => by
        obtain ⟨hx, hb, hml, hown, hts, hCx⟩ := hy
        exact W.lcmp hx hb hd (K H locs als hL hP hS)⟩
    · cases h
  | dup =>
    have hn := lenOK_eq hlen (by simp [lenI])
    simp only [lenI] at hn
    subst hn
    simp only [stepI] at h
    split at h
    · next a st =>
      obtain rfl := nx_some h
      exact ⟨⟨hvl, vst_cons trivial hvs⟩, fun hy K H locs als hL hP hS => by
        obtain ⟨hx, hb, hml, hown, hts, hCx⟩ := hy
        exact lv_dup hx hb hd rfl (K H locs als hL hP hS)⟩
    · next a st =>
      obtain rfl := nx_some h
      exact ⟨⟨hvl, vst_cons (hvs _ List.mem_cons_self) hvs⟩, fun hy K H locs als hL hP hS => by
        obtain ⟨hx, hb, hml, hown, hts, hCx⟩ := hy
        exact lv_dup hx hb hd (by cases a <;> rfl) (K H locs als hL hP hS)⟩
    · cases h
  | pop =>
    have hn := lenOK_eq hlen (by simp [lenI])
    simp only [lenI] at hn
    subst hn
    simp only [stepI] at h
    split at h
    · next a st =>
      obtain rfl := nx_some h
      exact ⟨⟨hvl, vst_tail hvs⟩, fun hy K H locs als hL hP hS => by
        obtain ⟨hx, hb, hml, hown, hts, hCx⟩ := hy
        exact lv_pop hx hb hd rfl (K H locs als hL hP hS)⟩
    · next a st =>
      obtain rfl := nx_some h
      exact ⟨⟨hvl, vst_tail hvs⟩, fun hy K H locs als hL hP hS => by
        obtain ⟨hx, hb, hml, hown, hts, hCx⟩ := hy
        exact lv_pop hx hb hd (by cases a <;> rfl) (K H locs als hL hP hS)⟩
    · cases h
  | dup2 =>
    have hn := lenOK_eq hlen (by simp [lenI])
    simp only [lenI] at hn
    subst hn
    simp only [stepI] at h
    split at h
    · next b a st =>
      obtain rfl := nx_some h
      exact ⟨⟨hvl, vst_cons trivial (vst_cons (hvs _ (List.mem_cons_of_mem _ List.mem_cons_self)) hvs)⟩, fun hy K H locs als hL hP hS => by
        obtain ⟨hx, hb, hml, hown, hts, hCx⟩ := hy
        exact lv_dup2_11 hx hb hd rfl (by cases a <;> rfl) (K H locs als hL hP hS)⟩
    · cases h
  | goto o =>
    have hn := lenOK_eq hlen (by simp [lenI])
    simp only [lenI] at hn
    subst hn
    simp only [stepI] at h
    split at h
    · next t ht =>
      obtain rfl := nx_some h
      exact ⟨⟨hvl, hvs⟩, fun hy K H locs als hL hP hS => by
        obtain ⟨hx, hb, hml, hown, hts, hCx⟩ := hy
        exact lv_goto hx hb hd (tg_spec ht) (K H locs als hL hP hS)⟩
    · cases h
  | ifCond cc o =>
    have hn := lenOK_eq hlen (by simp [lenI])
    simp only [lenI] at hn
    subst hn
    simp only [stepI] at h
    split at h
    · next a st t ht =>
      obtain rfl := nx_some h
      refine ⟨⟨hvl, vst_tail hvs⟩, fun hy K H locs als hL hP hS => ?_⟩
      obtain ⟨hx, hb, hml, hown, hts, hCx⟩ := hy
      have K1 := K H locs als hL hP hS
      cases cc with
      | eq => exact lv_if_eq hx hb hd (tg_spec ht) (fun q => by dsimp only [brZ] at K1; rw [if_pos q] at K1; exact K1) (fun q => by dsimp only [brZ] at K1; rw [if_neg q] at K1; exact K1)
      | ne => exact lv_if_ne hx hb hd (tg_spec ht) (fun q => by dsimp only [brZ] at K1; rw [if_neg q] at K1; exact K1) (fun q => by dsimp only [brZ] at K1; rw [if_pos q] at K1; exact K1)
      | lt => exact lv_if_lt hx hb hd (tg_spec ht) (fun q => by dsimp only [brZ] at K1; rw [if_pos q] at K1; exact K1) (fun q => by dsimp only [brZ] at K1; rw [if_neg q] at K1; exact K1)
      | ge => exact lv_if_ge hx hb hd (tg_spec ht) (fun q => by dsimp only [brZ] at K1; rw [if_neg (Int32.not_lt.mpr q)] at K1; exact K1) (fun q => by dsimp only [brZ] at K1; rw [if_pos (Int32.not_le.mp q)] at K1; exact K1)
      | gt => exact lv_if_gt hx hb hd (tg_spec ht) (fun q => by dsimp only [brZ] at K1; rw [if_pos q] at K1; exact K1) (fun q => by dsimp only [brZ] at K1; rw [if_neg q] at K1; exact K1)
      | le => exact lv_if_le hx hb hd (tg_spec ht) (fun q => by dsimp only [brZ] at K1; rw [if_neg (Int32.not_lt.mpr q)] at K1; exact K1) (fun q => by dsimp only [brZ] at K1; rw [if_pos (Int32.not_le.mp q)] at K1; exact K1)
    · cases h
  | if_icmp cc o =>
    have hn := lenOK_eq hlen (by simp [lenI])
    simp only [lenI] at hn
    subst hn
    simp only [stepI] at h
    split at h
    · next b a st t ht =>
      obtain rfl := nx_some h
      refine ⟨⟨hvl, vst_tail (vst_tail hvs)⟩, fun hy K H locs als hL hP hS => ?_⟩
      obtain ⟨hx, hb, hml, hown, hts, hCx⟩ := hy
      have K1 := K H locs als hL hP hS
      cases cc with
      | eq => exact lv_icmp_eq hx hb hd (tg_spec ht) (fun q => by dsimp only [br2] at K1; rw [if_pos q] at K1; exact K1) (fun q => by dsimp only [br2] at K1; rw [if_neg q] at K1; exact K1)
      | ne => exact lv_icmp_ne hx hb hd (tg_spec ht) (fun q => by dsimp only [br2] at K1; rw [if_neg q] at K1; exact K1) (fun q => by dsimp only [br2] at K1; rw [if_pos q] at K1; exact K1)
      | lt => exact lv_icmp_lt hx hb hd (tg_spec ht) (fun q => by dsimp only [br2] at K1; rw [if_pos q] at K1; exact K1) (fun q => by dsimp only [br2] at K1; rw [if_neg q] at K1; exact K1)
      | ge => exact lv_icmp_ge hx hb hd (tg_spec ht) (fun q => by dsimp only [br2] at K1; rw [if_neg (Int32.not_lt.mpr q)] at K1; exact K1) (fun q => by dsimp only [br2] at K1; rw [if_pos (Int32.not_le.mp q)] at K1; exact K1)
      | gt => exact lv_icmp_gt hx hb hd (tg_spec ht) (fun q => by dsimp only [br2] at K1; rw [if_pos q] at K1; exact K1) (fun q => by dsimp only [br2] at K1; rw [if_neg q] at K1; exact K1)
      | le => exact lv_icmp_le hx hb hd (tg_spec ht) (fun q => by dsimp only [br2] at K1; rw [if_neg (Int32.not_lt.mpr q)] at K1; exact K1) (fun q => by dsimp only [br2] at K1; rw [if_pos (Int32.not_le.mp q)] at K1; exact K1)
    · cases h
  | ifnull o =>
    have hn := lenOK_eq hlen (by simp [lenI])
    simp only [lenI] at hn
    subst hn
    simp only [stepI] at h
    split at h
    · next st t ht =>
      obtain rfl := nx_some h
      exact ⟨⟨hvl, vst_tail hvs⟩, fun hy K H locs als hL hP hS => by
        obtain ⟨hx, hb, hml, hown, hts, hCx⟩ := hy
        exact lv_ifnullN hx hb hd (tg_spec ht) (K H locs als hL hP hS)⟩
    · next k st t ht =>
      obtain rfl := nx_some h
      exact ⟨⟨hvl, vst_tail hvs⟩, fun hy K H locs als hL hP hS => by
        obtain ⟨hx, hb, hml, hown, hts, hCx⟩ := hy
        exact lv_ifnull hx hb hd (K H locs als hL hP hS)⟩
    · cases h
  | ifnonnull o =>
    have hn := lenOK_eq hlen (by simp [lenI])
    simp only [lenI] at hn
    subst hn
    simp only [stepI] at h
    split at h
    · next st t ht =>
      obtain rfl := nx_some h
      exact ⟨⟨hvl, vst_tail hvs⟩, fun hy K H locs als hL hP hS => by
        obtain ⟨hx, hb, hml, hown, hts, hCx⟩ := hy
        exact lv_ifnonnullN hx hb hd (K H locs als hL hP hS)⟩
    · next k st t ht =>
      obtain rfl := nx_some h
      exact ⟨⟨hvl, vst_tail hvs⟩, fun hy K H locs als hL hP hS => by
        obtain ⟨hx, hb, hml, hown, hts, hCx⟩ := hy
        exact lv_ifnonnull hx hb hd (tg_spec ht) (K H locs als hL hP hS)⟩
    · cases h
  | tableswitch d lo hi os =>
    simp only [stepI] at h
    split at h
    · next a st t tl ht htl =>
      have hg := (gd_some h).1; replace h := (gd_some h).2
      simp only [Bool.and_eq_true, decide_eq_true_eq] at hg
      obtain ⟨⟨g1, g2⟩, g3⟩ := hg
      obtain rfl := nx_some h
      refine ⟨⟨hvl, vst_tail hvs⟩, fun hy K H locs als hL hP hS => ?_⟩
      obtain ⟨hx, hb, hml, hown, hts, hCx⟩ := hy
      have K1 := K H locs als hL hP hS
      have hlen2 := tgs_len htl
      by_cases q : a.toInt < lo ∨ hi < a.toInt
      · dsimp only at K1
        rw [swN_out tl lo g2 (by omega) (by omega)] at K1
        exact lv_tableOut hx hb hd q (tg_spec ht) K1
      · have q1 : ¬ a.toInt < lo := fun z => q (Or.inl z)
        have q2 : ¬ hi < a.toInt := fun z => q (Or.inr z)
        have hj : (a.toInt - lo).toNat < os.toList.length := by omega
        have ho : os.toList[(a.toInt - lo).toNat]? = some os.toList[(a.toInt - lo).toNat] := List.getElem?_eq_getElem hj
        exact lv_tableIn hx hb hd q1 q2 (by rw [← Array.getElem?_toList]; exact ho) (swN_in os.toList tl lo (a.toInt - lo).toNat _ htl (by omega) ho g2 (by omega)) K1
    · cases h
  | getfield ix =>
    have hn := lenOK_eq hlen (by simp [lenI])
    simp only [lenI] at hn
    subst hn
    simp only [stepI] at h
    split at h
    · next K j i st =>
      split at h
      · next K2 sl pl hf =>
        have hg := (gd_some h).1; replace h := (gd_some h).2
        obtain rfl := Nat.eq_of_beq_eq_true hg
        have hmem := fnd2_mem _ _ _ _ hf
        obtain ⟨f1, f2, f3⟩ := ft_ok _ hmem
        simp only at f1 f2 f3
        have hk : (K, j, i) ∈ AK := vok_small (hvs _ List.mem_cons_self) (by show K < 22; omega)
        obtain ⟨ci, hci⟩ := List.getElem?_of_mem hk
        have row : ∀ {H : Heap} {locs : List Loc} {als : Array Slot} {v : Value}, HY p s m args c D dA ad X e → va_P D vwCl (WS dA ad M) H → (fdsOf ad K j i M)[sl]? = some v → W p l env R s m args below meth c H locs cells slots Q (F0 m (pc + 3) als (v :: st.map (cv ad))) → W p l env R s m args below meth c H locs cells slots Q (F0 m pc als (.ref (ad (K, j, i)) :: st.map (cv ad))) := by
          intro H locs als v hy hP hv kk
          obtain ⟨hx, hb, hml, hown, hts, hCx⟩ := hy
          exact va_get (D := D) (ci := K) (C := clC K) (T := clT K) (N := clN K) hx hb hts (cl_in K f1) hown hCx.1 hP ci (fs := fdsOf ad K j i M) (by rw [WS_at hci, ent_o f1]) (cl_at K f1) sl f2 (hts _ (mem_t f3)) (fun _ h9 => h9) hv hd kk
        have hv0 := fds_at (ad := ad) (j := j) (i := i) (M := M) f2
        split at h
        · next k hs =>
          obtain rfl := nx_some h
          rw [hs] at hv0
          exact ⟨⟨hvl, vst_cons (Or.inl (AK_shp _ hk sl (Nat.lt_of_lt_of_le f2 (clN_12 K)) k hs)) (vst_tail hvs)⟩, fun hy K1 H locs als hL hP hS => row hy hP hv0 (K1 H locs als hL hP hS)⟩
        · next hs =>
          obtain rfl := nx_some h
          rw [hs] at hv0
          exact ⟨⟨hvl, vst_cons trivial (vst_tail hvs)⟩, fun hy K1 H locs als hL hP hS => row hy hP hv0 (K1 H locs als hL hP hS)⟩
      · cases h
    · cases h
  | putfield ix =>
    have hn := lenOK_eq hlen (by simp [lenI])
    simp only [lenI] at hn
    subst hn
    simp only [stepI] at h
    split at h
    · next v K j i st =>
      split at h
      · next K2 sl pl hf =>
        have hg := (gd_some h).1; replace h := (gd_some h).2
        obtain rfl := Nat.eq_of_beq_eq_true hg
        have hmem := fnd2_mem _ _ _ _ hf
        obtain ⟨f1, f2, f3⟩ := ft_ok _ hmem
        simp only at f1 f2 f3
        split at h
        · cases h
        · next hs =>
          have hz := (gd_some h).1; replace h := (gd_some h).2
          obtain rfl := nx_some h
          have hk : (K, j, i) ∈ AK := vok_small (hvs _ (List.mem_cons_of_mem _ List.mem_cons_self)) (by show K < 22; omega)
          obtain ⟨ci, hci⟩ := List.getElem?_of_mem hk
          obtain ⟨g1, g2⟩ := ft_good K f1 sl f2 (shp_j K sl j hs)
          have hty := cl_ty K f1 sl f2
          have hnf : narrow (clY K sl) (.int v) = .int v ∧ fits (clY K sl) (.int v) = true := by
            rw [g2]
            cases hfz : fZ K sl with
            | true =>
              rw [hfz] at hz
              rcases isb_spec hz with rfl | rfl <;> exact ⟨rfl, rfl⟩
            | false => exact ⟨rfl, rfl⟩
          refine ⟨⟨hvl, vst_tail (vst_tail hvs)⟩, fun hy K1 H locs als hL hP hS => ?_⟩
          obtain ⟨hx, hb, hml, hown, hts, hCx⟩ := hy
          refine va_put (D := D) (A := AA ad) (H0 := s.heap) (ci := K) (C := clC K) (T := clT K) (N := clN K) hx hb hts (cl_in K f1) (clY K) (cl_ty K f1) (cl_nm K f1) hown hCx.1 hP (hDD M) hS ci (fs := fdsOf ad K j i M) (by rw [WS_at hci, ent_o f1]) (cl_at K f1) sl f2 (hts _ (mem_t f3)) (fun _ h9 => h9) g1 hty hnf.1 hnf.2 (by rw [fds_len]; exact f2) hd (fun H1 locs1 hP1 _ hS1 => K1 H1 locs1 als hL ?_ hS1)
          exact P_set hci hP1 ((ent_o f1).trans (by rw [fds_set f2 hs]; rfl)) (fun k' hk' => ent_other (k := (K, j, i)) hk')
      · cases h
    · cases h
  | iaload =>
    have hn := lenOK_eq hlen (by simp [lenI])
    simp only [lenI] at hn
    subst hn
    simp only [stepI] at h
    split at h
    · next v K j i st =>
      split at h
      · next N ha =>
        have hg := (gd_some h).1; replace h := (gd_some h).2
        have hin := inb_spec hg
        obtain rfl := nx_some h
        refine ⟨⟨hvl, vst_cons trivial (vst_tail (vst_tail hvs))⟩, fun hy K1 H locs als hL hP hS => ?_⟩
        obtain ⟨hx, hb, hml, hown, hts, hCx⟩ := hy
        rcases hvs _ (List.mem_cons_of_mem _ List.mem_cons_self) with hk | hk | hk
        · have hK : K ≠ 30 := fun z => by have := AK_k _ hk; simp only at this; omega
          rw [aln_X hK] at ha
          obtain ⟨ci, hci⟩ := List.getElem?_of_mem hk
          have K2 := K1 H locs als hL hP hS
          dsimp only at K2
          rw [List.map_cons, show ard X M K j i v.toNatClampNeg = M K j i v.toNatClampNeg from ard_n hK] at K2
          exact va_iald (D := D) hx hb hCx.1 hP ci 0 (by rw [WS_at hci, ent_a ha]; rfl) rfl hin hd K2
        · cases hk
          cases ha
          exact va_sld hx hb hCx.2.1 hCx.2.2.1 hCx.2.2.2.1 hS hin hd (K1 H locs als hL hP hS)
        · have e : K = 31 := hk.1
          subst e
          cases ha
      · cases h
    · cases h
  | caload =>
    have hn := lenOK_eq hlen (by simp [lenI])
    simp only [lenI] at hn
    subst hn
    simp only [stepI] at h
    split at h
    · next v K j i st =>
      split at h
      · next N ha =>
        have hg := (gd_some h).1; replace h := (gd_some h).2
        have hin := inb_spec hg
        obtain rfl := nx_some h
        refine ⟨⟨hvl, vst_cons trivial (vst_tail (vst_tail hvs))⟩, fun hy K1 H locs als hL hP hS => ?_⟩
        obtain ⟨hx, hb, hml, hown, hts, hCx⟩ := hy
        rcases hvs _ (List.mem_cons_of_mem _ List.mem_cons_self) with hk | hk | hk
        · have hK : K ≠ 30 := fun z => by have := AK_k _ hk; simp only at this; omega
          rw [aln_X hK] at ha
          obtain ⟨ci, hci⟩ := List.getElem?_of_mem hk
          exact va_cald (D := D) hx hb hCx.1 hP ci 1 (by rw [WS_at hci, ent_a ha]; rfl) rfl hin hd (K1 H locs als hL hP hS)
        · cases hk
          cases ha
        · have e : K = 31 := hk.1
          subst e
          cases ha
      · cases h
    · cases h
  | iastore =>
    have hn := lenOK_eq hlen (by simp [lenI])
    simp only [lenI] at hn
    subst hn
    simp only [stepI] at h
    split at h
    · next w v K j i st =>
      split at h
      · next N ha =>
        have hg := (gd_some h).1; replace h := (gd_some h).2
        simp only [Bool.and_eq_true, Bool.not_eq_true'] at hg
        have hin := inb_spec hg.2
        have hK : K ≠ 30 := Nat.ne_of_beq_eq_false hg.1
        obtain rfl := nx_some h
        refine ⟨⟨hvl, vst_tail (vst_tail (vst_tail hvs))⟩, fun hy K1 H locs als hL hP hS => ?_⟩
        obtain ⟨hx, hb, hml, hown, hts, hCx⟩ := hy
        rw [aln_X hK] at ha
        rcases hvs _ (List.mem_cons_of_mem _ (List.mem_cons_of_mem _ List.mem_cons_self)) with hk | hk | hk
        · obtain ⟨ci, hci⟩ := List.getElem?_of_mem hk
          refine va_iast (D := D) (A := AA ad) (H0 := s.heap) hx hb hCx.1 hP (hDD M) hS ci 0 (by rw [WS_at hci, ent_a ha]; rfl) rfl hin hd (fun H1 locs1 hP1 _ hS1 => K1 H1 locs1 als hL ?_ hS1)
          exact P_set hci hP1 (ent_wr ha) (fun k' hk' => ent_other (k := (K, j, i)) hk')
        · cases hk
          exact absurd rfl hK
        · have e : K = 31 := hk.1
          subst e
          cases ha
      · cases h
    · cases h
  | castore =>
    have hn := lenOK_eq hlen (by simp [lenI])
    simp only [lenI] at hn
    subst hn
    simp only [stepI] at h
    split at h
    · next w v K j i st =>
      split at h
      · next N ha =>
        have hg := (gd_some h).1; replace h := (gd_some h).2
        have hin := inb_spec hg
        obtain rfl := nx_some h
        refine ⟨⟨hvl, vst_tail (vst_tail (vst_tail hvs))⟩, fun hy K1 H locs als hL hP hS => ?_⟩
        obtain ⟨hx, hb, hml, hown, hts, hCx⟩ := hy
        rcases hvs _ (List.mem_cons_of_mem _ (List.mem_cons_of_mem _ List.mem_cons_self)) with hk | hk | hk
        · have hK : K ≠ 30 := fun z => by have := AK_k _ hk; simp only at this; omega
          rw [aln_X hK] at ha
          obtain ⟨ci, hci⟩ := List.getElem?_of_mem hk
          refine va_cast (D := D) (A := AA ad) (H0 := s.heap) hx hb hCx.1 hP (hDD M) hS ci 1 (by rw [WS_at hci, ent_a ha]; rfl) rfl hin hd (fun H1 locs1 hP1 _ hS1 => K1 H1 locs1 als hL ?_ hS1)
          exact P_set hci hP1 (ent_wr ha) (fun k' hk' => ent_other (k := (K, j, i)) hk')
        · cases hk
          cases ha
        · have e : K = 31 := hk.1
          subst e
          cases ha
      · cases h
    · cases h
  | aaload =>
    have hn := lenOK_eq hlen (by simp [lenI])
    simp only [lenI] at hn
    subst hn
    simp only [stepI] at h
    split at h
    · next v K j i st =>
      split at h
      · next N ha =>
        have hg := (gd_some h).1; replace h := (gd_some h).2
        have hin := inb_spec hg
        obtain rfl := nx_some h
        have hK := rln_K ha
        have hk : (K, j, i) ∈ AK := vok_small (hvs _ (List.mem_cons_of_mem _ List.mem_cons_self)) (by show K < 22; omega)
        have hlt : v.toNatClampNeg < N := Nat.not_le.mp fun q => hin (Or.inr q)
        refine ⟨⟨hvl, vst_cons (Or.inl (AK_ael _ hk _ (by rw [ha]; exact hlt))) (vst_tail (vst_tail hvs))⟩, fun hy K1 H locs als hL hP hS => ?_⟩
        obtain ⟨hx, hb, hml, hown, hts, hCx⟩ := hy
        obtain ⟨ci, hci⟩ := List.getElem?_of_mem hk
        obtain ⟨C, hC⟩ := tys_r (dA := dA) ha
        exact va_aldq (D := D) hx hb hCx.1 hP ci (K - 7) (f := fun n => some (ad (ael K j n))) (by rw [WS_at hci, ent_r ha]) hC hin hd (K1 H locs als hL hP hS)
      · cases h
    · cases h
  | arraylength =>
    have hn := lenOK_eq hlen (by simp [lenI])
    simp only [lenI] at hn
    subst hn
    simp only [stepI] at h
    split at h
    · next j i st =>
      obtain rfl := nx_some h
      refine ⟨⟨hvl, vst_cons trivial (vst_tail hvs)⟩, fun hy K1 H locs als hL hP hS => ?_⟩
      obtain ⟨hx, hb, hml, hown, hts, hCx⟩ := hy
      rcases hvs _ List.mem_cons_self with hk | hk | hk
      · have := AK_k _ hk
        simp only at this
        omega
      · cases hk
        exact va_slen hx hb hCx.2.1 hCx.2.2.1 hCx.2.2.2.1 hS hd (K1 H locs als hL hP hS)
      · exact absurd (show (30 : Nat) = 31 from hk.1) (by decide)
    · cases h
  | ldc ix =>
    have hn := lenOK_eq hlen (by simp [lenI])
    simp only [lenI] at hn
    subst hn
    simp only [stepI] at h
    split at h
    · next k hf =>
      obtain rfl := nx_some h
      have hmem := fnd2_mem _ _ _ _ hf
      refine ⟨⟨hvl, vst_cons (Or.inr (Or.inr ⟨rfl, rfl, lt_str _ hmem⟩)) hvs⟩, fun hy K1 H locs als hL hP hS => ?_⟩
      obtain ⟨hx, hb, hml, hown, hts, hCx⟩ := hy
      exact va_ldcS hx hb hown (hCx.2.2.2.2.2.2.2 _ hmem) hd (K1 H locs als hL hP hS)
    · cases h
  | ldc_w ix =>
    have hn := lenOK_eq hlen (by simp [lenI])
    simp only [lenI] at hn
    subst hn
    simp only [stepI] at h
    split at h
    · next v pl hf =>
      obtain rfl := nx_some h
      have hmem := fnd2_mem _ _ _ _ hf
      refine ⟨⟨hvl, vst_cons trivial hvs⟩, fun hy K1 H locs als hL hP hS => ?_⟩
      obtain ⟨hx, hb, hml, hown, hts, hCx⟩ := hy
      exact lv_ldcw hx hb hown (hts _ (mem_l (kt_ok _ hmem))) hd (K1 H locs als hL hP hS)
    · cases h
  | ldc2_w ix =>
    have hn := lenOK_eq hlen (by simp [lenI])
    simp only [lenI] at hn
    subst hn
    simp only [stepI] at h
    split at h
    · next v pl hf =>
      obtain rfl := nx_some h
      have hmem := fnd2_mem _ _ _ _ hf
      refine ⟨⟨hvl, vst_cons trivial hvs⟩, fun hy K1 H locs als hL hP hS => ?_⟩
      obtain ⟨hx, hb, hml, hown, hts, hCx⟩ := hy
      exact lv_ldc2 hx hb hown (hts _ (mem_l (jt_ok _ hmem))) hd (K1 H locs als hL hP hS)
    · cases h
  | invokevirtual ix =>
    have hn := lenOK_eq hlen (by simp [lenI])
    simp only [lenI] at hn
    subst hn
    simp only [stepI] at h
    split at h
    · next z pl hf => exact prim_sound hLn hCh hDD hR hd rfl hf h hvl hvs
    · cases h
  | invokestatic ix =>
    have hn := lenOK_eq hlen (by simp [lenI])
    simp only [lenI] at hn
    subst hn
    simp only [stepI] at h
    split at h
    · next z pl hf => exact prim_sound hLn hCh hDD hR hd rfl hf h hvl hvs
    · cases h
  | ireturn =>
    exfalso
    simp only [stepI] at h
    split at h <;> first | (cases h; done) | (replace h := (gd_some h).2; cases h)
  | lreturn =>
    exfalso
    simp only [stepI] at h
    split at h <;> first | (cases h; done) | (replace h := (gd_some h).2; cases h)
  | areturn =>
    exfalso
    simp only [stepI] at h
    split at h <;> first | (cases h; done) | (replace h := (gd_some h).2; cases h)
  | return_ =>
    exfalso
    simp only [stepI] at h
    split at h <;> first | (cases h; done) | (replace h := (gd_some h).2; cases h)
  | _ => cases h
end
end
section
/-! 07: soundness of runs: calls and returns -/
theorem len_ok : ∀ e ∈ MT, (eI e).all (fun q => lenOK q.2.1 q.2.2) = true := by decide +kernel
theorem MT_len : MT.length = 188 := by decide +kernel
/-- the decode rows of a method of the table that is called, or is the law -/
theorem dec_at {z : Nat} (hz : z < 178 ∨ z = 187) {e : ME} (he : nth MT z = some e) : ∀ q ∈ eI e, decode (eB e) q.1 = .ok q.2 := by
  rcases hz with hz | rfl
  · exact (mw_at z hz e he).2.2
  · have h2 : nth MT 187 = some E_L_law := rfl
    rw [h2] at he
    cases he
    exact dc_L_law
def RetK (e : ME) (r : Option V) (I : Instr) : Prop :=
  (∃ v, r = some (.inl v) ∧ I = .ireturn ∧ (eR e = some .int ∨ (eR e = some .boolean ∧ isb v = true))) ∨ (∃ v, r = some (.inr (.inl v)) ∧ I = .lreturn ∧ eR e = some .long) ∨ (∃ v nm, r = some (.inr (.inr v)) ∧ I = .areturn ∧ eR e = some (.object nm)) ∨ (r = none ∧ I = .return_ ∧ eR e = none)
def vokO : Option V → Prop
  | some v => vok v
  | none => True
theorem doCall_spec {X : SX} {e0 : ME} {z pc z' : Nat} {virt : Bool} {ls : List (Option V)} {st as rest : List V} {M : Mem} (h : doCall X e0 z virt pc ls st M = some (.inr (.inl (z', as, rest)))) :
    z' = z ∧ ∃ e, nth MT z = some e ∧ (eF e + 1 ≤ eF e0 ∧ 8 + (eL e + 11) + eW e ≤ eW e0) ∧ catS rest ≤ 8 ∧ (argS as).length ≤ eL e ∧ (eG e = false → (argS as).length = as.length) ∧
      ((virt = true ∧ eS e = false ∧ ∃ (k : Key) (as0 : List V), as = .inr (.inr (some k)) :: as0 ∧ k.1 = eO e ∧ st = as0.reverse ++ .inr (.inr (some k)) :: rest ∧ as0.length = eN e) ∨ (virt = false ∧ eS e = true ∧ st = as.reverse ++ rest ∧ as.length = eN e)) := by
  unfold doCall at h
  cases h0 : Nat.beq z 1000 with
  | true =>
    rw [h0, cond_true] at h
    split at h
    · split at h
      · replace h := (gd_some h).2; cases h
      · cases h
    · cases h
  | false =>
    rw [h0, cond_false] at h
    cases h1 : Nat.beq z 1001 with
    | true =>
      rw [h1, cond_true] at h
      split at h
      · split at h
        · replace h := (gd_some h).2; cases h
        · cases h
      · cases h
    | false =>
      rw [h1, cond_false] at h
      cases h2 : Nat.beq z 1002 with
      | true =>
        rw [h2, cond_true] at h
        split at h
        · split at h
          · replace h := (gd_some h).2; cases h
          · cases h
        · cases h
      | false =>
        rw [h2, cond_false] at h
        split at h
        · cases h
        · next e he =>
          split at h
          · cases h
          · next as1 rest1 hp =>
            obtain ⟨e1, e2⟩ := popN_spec _ _ _ _ hp
            cases virt with
            | true =>
              rw [cond_true] at h
              split at h
              · next k rest2 =>
                have hg := (gd_some h).1; replace h := (gd_some h).2
                cases h
                simp only [Bool.and_eq_true, Bool.not_eq_true', Bool.or_eq_true, Nat.beq_eq] at hg
                obtain ⟨⟨⟨⟨⟨⟨g1, g2⟩, g3⟩, g4⟩, g5⟩, g6⟩, g7⟩ := hg
                refine ⟨rfl, e, he, ⟨Nat.le_of_ble_eq_true g1, Nat.le_of_ble_eq_true g2⟩, Nat.le_of_ble_eq_true g5, Nat.le_of_ble_eq_true g6, fun hG => ?_, Or.inl ⟨rfl, g4, k, as1, rfl, g3, e1, e2⟩⟩
                rcases g7 with g7 | g7
                · rw [hG] at g7; cases g7
                · rw [g7, List.length_cons]
              · cases h
            | false =>
              rw [cond_false] at h
              have hg := (gd_some h).1; replace h := (gd_some h).2
              cases h
              simp only [Bool.and_eq_true, Bool.or_eq_true, Nat.beq_eq] at hg
              obtain ⟨⟨⟨⟨⟨g1, g2⟩, g4⟩, g5⟩, g6⟩, g7⟩ := hg
              refine ⟨rfl, e, he, ⟨Nat.le_of_ble_eq_true g1, Nat.le_of_ble_eq_true g2⟩, Nat.le_of_ble_eq_true g5, Nat.le_of_ble_eq_true g6, fun hG => ?_, Or.inr ⟨rfl, g4, e1, e2⟩⟩
              rcases g7 with g7 | g7
              · rw [hG] at g7; cases g7
              · exact g7
theorem doCall_noret {X : SX} {e0 : ME} {z pc : Nat} {virt : Bool} {ls : List (Option V)} {st : List V} {M : Mem} {r : Option V} (h : doCall X e0 z virt pc ls st M = some (.inr (.inr r))) : False := by
  unfold doCall at h
  cases h0 : Nat.beq z 1000 with
  | true =>
    rw [h0, cond_true] at h
    split at h
    · split at h
      · replace h := (gd_some h).2; cases h
      · cases h
    · cases h
  | false =>
    rw [h0, cond_false] at h
    cases h1 : Nat.beq z 1001 with
    | true =>
      rw [h1, cond_true] at h
      split at h
      · split at h
        · replace h := (gd_some h).2; cases h
        · cases h
      · cases h
    | false =>
      rw [h1, cond_false] at h
      cases h2 : Nat.beq z 1002 with
      | true =>
        rw [h2, cond_true] at h
        split at h
        · split at h
          · replace h := (gd_some h).2; cases h
          · cases h
        · cases h
      | false =>
        rw [h2, cond_false] at h
        split at h
        · cases h
        · split at h
          · cases h
          · cases virt with
            | true =>
              rw [cond_true] at h
              split at h
              · replace h := (gd_some h).2; cases h
              · cases h
            | false =>
              rw [cond_false] at h
              replace h := (gd_some h).2; cases h
set_option maxHeartbeats 4000000 in
theorem stepI_call {X : SX} {e : ME} {I : Instr} {n pc z' : Nat} {ls : List (Option V)} {st as rest : List V} {M : Mem} (h : stepI X e I n pc ls st M = some (.inr (.inl (z', as, rest)))) :
    ∃ (ix z pl : Nat) (virt : Bool), I = (if virt = true then .invokevirtual ix else .invokestatic ix) ∧ fnd2 CTab (eO e) ix = some (z, pl) ∧ doCall X e z virt pc ls st M = some (.inr (.inl (z', as, rest))) := by
  cases I with
  | invokevirtual ix =>
    simp only [stepI] at h
    split at h
    · next z pl hf => exact ⟨ix, z, pl, true, rfl, hf, h⟩
    · cases h
  | invokestatic ix =>
    simp only [stepI] at h
    split at h
    · next z pl hf => exact ⟨ix, z, pl, false, rfl, hf, h⟩
    · cases h
  | _ =>
    exfalso
    simp only [stepI, reduceCtorEq] at h
    repeat' split at h
    all_goals first | (cases h; done) | (replace h := (gd_some h).2; cases h; done) | (replace h := (gd_some h).2; first | (split at h <;> first | (cases h; done) | (replace h := (gd_some h).2; cases h; done)) | (replace h := (gd_some h).2; cases h; done))
set_option maxHeartbeats 4000000 in
theorem stepI_ret {X : SX} {e : ME} {I : Instr} {n pc : Nat} {ls : List (Option V)} {st : List V} {M : Mem} {r : Option V} (h : stepI X e I n pc ls st M = some (.inr (.inr r))) : st = pushR r [] ∧ RetK e r I ∧ lenI I = 1 := by
  cases I with
  | ireturn =>
    simp only [stepI] at h
    split at h
    · next v hr => cases h; exact ⟨rfl, Or.inl ⟨v, rfl, rfl, Or.inl hr⟩, rfl⟩
    · next v hr =>
      have hg := (gd_some h).1; replace h := (gd_some h).2
      cases h; exact ⟨rfl, Or.inl ⟨v, rfl, rfl, Or.inr ⟨hr, hg⟩⟩, rfl⟩
    · cases h
  | lreturn =>
    simp only [stepI] at h
    split at h
    · next v hr => cases h; exact ⟨rfl, Or.inr (Or.inl ⟨v, rfl, rfl, hr⟩), rfl⟩
    · cases h
  | areturn =>
    simp only [stepI] at h
    split at h
    · next v nm hr => cases h; exact ⟨rfl, Or.inr (Or.inr (Or.inl ⟨v, nm, rfl, rfl, hr⟩)), rfl⟩
    · cases h
  | return_ =>
    simp only [stepI] at h
    split at h
    · next hr => cases h; exact ⟨rfl, Or.inr (Or.inr (Or.inr ⟨rfl, rfl, hr⟩)), rfl⟩
    · cases h
  | invokevirtual ix =>
    exfalso
    simp only [stepI] at h
    split at h
    · exact doCall_noret h
    · cases h
  | invokestatic ix =>
    exfalso
    simp only [stepI] at h
    split at h
    · exact doCall_noret h
    · cases h
  | _ =>
    exfalso
    simp only [stepI, reduceCtorEq] at h
    repeat' split at h
    all_goals first | (cases h; done) | (replace h := (gd_some h).2; cases h; done) | (replace h := (gd_some h).2; first | (split at h <;> first | (cases h; done) | (replace h := (gd_some h).2; cases h; done)) | (replace h := (gd_some h).2; cases h; done))
section
variable {l : Launch} {D : va_G} {dA : Nat → ClassId} {ad : Key → Nat} {X : SX}
def rmOf (e : ME) : Room := { frames := eF e, cells := 0, slots := 0, locals := eW e }
def PcZ (D : va_G) (dA : Nat → ClassId) (ad : Key → Nat) (X : SX) (as : List V) (M : Mem) : Array Value → State → Prop := fun a U => a = (as.map (cv ad)).toArray ∧ va_P D vwCl (WS dA ad M) U.heap ∧ Cx D dA ad X U
def QcZ (D : va_G) (dA : Nat → ClassId) (ad : Key → Nat) (r : Option V) (M' : Mem) : Array Value → State → Outcome → State → Prop := fun _ st oc t => vokO r ∧ oc = .returned (r.map (cv ad)) ∧ va_P D vwCl (WS dA ad M') t.heap ∧ va_F (AA ad) st t
theorem PcZ_blind {as : List V} {M : Mem} : FrameBlind (PcZ D dA ad X as M) := by
  intro a U g mk ⟨h1, h2, h3, h4, h5, h6, h7⟩
  refine ⟨h1, h2, va_K.moved (u := U) (U := U.calling g mk a) (Vm.Alike.refl U.vm) h3, va_X.moved (u := U) (U := U.calling g mk a) (Vm.Alike.refl U.vm) h4, h5, h6, ?_⟩
  obtain ⟨⟨adV, k1⟩, k2, ⟨v, hv, k3⟩, k4⟩ := h7
  exact ⟨⟨adV, vk_S.moved (u := U) (U := U.calling g mk a) (Vm.Alike.refl U.vm) k1⟩, va_Z.moved (u := U) (U := U.calling g mk a) (Vm.Alike.refl U.vm) k2, ⟨v, hv, va_Z.moved (u := U) (U := U.calling g mk a) (Vm.Alike.refl U.vm) k3⟩, fun q hq => vk_R.same (u := U) (U := U.calling g mk a) rfl (k4 q hq)⟩
/-- what a run gives, for the caller's own walk -/
def Snd (l : Launch) (D : va_G) (dA : Nat → ClassId) (ad : Key → Nat) (X : SX) (e : ME) (s0 : St) (r : Option V) (M' : Mem) : Prop :=
  ∀ {p : Program} {env : Env} {R : Room} {s : State} {m : MethodId} {args : Array Value} {below : List Frame} {meth : Method} {c : Code} {cells slots : Nat} {Q : State → Prop},
    (eF e ≤ R.frames ∧ eW e ≤ R.locals ∧ cells ≤ R.cells ∧ slots ≤ R.slots) → HY p s m args c D dA ad X e →
    (∀ (pc : Nat) (I : Instr) (H : Heap) (locs : List Loc) (als : Array Slot), vokO r → decode (eB e) pc = .ok (I, 1) → RetK e r I → va_P D vwCl (WS dA ad M') H → va_S (AA ad) s.heap H locs → W p l env R s m args below meth c H locs cells slots Q (F0 m pc als ((pushR r []).map (cv ad)))) →
    Gs p l env R s m args below meth c cells slots Q D dA ad e s0
theorem met_of {e : ME} {as : List V} {M M' : Mem} {r : Option V} (hM : MW e) (hlen : (argS as).length ≤ eL e) (hG : eG e = false → (argS as).length = as.length) (h : Snd l D dA ad X e (0, initL (eL e) as, [], M) r M') :
    Met l (eY e) (wsP (eY e) (eB e) (eL e) (eR e)) (rmOf e) (PcZ D dA ad X as M) (QcZ D dA ad r M') 0 0 (AA ad) := by
  refine Met.ofW (cc := eB e) (maxL := eL e) (ret := eR e) hM.1.1 rfl ?_
  intro p env s m args below meth c s₁ B hml hv
  obtain ⟨rfl, hP, hCx⟩ := hv
  have hts := atoms_spec (ws := wsP (eY e) (eB e) (eL e) (eR e)) B.pre
  have hown : s.vm.findClass (eY e).cls = some m.cls := findClass_of_methodNamed B.named
  rw [hM.1.2.1] at hown
  have hlocks := B.notSynchronized
  have hr := B.returns
  rw [lg_entry_eq]
  have hnl : eG e = false → ∀ v ∈ as, (cv ad v).category ≠ 2 := by
    intro hg v hv h2
    have h3 := hG hg
    have key : ∀ l : List V, (argS l).length = l.length → ∀ v ∈ l, isLong (some v) = false := by
      intro l
      have ge : ∀ l : List V, l.length ≤ (argS l).length := by
        intro l
        induction l with
        | nil => exact Nat.le_refl _
        | cons w l ih =>
          match w with
          | .inl a => simp [argS]; exact ih
          | .inr (.inl a) => simp [argS]; omega
          | .inr (.inr a) => simp [argS]; exact ih
      induction l with
      | nil => intro _ v hv; cases hv
      | cons w l ih =>
        intro hl v hv
        match w, hl, hv with
        | .inl a, hl, hv =>
          rcases List.mem_cons.mp hv with rfl | hv
          · rfl
          · exact ih (by simpa [argS] using hl) v hv
        | .inr (.inl a), hl, hv =>
          have := ge l
          simp [argS] at hl
          omega
        | .inr (.inr a), hl, hv =>
          rcases List.mem_cons.mp hv with rfl | hv
          · rfl
          · exact ih (by simpa [argS] using hl) v hv
    have h4 := key as h3 v hv
    rw [isLong_cat h2] at h4
    cases h4
  refine h (R := (headSpec (wsP (eY e) (eB e) (eL e) (eR e)) (rmOf e)).room) ⟨Nat.le_refl _, Nat.le_refl _, Nat.le_refl _, Nat.le_refl _⟩ ⟨B.exec, B.bytes, hml, hown, fun w hw => hts w (List.mem_cons_of_mem _ hw), hCx⟩ ?_ s.heap [] _ (LR_init hlen hnl) hP va_S.rf
  intro pc I H locs als hvr hd hK hP1 hS1
  rcases hK with ⟨v, rfl, rfl, hR⟩ | ⟨v, rfl, rfl, hR⟩ | ⟨v, nm, rfl, rfl, hR⟩ | ⟨rfl, rfl, hR⟩
  · rcases hR with hR | ⟨hR, hb⟩
    · exact W.iret (v := v) B.exec B.bytes (hr.trans hR) (fun t ht hW => ⟨hvr, rfl, by rw [ht]; exact hP1, hS1.F ht⟩) hS1.2.2 hd
    · exact W.zret (v := v) (ty := .boolean) B.exec B.bytes (hr.trans hR) (by rcases isb_spec hb with rfl | rfl <;> rfl) (fun t ht hW => ⟨hvr, rfl, by rw [ht]; exact hP1, hS1.F ht⟩) hS1.2.2 hd
  · exact W.lret (v := v) B.exec B.bytes (hr.trans hR) (fun t ht hW => ⟨hvr, rfl, by rw [ht]; exact hP1, hS1.F ht⟩) hS1.2.2 hd
  · exact W.aret (v := cv ad (.inr (.inr v))) B.exec B.bytes (hr.trans hR) (Or.inl ⟨nm, rfl⟩) (by cases v with
      | none => exact Or.inl rfl
      | some k => exact Or.inr ⟨_, rfl⟩) (fun t ht hW => ⟨hvr, rfl, by rw [ht]; exact hP1, hS1.F ht⟩) hS1.2.2 hd
  · exact W.vret B.exec B.bytes (hr.trans hR) (fun t ht hW => ⟨hvr, rfl, by rw [ht]; exact hP1, hS1.F ht⟩) hS1.2.2 hd
theorem W_call {p : Program} {env : Env} {R : Room} {s : State} {m : MethodId} {args : Array Value} {below : List Frame} {meth : Method} {c : Code} {cells slots : Nat} {Q : State → Prop} {H : Heap} {locs : List Loc} {als : Array Slot} {pc : Nat} {st0 rest : List Value} {r : Option V} {M' : Mem} {a : Array Value}
    (hr : va_Run p l env R s m args below meth c H locs cells slots 0 0 (F0 m pc als st0) rest (QcZ D dA ad r M' a) (AA ad)) (hS : va_S (AA ad) s.heap H locs)
    (kk : ∀ (H1 : Heap) (locs1 : List Loc), vokO r → va_P D vwCl (WS dA ad M') H1 → va_S (AA ad) s.heap H1 locs1 → W p l env R s m args below meth c H1 locs1 cells slots Q (F0 m (pc + 3) als ((r.map (cv ad)).toList ++ rest))) : W p l env R s m args below meth c H locs cells slots Q (F0 m pc als st0) := by
  intro T hT X1
  obtain ⟨v, st₀, t, T', L, h0, X', hL, e1, e2, ⟨hvr, hv, hP1, hz, hk⟩, st⟩ := hr T hT X1
  obtain rfl := Outcome.returned.inj hv
  rw [h0] at hz hk
  obtain ⟨t2, a1, b1⟩ := kk T'.heap (locs ++ L) hvr (by rw [e1]; exact hP1) ⟨Nat.le_trans hS.1 (by rw [e1]; exact hz), fun q h1 h2 => by rw [e1, hk q (Nat.lt_of_lt_of_le h1 hS.1) h2]; exact hS.2.1 q h1 h2, fun q hq => by
      rcases List.mem_append.mp hq with h | h
      · exact hS.2.2 q h
      · exact hL q h⟩ T' rfl X'
  exact ⟨t2, st t2 a1, b1⟩
theorem sound (hLn : HLn l ad) (hCh : HCh l ad) (hDD : ∀ M, va_D (AA ad) (WS dA ad M)) : ∀ (n z : Nat) (s0 : St) (r : Option V) (M' : Mem), run X n z s0 = some (r, M') → ∀ e, nth MT z = some e → (z < 178 ∨ z = 187) → vls s0.2.1 → vst s0.2.2.1 → Snd l D dA ad X e s0 r M' := by
  intro n
  induction n with
  | zero => intro z s0 r M' h; simp [run] at h
  | succ n ih =>
    intro z s0 r M' h e he hz hvl hvs
    obtain ⟨pc, ls, st, M⟩ := s0
    simp only at hvl hvs
    rw [run] at h
    cases hs : stepS X z (pc, ls, st, M) with
    | none => rw [hs] at h; cases h
    | some res =>
      rw [hs] at h
      have hs2 := hs
      unfold stepS at hs2
      rw [he] at hs2
      simp only at hs2
      split at hs2
      · cases hs2
      · next q hq =>
        obtain ⟨I, k⟩ := q
        have hmem := fnd_mem _ _ _ hq
        have hd := dec_at hz he _ hmem
        have hlen := List.all_eq_true.mp (len_ok e (by rw [nth_get] at he; exact List.mem_of_getElem? he)) _ hmem
        simp only at hd hlen hs2
        match res, h, hs2 with
        | .inl s', h, hs2 =>
          simp only at h
          intro p env R s m args below meth c cells slots Q hR hy hK
          obtain ⟨⟨v1, v2⟩, hgo⟩ := one_sound (p := p) (env := env) (R := R) (s := s) (m := m) (args := args) (below := below) (meth := meth) (c := c) (cells := cells) (slots := slots) (Q := Q) (D := D) hLn hCh hDD hR hs2 hd hlen hvl hvs
          exact hgo hy (ih z s' r M' h e he hz v1 v2 hR hy hK)
        | .inr (.inl (z', as, rest)), h, hs2 =>
          simp only at h
          obtain ⟨ix, z1, pl, virt, rfl, hf, hc⟩ := stepI_call hs2
          obtain ⟨rfl, e', he', ⟨hrf, hrw⟩, hcat, hla, hlg, hv⟩ := doCall_spec hc
          rw [he'] at h
          simp only at h
          split at h
          · cases h
          · next r1 M1 hr1 =>
            have hcm := ct_ok _ (fnd2_mem _ _ _ _ hf)
            simp only [he'] at hcm
            have hz' : z' < 178 ∧ tables_1[pl]? = some (.methodLink (ownS (eO e)) ix (eY e')) := by
              rcases hcm with hcm | hcm
              · exact ⟨hcm.1, of_decide_eq_true hcm.2⟩
              · have h3 := (List.getElem?_eq_some_iff.mp (by rw [← nth_get]; exact he')).1
                rw [MT_len] at h3
                omega
            obtain ⟨hz1, hlink⟩ := hz'
            have hMW := mw_at z' hz1 e' he'
            have hva : vst as ∧ vst rest := by
              rcases hv with ⟨-, -, k, as0, rfl, -, rfl, -⟩ | ⟨-, -, rfl, -⟩
              · refine ⟨vst_cons (hvs _ (List.mem_append_right _ List.mem_cons_self)) (fun w hw => hvs w (List.mem_append_left _ (List.mem_reverse.mpr hw))), fun w hw => hvs w (List.mem_append_right _ (List.mem_cons_of_mem _ hw))⟩
              · exact ⟨fun w hw => hvs w (List.mem_append_left _ (List.mem_reverse.mpr hw)), fun w hw => hvs w (List.mem_append_right _ hw)⟩
            have hsn : Snd l D dA ad X e' (0, initL (eL e') as, [], M) r1 M1 := @ih z' (0, initL (eL e') as, [], M) r1 M1 hr1 e' he' (Or.inl hz1) (vls_init hva.1) (fun w hw => by cases hw)
            intro p env R s m args below meth c cells slots Q hR hy hK
            have hG : vokO r1 → Gs p l env R s m args below meth c cells slots Q D dA ad e (pc + 3, ls, pushR r1 rest, M1) := fun hvr => ih z (pc + 3, ls, pushR r1 rest, M1) r M' h e he hz hvl (by
              cases r1 with
              | none => exact hva.2
              | some v => exact vst_cons hvr hva.2) hR hy hK
            intro H locs als hL hP hS
            obtain ⟨hx, hb, hml, hown, hts, hCx⟩ := hy
            have hMet := met_of (l := l) hMW hla hlg hsn
            have hpush : ∀ rest' : List V, (pushR r1 rest').map (cv ad) = (r1.map (cv ad)).toList ++ rest'.map (cv ad) := by
              intro rest'
              cases r1 <;> rfl
            have hdd := lenOK_eq hlen (by cases virt <;> simp [lenI])
            have hpre : ∀ U : State, U.heap = H → s.WarmedH U.vm → PcZ D dA ad X as M (as.map (cv ad)).toArray U := fun U hU hW => ⟨rfl, by rw [hU]; exact hP, Cx_to hCx hS hU hW⟩
            rcases hv with ⟨rfl, hSt, k, as0, rfl, hk1, rfl, hN⟩ | ⟨rfl, hSt, rfl, hN⟩
            · rw [if_pos rfl] at hd hdd
              simp only [lenI] at hdd
              subst hdd
              have hw1 := hMW.1.2.2.2.2
              rw [if_neg (by rw [hSt]; decide)] at hw1
              have hGood := good_code (b := eB e') (n := eL e') (r := eR e') (own := ownS (eO e)) (ix := ix) (mem_t hlink) hw1.1 hw1.2 hMW.1.2.2.2.1 hMW.2.1
              have hkA : k ∈ AK := vok_small (hvs _ (List.mem_append_right _ List.mem_cons_self)) (by
                have hh : ∀ z, z < 178 → ∀ e ∈ nth MT z, eS e = false → eO e < 22 := by decide +kernel
                rw [hk1]; exact hh z' hz1 e' he' hSt)
              obtain ⟨ci, hci⟩ := List.getElem?_of_mem hkA
              have hkN : k.1 < NC := by
                have hh : ∀ z, z < 178 → ∀ e ∈ nth MT z, eS e = false → eO e < NC := by decide +kernel
                rw [hk1]; exact hh z' hz1 e' he' hSt
              have hCk : (eY e').cls = clC k.1 := by
                have hh : ∀ K, K < NC → ownS K = clC K := by decide +kernel
                rw [hMW.1.2.1, ← hk1]; exact hh _ hkN
              have hrecv : ∃ cell : Cell, H[ad k]? = some cell ∧ cell.vm.isStatics = false ∧ s.vm.findClass (eY e').cls = some cell.cls := by
                rw [hCk]
                exact va_recv (D := D) hCx.1 hP (ci := k.1) (q0 := ci) (q := (clC k.1, clT k.1, clN k.1)) (cl_at k.1 hkN) (by rw [WS_at hci]; exact congrArg (fun x => some (ad k, x)) (ent_o hkN))
              refine W_call (va_runV (As := as0.map (cv ad)) (rest := rest.map (cv ad)) (C := (eY e').cls) ⟨hx, hb, hml, hown, hts⟩ hMet (cwV (eN e') hts hGood rfl rfl rfl ⟨rfl, hMW.1.2.2.1⟩ ⟨Nat.le_trans hrf hR.1, Nat.le_trans hrw hR.2.1⟩) ⟨PcZ_blind, hrecv, hpre⟩ rfl (by rw [List.length_map, hN]) hL.2.1 (by rw [List.map_append, List.map_reverse]; rfl) (lv_room (by rw [cat_S]; exact hcat)) hd ⟨hR.2.2.1, hR.2.2.2⟩) hS (fun H1 locs1 hvr hP1 hS1 => ?_)
              rw [← hpush]
              exact hG hvr H1 locs1 als hL hP1 hS1
            · rw [if_neg (by decide)] at hd hdd
              simp only [lenI] at hdd
              subst hdd
              have hw1 := hMW.1.2.2.2.2
              rw [if_pos hSt] at hw1
              have hGood := good_codeS (b := eB e') (n := eL e') (r := eR e') (own := ownS (eO e)) (ix := ix) (mem_t hlink) hw1 hMW.1.2.2.2.1 hMW.2.1
              refine W_call (va_runS (As := as.map (cv ad)) (rest := rest.map (cv ad)) ⟨hx, hb, hml, hown, hts⟩ hMet (va_cwS (eN e') hts hGood rfl rfl rfl hMW.1.2.2.1 ⟨Nat.le_trans hrf hR.1, Nat.le_trans hrw hR.2.1⟩) ⟨PcZ_blind, hpre⟩ rfl (by rw [List.length_map, hN]) hL.2.1 (by rw [List.map_append, List.map_reverse]) (lv_room (by rw [cat_S]; exact hcat)) hd ⟨hR.2.2.1, hR.2.2.2⟩) hS (fun H1 locs1 hvr hP1 hS1 => ?_)
              rw [← hpush]
              exact hG hvr H1 locs1 als hL hP1 hS1
        | .inr (.inr r1), h, hs2 =>
          simp only [Option.some.injEq, Prod.mk.injEq] at h
          obtain ⟨rfl, rfl⟩ := h
          obtain ⟨rfl, hRK, hl1⟩ := stepI_ret hs2
          have hdd := lenOK_eq hlen (by rw [hl1]; decide)
          rw [hl1] at hdd
          subst hdd
          intro p env R s m args below meth c cells slots Q hR hy hK H locs als hL hP hS
          exact hK pc I H locs als (by
            cases r1 with
            | none => trivial
            | some v => exact hvs v List.mem_cons_self) hd hRK hP hS
end
end
section
/-! 08: the same machine over whole numbers: an instruction has a guard (nothing wraps, an index is in its row). -/
abbrev KI : Type := Nat × Int × Int
abbrev U : Type := Int ⊕ (Int ⊕ Option KI)
abbrev NM : Type := Nat → Int → Int → Int → Int
abbrev XI : Type := Int × (Int → Int)
abbrev SI : Type := Nat × List (Option U) × List U × NM
abbrev RI : Type := SI ⊕ ((Nat × List U × List U) ⊕ Option U)
abbrev OI : Type := Option Prop × Option RI
abbrev i32 (a : Int) : Prop := -2147483648 ≤ a ∧ a < 2147483648
abbrev i64 (a : Int) : Prop := -9223372036854775808 ≤ a ∧ a < 9223372036854775808
def wri (M : NM) (K : Nat) (j i s v : Int) : NM := fun K' j' i' s' => if K' = K ∧ j' = j ∧ i' = i ∧ s' = s then v else M K' j' i' s'
def cpi (M : NM) (K : Nat) (j i : Int) (K2 : Nat) (j2 i2 sp dp n : Int) : NM := fun K' j' i' s' => if K' = K2 ∧ j' = j2 ∧ i' = i2 ∧ dp ≤ s' ∧ s' < dp + n then M K j i (sp + (s' - dp)) else M K' j' i' s'
def andI (a b : Int) : Int := (Int32.ofInt a &&& Int32.ofInt b).toInt
def orI (a b : Int) : Int := (Int32.ofInt a ||| Int32.ofInt b).toInt
def xorI (a b : Int) : Int := (Int32.ofInt a ^^^ Int32.ofInt b).toInt
def shlI (a b : Int) : Int := (Int32.ofInt a <<< (Int32.ofInt b &&& 31)).toInt
def shrI (a b : Int) : Int := (Int32.ofInt a >>> (Int32.ofInt b &&& 31)).toInt
def ushI (a b : Int) : Int := ((Int32.ofInt a).toUInt32 >>> ((Int32.ofInt b).toUInt32 &&& Int32.toUInt32 31)).toInt32.toInt
def lshlI (a b : Int) : Int := (Int64.ofInt a <<< ((Int32.ofInt b).toInt64 &&& 63)).toInt
def lorI (a b : Int) : Int := (Int64.ofInt a ||| Int64.ofInt b).toInt
def lcmI (a b : Int) : Int := if b < a then 1 else if a = b then 0 else -1
def go (pc : Nat) (ls : List (Option U)) (st : List U) (M : NM) : OI := (none, some (.inl (pc, ls, st, M)))
def gg (G : Prop) (pc : Nat) (ls : List (Option U)) (st : List U) (M : NM) : OI := (some G, some (.inl (pc, ls, st, M)))
def no : OI := (none, none)
def bb (b : Bool) (r : OI) : OI := bif b then r else no
/-- where a reference field leads -/
def shI (K s : Nat) (j : Int) : Option KI := match K, s with
  | 1, 0 => some (9, j, 0)
  | 1, 1 => some (13, j, 0)
  | 1, 2 => some (14, j, 0)
  | 2, 0 => some (12, 0, 0)
  | 4, 0 => some (15, 0, 0)
  | 4, 1 => some (16, 0, 0)
  | 5, 0 => some (1, j, 0)
  | 5, 1 => some (10, j, 0)
  | 5, 2 => some (11, j, 0)
  | 7, 0 => some (5, 0, 0)
  | 7, 1 => some (5, 1, 0)
  | 7, 2 => some (2, 0, 0)
  | 7, 3 => some (4, 0, 0)
  | 8, 1 => some (17, 0, 0)
  | 8, 2 => some (18, 0, 0)
  | 8, 3 => some (19, 0, 0)
  | 8, 5 => some (20, 0, 0)
  | 8, 11 => some (21, 0, 0)
  | _, _ => none
/-- arrays of numbers: length; whether of chars -/
def alI (X : XI) (K : Nat) : Option (Int × Bool) := match K with
  | 13 => some (600, false)
  | 14 => some (600, false)
  | 15 => some (120, true)
  | 16 => some (3, false)
  | 17 => some (589, false)
  | 18 => some (589, false)
  | 19 => some (2945, false)
  | 20 => some (120, false)
  | 21 => some (3, false)
  | 30 => some (X.1, false)
  | _ => none
def rlI (K : Nat) : Option Int := match K with
  | 9 => some 6
  | 10 => some 20
  | 11 => some 20
  | 12 => some 6
  | _ => none
def aeI (K : Nat) (j n : Int) : KI := match K with
  | 9 => (0, j, n)
  | 10 => (3, j, n)
  | 11 => (6, j, n)
  | 12 => (5, 2 + n, 0)
  | _ => (0, 0, 0)
def arI (X : XI) (M : NM) (K : Nat) (j i n : Int) : Int := match K with
  | 30 => X.2 n
  | _ => M K j i n
def KTabI : List ((Nat × Nat) × Int) := [((10, 265), 1431655765), ((10, 266), 858993459), ((10, 267), 252645135)]
def JTabI : List ((Nat × Nat) × Int) := [((8, 188), 1752132708), ((8, 190), 6452601), ((8, 192), 1685221232), ((8, 194), 1650549611), ((8, 196), 26990), ((8, 198), 30064), ((8, 200), 2002872692)]
def getU (ls : List (Option U)) (i : Nat) : Option U := match nth ls i with
  | some (some v) => some v
  | _ => none
def setU : List (Option U) → Nat → Option U → List (Option U)
  | [], _, _ => []
  | _ :: l, 0, v => v :: l
  | a :: l, n + 1, v => a :: setU l n v
def lngU : Option U → Bool
  | some (.inr (.inl _)) => true
  | _ => false
def kilU (ls : List (Option U)) : Nat → List (Option U)
  | 0 => ls
  | n + 1 => bif lngU ((nth ls n).getD none) then setU ls n none else ls
def s1U (g : Bool) (ls : List (Option U)) (i : Nat) (v : U) : List (Option U) := setU (bif g then kilU ls i else ls) i (some v)
def s2U (ls : List (Option U)) (i : Nat) (v : U) : List (Option U) := setU (setU (kilU ls i) (i + 1) none) i (some v)
def popU : Nat → List U → Option (List U × List U)
  | 0, st => some ([], st)
  | _ + 1, [] => none
  | n + 1, v :: st => match popU n st with
    | some q => some (q.1 ++ [v], q.2)
    | none => none
def catU : List U → Nat
  | [] => 0
  | .inr (.inl _) :: l => 2 + catU l
  | _ :: l => 1 + catU l
def argU : List U → List (Option U)
  | [] => []
  | .inr (.inl y) :: l => some (.inr (.inl y)) :: none :: argU l
  | v :: l => some v :: argU l
def padU : Nat → List (Option U) → List (Option U)
  | 0, _ => []
  | n + 1, [] => none :: padU n []
  | n + 1, a :: l => a :: padU n l
def initU (n : Nat) (as : List U) : List (Option U) := padU n (argU as)
def pushU : Option U → List U → List U
  | none, st => st
  | some v, st => v :: st
def swI (v : Int) : Int → List Nat → Nat → Nat
  | _, [], d => d
  | lo, t :: l, d => if v = lo then t else swI v (lo + 1) l d
def bzI (c : Jvm.ClassFile.Cond) (a : Int) (t f : Nat) : Nat := match c with
  | .eq => if a = 0 then t else f
  | .ne => if a = 0 then f else t
  | .lt => if a < 0 then t else f
  | .ge => if a < 0 then f else t
  | .gt => if 0 < a then t else f
  | .le => if 0 < a then f else t
def b2I (c : Jvm.ClassFile.Cond) (a b : Int) (t f : Nat) : Nat := match c with
  | .eq => if a = b then t else f
  | .ne => if a = b then f else t
  | .lt => if a < b then t else f
  | .ge => if a < b then f else t
  | .gt => if b < a then t else f
  | .le => if b < a then f else t
def clI (e0 : ME) (z : Nat) (virt : Bool) (pc : Nat) (ls : List (Option U)) (st : List U) (M : NM) (X : XI) : OI :=
  bif Nat.beq z 1000 then (match virt, st with
    | false, .inl n :: .inl dp :: .inr (.inr (some (K2, j2, i2))) :: .inl sp :: .inr (.inr (some (K, j, i))) :: st => (match alI X K, alI X K2 with
      | some (n1, false), some (n2, false) => bb (Nat.ble 1 (eF e0) && Nat.ble 40 (eW e0) && !(Nat.beq K 30) && !(Nat.beq K2 30) && Nat.ble (catU st) 8) (gg ((0 ≤ sp ∧ 0 ≤ n ∧ sp + n ≤ n1) ∧ 0 ≤ dp ∧ dp + n ≤ n2) (pc + 3) ls st (cpi M K j i K2 j2 i2 sp dp n))
      | _, _ => no)
    | _, _ => no)
  else bif Nat.beq z 1001 then (match virt, st with
    | true, .inr (.inr (some (31, i, _))) :: st => (match nth strT i.toNat with
      | some s => bb (Nat.ble 2 (eF e0) && Nat.ble 40 (eW e0) && Nat.ble (catU st) 8 && Nat.ble s.length 100) (go (pc + 3) ls (.inl (Int.ofNat s.length) :: st) M)
      | none => no)
    | _, _ => no)
  else bif Nat.beq z 1002 then (match virt, st with
    | true, .inl k :: .inr (.inr (some (31, i, _))) :: st => (match nth strT i.toNat with
      | some s => bb (Nat.ble 5 (eF e0) && Nat.ble 106 (eW e0) && Nat.ble (catU st) 8 && s.all (fun c => Nat.ble c 255)) (gg (0 ≤ k ∧ k < Int.ofNat s.length) (pc + 3) ls (.inl (Int.ofNat (s.getD k.toNat 0)) :: st) M)
      | none => no)
    | _, _ => no)
  else match nth MT z with
    | none => no
    | some e => match popU (eN e) st with
      | none => no
      | some (as, rest) => bif virt then (match rest with
          | .inr (.inr (some k)) :: rest => bb (Nat.ble (eF e + 1) (eF e0) && Nat.ble (8 + (eL e + 11) + eW e) (eW e0) && Nat.beq k.1 (eO e) && !(eS e) && Nat.ble (catU rest) 8 && Nat.ble (argU (.inr (.inr (some k)) :: as)).length (eL e) && (eG e || Nat.beq (argU (.inr (.inr (some k)) :: as)).length (as.length + 1))) (none, some (.inr (.inl (z, .inr (.inr (some k)) :: as, rest))))
          | _ => no)
        else bb (Nat.ble (eF e + 1) (eF e0) && Nat.ble (8 + (eL e + 11) + eW e) (eW e0) && eS e && Nat.ble (catU rest) 8 && Nat.ble (argU as).length (eL e) && (eG e || Nat.beq (argU as).length as.length)) (none, some (.inr (.inl (z, as, rest))))
/-- one instruction -/
def stI (X : XI) (e : ME) (I : Instr) (n pc : Nat) (ls : List (Option U)) (st : List U) (M : NM) : OI := match I with
  | .iconst k => bb (decide (-128 ≤ k) && decide (k < 128)) (go (pc + 1) ls (.inl k :: st) M)
  | .bipush k => bb (decide (-128 ≤ k) && decide (k < 128)) (go (pc + 2) ls (.inl k :: st) M)
  | .sipush k => bb (decide (-32768 ≤ k) && decide (k < 32768)) (go (pc + 3) ls (.inl k :: st) M)
  | .lconst k => go (pc + 1) ls (.inr (.inl (Int.ofNat k.val)) :: st) M
  | .aconst_null => go (pc + 1) ls (.inr (.inr none) :: st) M
  | .iload_n k => (match getU ls k.val with
    | some (.inl v) => go (pc + 1) ls (.inl v :: st) M
    | _ => no)
  | .iload k => (match getU ls k with
    | some (.inl v) => bb (Nat.beq n 2) (go (pc + 2) ls (.inl v :: st) M)
    | _ => no)
  | .lload_n k => (match getU ls k.val with
    | some (.inr (.inl v)) => go (pc + 1) ls (.inr (.inl v) :: st) M
    | _ => no)
  | .aload_n k => (match getU ls k.val with
    | some (.inr (.inr v)) => go (pc + 1) ls (.inr (.inr v) :: st) M
    | _ => no)
  | .aload k => (match getU ls k with
    | some (.inr (.inr v)) => bb (Nat.beq n 2) (go (pc + 2) ls (.inr (.inr v) :: st) M)
    | _ => no)
  | .istore_n k => (match st with
    | .inl v :: st => bb (Nat.blt k.val ls.length) (go (pc + 1) (s1U (eG e) ls k.val (.inl v)) st M)
    | _ => no)
  | .istore k => (match st with
    | .inl v :: st => bb (Nat.beq n 2 && Nat.blt k ls.length) (go (pc + 2) (s1U (eG e) ls k (.inl v)) st M)
    | _ => no)
  | .lstore_n k => (match st with
    | .inr (.inl v) :: st => bb (eG e && Nat.blt (k.val + 1) ls.length) (go (pc + 1) (s2U ls k.val (.inr (.inl v))) st M)
    | _ => no)
  | .astore_n k => (match st with
    | .inr (.inr v) :: st => bb (Nat.blt k.val ls.length) (go (pc + 1) (s1U (eG e) ls k.val (.inr (.inr v))) st M)
    | _ => no)
  | .astore k => (match st with
    | .inr (.inr v) :: st => bb (Nat.beq n 2 && Nat.blt k ls.length) (go (pc + 2) (s1U (eG e) ls k (.inr (.inr v))) st M)
    | _ => no)
  | .iinc k d => (match getU ls k with
    | some (.inl v) => bb (Nat.beq n 3 && Nat.blt k ls.length && decide (-32768 ≤ d) && decide (d < 32768)) (gg (-2147483648 ≤ v + d ∧ v + d < 2147483648) (pc + 3) (s1U (eG e) ls k (.inl (v + d))) st M)
    | _ => no)
  | .iadd => (match st with
    | .inl b :: .inl a :: st => gg (-2147483648 ≤ a + b ∧ a + b < 2147483648) (pc + 1) ls (.inl (a + b) :: st) M
    | _ => no)
  | .isub => (match st with
    | .inl b :: .inl a :: st => gg (-2147483648 ≤ a - b ∧ a - b < 2147483648) (pc + 1) ls (.inl (a - b) :: st) M
    | _ => no)
  | .imul => (match st with
    | .inl b :: .inl a :: st => gg (-2147483648 ≤ a * b ∧ a * b < 2147483648) (pc + 1) ls (.inl (a * b) :: st) M
    | _ => no)
  | .idiv => (match st with
    | .inl b :: .inl a :: st => gg (0 ≤ a ∧ 0 < b) (pc + 1) ls (.inl (a / b) :: st) M
    | _ => no)
  | .irem => (match st with
    | .inl b :: .inl a :: st => gg (0 ≤ a ∧ 0 < b) (pc + 1) ls (.inl (a % b) :: st) M
    | _ => no)
  | .iand => (match st with
    | .inl b :: .inl a :: st => go (pc + 1) ls (.inl (andI a b) :: st) M
    | _ => no)
  | .ior => (match st with
    | .inl b :: .inl a :: st => go (pc + 1) ls (.inl (orI a b) :: st) M
    | _ => no)
  | .ixor => (match st with
    | .inl b :: .inl a :: st => go (pc + 1) ls (.inl (xorI a b) :: st) M
    | _ => no)
  | .ishl => (match st with
    | .inl b :: .inl a :: st => go (pc + 1) ls (.inl (shlI a b) :: st) M
    | _ => no)
  | .ishr => (match st with
    | .inl b :: .inl a :: st => go (pc + 1) ls (.inl (shrI a b) :: st) M
    | _ => no)
  | .iushr => (match st with
    | .inl b :: .inl a :: st => go (pc + 1) ls (.inl (ushI a b) :: st) M
    | _ => no)
  | .i2c => (match st with
    | .inl a :: st => gg (0 ≤ a ∧ a < 65536) (pc + 1) ls (.inl a :: st) M
    | _ => no)
  | .i2l => (match st with
    | .inl a :: st => go (pc + 1) ls (.inr (.inl a) :: st) M
    | _ => no)
  | .lshl => (match st with
    | .inl b :: .inr (.inl a) :: st => go (pc + 1) ls (.inr (.inl (lshlI a b)) :: st) M
    | _ => no)
  | .lor => (match st with
    | .inr (.inl b) :: .inr (.inl a) :: st => go (pc + 1) ls (.inr (.inl (lorI a b)) :: st) M
    | _ => no)
  | .lcmp => (match st with
    | .inr (.inl b) :: .inr (.inl a) :: st => go (pc + 1) ls (.inl (lcmI a b) :: st) M
    | _ => no)
  | .dup => (match st with
    | .inl a :: st => go (pc + 1) ls (.inl a :: .inl a :: st) M
    | .inr (.inr a) :: st => go (pc + 1) ls (.inr (.inr a) :: .inr (.inr a) :: st) M
    | _ => no)
  | .pop => (match st with
    | .inl _ :: st => go (pc + 1) ls st M
    | .inr (.inr _) :: st => go (pc + 1) ls st M
    | _ => no)
  | .dup2 => (match st with
    | .inl b :: .inr (.inr a) :: st => go (pc + 1) ls (.inl b :: .inr (.inr a) :: .inl b :: .inr (.inr a) :: st) M
    | _ => no)
  | .goto o => (match tg pc o with
    | some t => go t ls st M
    | none => no)
  | .ifCond c o => (match st, tg pc o with
    | .inl a :: st, some t => go (bzI c a t (pc + 3)) ls st M
    | _, _ => no)
  | .if_icmp c o => (match st, tg pc o with
    | .inl b :: .inl a :: st, some t => go (b2I c a b t (pc + 3)) ls st M
    | _, _ => no)
  | .ifnull o => (match st, tg pc o with
    | .inr (.inr none) :: st, some t => go t ls st M
    | .inr (.inr (some _)) :: st, some _ => go (pc + 3) ls st M
    | _, _ => no)
  | .ifnonnull o => (match st, tg pc o with
    | .inr (.inr none) :: st, some _ => go (pc + 3) ls st M
    | .inr (.inr (some _)) :: st, some t => go t ls st M
    | _, _ => no)
  | .tableswitch d lo hi os => (match st, tg pc d, tgs pc os.toList with
    | .inl a :: st, some t, some l => bb (decide (hi + 1 = lo + (os.toList.length : Int)) && decide (-2147483648 ≤ lo) && decide (hi < 2147483648)) (go (swI a lo l t) ls st M)
    | _, _, _ => no)
  | .getfield ix => (match st with
    | .inr (.inr (some (K, j, i))) :: st => (match fnd2 FTab (eO e) ix with
      | some (K', s, _) => bb (Nat.beq K K') (match shI K s j with
        | some k => go (pc + 3) ls (.inr (.inr (some k)) :: st) M
        | none => go (pc + 3) ls (.inl (M K j i (Int.ofNat s)) :: st) M)
      | none => no)
    | _ => no)
  | .putfield ix => (match st with
    | .inl v :: .inr (.inr (some (K, j, i))) :: st => (match fnd2 FTab (eO e) ix with
      | some (K', s, _) => bb (Nat.beq K K') (match shI K s j with
        | some _ => no
        | none => bif fZ K s then gg (v = 0 ∨ v = 1) (pc + 3) ls st (wri M K j i (Int.ofNat s) v) else go (pc + 3) ls st (wri M K j i (Int.ofNat s) v))
      | none => no)
    | _ => no)
  | .iaload => (match st with
    | .inl v :: .inr (.inr (some (K, j, i))) :: st => (match alI X K with
      | some (N, false) => gg (0 ≤ v ∧ v < N) (pc + 1) ls (.inl (arI X M K j i v) :: st) M
      | _ => no)
    | _ => no)
  | .caload => (match st with
    | .inl v :: .inr (.inr (some (K, j, i))) :: st => (match alI X K with
      | some (N, true) => gg (0 ≤ v ∧ v < N) (pc + 1) ls (.inl (M K j i v) :: st) M
      | _ => no)
    | _ => no)
  | .iastore => (match st with
    | .inl w :: .inl v :: .inr (.inr (some (K, j, i))) :: st => (match alI X K with
      | some (N, false) => bb (!(Nat.beq K 30)) (gg (0 ≤ v ∧ v < N) (pc + 1) ls st (wri M K j i v w))
      | _ => no)
    | _ => no)
  | .castore => (match st with
    | .inl w :: .inl v :: .inr (.inr (some (K, j, i))) :: st => (match alI X K with
      | some (N, true) => bb (!(Nat.beq K 30)) (gg ((0 ≤ v ∧ v < N) ∧ 0 ≤ w ∧ w < 65536) (pc + 1) ls st (wri M K j i v w))
      | _ => no)
    | _ => no)
  | .aaload => (match st with
    | .inl v :: .inr (.inr (some (K, j, _))) :: st => (match rlI K with
      | some N => gg (0 ≤ v ∧ v < N) (pc + 1) ls (.inr (.inr (some (aeI K j v))) :: st) M
      | none => no)
    | _ => no)
  | .arraylength => (match st with
    | .inr (.inr (some (30, _, _))) :: st => go (pc + 1) ls (.inl X.1 :: st) M
    | _ => no)
  | .ldc ix => (match fnd2 LTab (eO e) ix with
    | some k => go (pc + 2) ls (.inr (.inr (some (31, Int.ofNat k, 0))) :: st) M
    | none => no)
  | .ldc_w ix => (match fnd2 KTabI (eO e) ix with
    | some v => go (pc + 3) ls (.inl v :: st) M
    | none => no)
  | .ldc2_w ix => (match fnd2 JTabI (eO e) ix with
    | some v => go (pc + 3) ls (.inr (.inl v) :: st) M
    | none => no)
  | .invokevirtual ix => (match fnd2 CTab (eO e) ix with
    | some (z, _) => clI e z true pc ls st M X
    | none => no)
  | .invokestatic ix => (match fnd2 CTab (eO e) ix with
    | some (z, _) => clI e z false pc ls st M X
    | none => no)
  | .ireturn => (match st, eR e with
    | [.inl v], some .int => (none, some (.inr (.inr (some (.inl v)))))
    | [.inl v], some .boolean => (some (v = 0 ∨ v = 1), some (.inr (.inr (some (.inl v)))))
    | _, _ => no)
  | .lreturn => (match st, eR e with
    | [.inr (.inl v)], some .long => (none, some (.inr (.inr (some (.inr (.inl v))))))
    | _, _ => no)
  | .areturn => (match st, eR e with
    | [.inr (.inr v)], some (.object _) => (none, some (.inr (.inr (some (.inr (.inr v))))))
    | _, _ => no)
  | .return_ => (match st, eR e with
    | [], none => (none, some (.inr (.inr none)))
    | _, _ => no)
  | _ => no
def stS (X : XI) (e : ME) (s : SI) : OI := match fnd (eI e) s.1 with
  | none => no
  | some q => stI X e q.1 q.2 s.1 s.2.1 s.2.2.1 s.2.2.2
def Gd : Option Prop → Prop → Prop
  | none, P => P
  | some G, P => G ∧ P
def wpI (X : XI) : Nat → ME → SI → (Option U → NM → Prop) → Prop
  | 0, _, _, _ => False
  | n + 1, e, s, Q => match stS X e s with
    | (G, some (.inl s')) => Gd G (wpI X n e s' Q)
    | (G, some (.inr (.inl (z, as, rest)))) => Gd G (match nth MT z with
      | some e' => wpI X n e' (0, initU (eL e') as, [], s.2.2.2) (fun r M' => wpI X n e (s.1 + 3, s.2.1, pushU r rest, M') Q)
      | none => False)
    | (G, some (.inr (.inr r))) => Gd G (Q r s.2.2.2)
    | (_, none) => False
def EvI (X : XI) (e : ME) (s : SI) (Q : Option U → NM → Prop) : Prop := ∃ n, wpI X n e s Q
def HT (X : XI) (z : Nat) (as : List U) (M : NM) (P : Option U → NM → Prop) : Prop := ∃ e, nth MT z = some e ∧ EvI X e (0, initU (eL e) as, [], M) P
def seg (X : XI) (e : ME) : Nat → SI → (SI → Prop) → Prop
  | 0, s, K => K s
  | n + 1, s, K => match stS X e s with
    | (G, some (.inl s')) => Gd G (seg X e n s' K)
    | _ => False
theorem Gd_imp {G : Option Prop} {P P' : Prop} (h : Gd G P) (k : P → P') : Gd G P' := by
  cases G with
  | none => exact k h
  | some G => exact ⟨h.1, k h.2⟩
theorem wp_mono (X : XI) : ∀ (n : Nat) (e : ME) (s : SI) (Q Q' : Option U → NM → Prop), (∀ r M, Q r M → Q' r M) → wpI X n e s Q → wpI X (n + 1) e s Q' := by
  intro n
  induction n with
  | zero => intro e s Q Q' hQ h; exact absurd h id
  | succ n ih =>
    intro e s Q Q' hQ h
    rw [wpI] at h ⊢
    split at h
    · next G s' hs => exact Gd_imp h (ih _ _ _ _ hQ)
    · next G z as rest hs =>
      refine Gd_imp h (fun h => ?_)
      split at h
      · next e' he => exact ih _ _ _ _ (fun r M' h2 => ih _ _ _ _ hQ h2) h
      · exact absurd h id
    · next G r hs => exact Gd_imp h (hQ _ _)
    · exact absurd h id
theorem wp_le {X : XI} {n k : Nat} {e : ME} {s : SI} {Q : Option U → NM → Prop} (h : wpI X n e s Q) (hk : n ≤ k) : wpI X k e s Q := by
  induction hk with
  | refl => exact h
  | step _ ih => exact wp_mono X _ _ _ _ _ (fun _ _ q => q) ih
theorem wp_imp {X : XI} : ∀ (n : Nat) {e : ME} {s : SI} {Q Q' : Option U → NM → Prop}, wpI X n e s Q → (∀ r M, Q r M → Q' r M) → wpI X n e s Q' := by
  intro n
  induction n with
  | zero => intro e s Q Q' h; exact absurd h id
  | succ n ih =>
    intro e s Q Q' h hQ
    rw [wpI] at h ⊢
    split at h
    · next G s' hs => exact Gd_imp h (fun h => ih h hQ)
    · next G z as rest hs =>
      refine Gd_imp h (fun h => ?_)
      split at h
      · next e' he => exact ih h (fun r M' h2 => ih h2 hQ)
      · exact absurd h id
    · next G r hs => exact Gd_imp h (hQ _ _)
    · exact absurd h id
theorem wp_det (X : XI) : ∀ (n : Nat) (e : ME) (s : SI) (Q : Option U → NM → Prop), wpI X n e s Q → ∃ r M, Q r M ∧ wpI X n e s (fun r' M' => r' = r ∧ M' = M) := by
  intro n
  induction n with
  | zero => intro e s Q h; exact absurd h id
  | succ n ih =>
    intro e s Q h
    rw [wpI] at h
    split at h
    · next G s' hs =>
      have h2 : wpI X n e s' Q := by
        cases G with
        | none => exact h
        | some G => exact h.2
      obtain ⟨r, M, hq, h3⟩ := ih _ _ _ h2
      refine ⟨r, M, hq, ?_⟩
      rw [wpI, hs]
      exact Gd_imp h (fun _ => h3)
    · next G z as rest hs =>
      cases he : nth MT z with
      | none =>
        rw [he] at h
        cases G with
        | none => exact absurd h id
        | some G => exact absurd h.2 id
      | some e' =>
        rw [he] at h
        have h2 : wpI X n e' (0, initU (eL e') as, [], s.2.2.2) (fun r M' => wpI X n e (s.1 + 3, s.2.1, pushU r rest, M') Q) := by
          cases G with
          | none => exact h
          | some G => exact h.2
        obtain ⟨r1, M1, h3, h4⟩ := ih _ _ _ h2
        obtain ⟨r, M, hq, h5⟩ := ih _ _ _ h3
        refine ⟨r, M, hq, ?_⟩
        rw [wpI, hs]
        refine Gd_imp h (fun _ => ?_)
        simp only [he]
        exact wp_imp n h4 (fun r' M' hr => by obtain ⟨rfl, rfl⟩ := hr; exact h5)
    · next G r hs =>
      have h2 : Q r s.2.2.2 := by
        cases G with
        | none => exact h
        | some G => exact h.2
      refine ⟨r, s.2.2.2, h2, ?_⟩
      rw [wpI, hs]
      exact Gd_imp h (fun _ => ⟨rfl, rfl⟩)
    · exact absurd h id
section
variable {X : XI} {e : ME}
theorem evI_imp {s : SI} {Q Q' : Option U → NM → Prop} (h : EvI X e s Q) (k : ∀ r M, Q r M → Q' r M) : EvI X e s Q' := by
  obtain ⟨n, h⟩ := h
  exact ⟨n, wp_imp n h k⟩
theorem evI_one {s s' : SI} {G : Option Prop} {Q : Option U → NM → Prop} (h : stS X e s = (G, some (.inl s'))) (k : Gd G (EvI X e s' Q)) : EvI X e s Q := by
  have k2 : EvI X e s' Q := by
    cases G with
    | none => exact k
    | some G => exact k.2
  obtain ⟨n, hn⟩ := k2
  exact ⟨n + 1, by rw [wpI, h]; exact Gd_imp k (fun _ => hn)⟩
theorem seg_ok {Q : Option U → NM → Prop} : ∀ (n : Nat) {s : SI}, seg X e n s (fun s' => EvI X e s' Q) → EvI X e s Q := by
  intro n
  induction n with
  | zero => intro s h; exact h
  | succ n ih =>
    intro s h
    rw [seg] at h
    split at h
    · next G s' hs => exact evI_one hs (Gd_imp h ih)
    · exact absurd h id
theorem ev_if {c : Prop} [Decidable c] {t f : Nat} {ls : List (Option U)} {st : List U} {M : NM} {Q : Option U → NM → Prop} (a : c → EvI X e (t, ls, st, M) Q) (b : ¬ c → EvI X e (f, ls, st, M) Q) : EvI X e (if c then t else f, ls, st, M) Q := by
  by_cases h : c
  · rw [if_pos h]; exact a h
  · rw [if_neg h]; exact b h
theorem ev_rt {s : SI} {G : Option Prop} {r : Option U} {Q : Option U → NM → Prop} (h : stS X e s = (G, some (.inr (.inr r)))) (k : Gd G (Q r s.2.2.2)) : EvI X e s Q := ⟨1, by rw [wpI, h]; exact k⟩
theorem ht_of {z : Nat} {as : List U} {M : NM} {P : Option U → NM → Prop} (he : nth MT z = some e) (h : EvI X e (0, initU (eL e) as, [], M) P) : HT X z as M P := ⟨e, he, h⟩
theorem ht_imp {z : Nat} {as : List U} {M : NM} {P P' : Option U → NM → Prop} (h : HT X z as M P) (k : ∀ r M, P r M → P' r M) : HT X z as M P' := by
  obtain ⟨e, he, h⟩ := h
  exact ⟨e, he, evI_imp h k⟩
theorem ev_cl {pc z : Nat} {ls : List (Option U)} {st as rest : List U} {M : NM} {P Q : Option U → NM → Prop} (h : stS X e (pc, ls, st, M) = (none, some (.inr (.inl (z, as, rest))))) (hc : HT X z as M P) (k : ∀ r M', P r M' → EvI X e (pc + 3, ls, pushU r rest, M') Q) : EvI X e (pc, ls, st, M) Q := by
  obtain ⟨e', he, n, hn⟩ := hc
  obtain ⟨r, M', hP, hd⟩ := wp_det X n _ _ _ hn
  obtain ⟨m, hm⟩ := k r M' hP
  refine ⟨max n m + 1, ?_⟩
  rw [wpI, h]
  show (match nth MT z with | some e' => wpI X (max n m) e' (0, initU (eL e') as, [], M) (fun r M' => wpI X (max n m) e (pc + 3, ls, pushU r rest, M') Q) | none => False)
  rw [he]
  refine wp_imp _ (wp_le hd (Nat.le_max_left n m)) (fun r' M'' hr => ?_)
  obtain ⟨rfl, rfl⟩ := hr
  exact wp_le hm (Nat.le_max_right n m)
end
end
section
/-! 09: the whole-number machine is sound over 03's -/
def cK (k : KI) : Key := (k.1, k.2.1.toNat, k.2.2.toNat)
def cU : U → V
  | .inl a => .inl (Int32.ofInt a)
  | .inr (.inl a) => .inr (.inl (Int64.ofInt a))
  | .inr (.inr none) => .inr (.inr none)
  | .inr (.inr (some k)) => .inr (.inr (some (cK k)))
def cO : Option U → Option V
  | none => none
  | some v => some (cU v)
def cL (ls : List (Option U)) : List (Option V) := ls.map cO
def cT (st : List U) : List V := st.map cU
def cM (M : NM) : Mem := fun K j i s => Int32.ofInt (M K (Int.ofNat j) (Int.ofNat i) (Int.ofNat s))
def cX (X : XI) : SX := (X.1.toNat, fun k => Int32.ofInt (X.2 (Int.ofNat k)))
def cS (s : SI) : St := (s.1, cL s.2.1, cT s.2.2.1, cM s.2.2.2)
def cR : RI → Res
  | .inl s => .inl (cS s)
  | .inr (.inl q) => .inr (.inl (q.1, cT q.2.1, cT q.2.2))
  | .inr (.inr r) => .inr (.inr (cO r))
def okU : U → Prop
  | .inl a => i32 a
  | .inr (.inl a) => i64 a
  | .inr (.inr none) => True
  | .inr (.inr (some k)) => 0 ≤ k.2.1 ∧ 0 ≤ k.2.2
def okO : Option U → Prop
  | none => True
  | some v => okU v
def okL (ls : List (Option U)) : Prop := ∀ v ∈ ls, okO v
def okT (st : List U) : Prop := ∀ v ∈ st, okU v
def okM (M : NM) : Prop := ∀ K j i s, i32 (M K j i s)
def okX (X : XI) : Prop := 0 ≤ X.1 ∧ X.1 < 2147483648 ∧ ∀ k, i32 (X.2 k)
def okS (s : SI) : Prop := okL s.2.1 ∧ okT s.2.2.1 ∧ okM s.2.2.2
def okR (M : NM) : RI → Prop
  | .inl s => okS s
  | .inr (.inl q) => okT q.2.1 ∧ okT q.2.2
  | .inr (.inr r) => okO r
def gP : Option Prop → Prop
  | none => True
  | some G => G
/-! numbers -/
theorem oi_eq {a b : Int} (ha : i32 a) (hb : i32 b) : Int32.ofInt a = Int32.ofInt b ↔ a = b := by
  constructor
  · intro h
    have := congrArg Int32.toInt h
    rwa [ofInt_toInt ha.1 ha.2, ofInt_toInt hb.1 hb.2] at this
  · rintro rfl; rfl
theorem oi_lt {a b : Int} (ha : i32 a) (hb : i32 b) : Int32.ofInt a < Int32.ofInt b ↔ a < b := by
  rw [Int32.lt_iff_toInt_lt, ofInt_toInt ha.1 ha.2, ofInt_toInt hb.1 hb.2]
theorem i32_0 : i32 0 := by decide
theorem i32_toInt (a : Int32) : i32 a.toInt := by
  have h1 := Int32.le_toInt a
  have h2 := Int32.toInt_lt a
  exact ⟨h1, h2⟩
theorem i64_toInt (a : Int64) : i64 a.toInt := by
  have h1 := Int64.le_toInt a
  have h2 := Int64.toInt_lt a
  exact ⟨h1, h2⟩
theorem oj_toInt {a : Int} (h : i64 a) : (Int64.ofInt a).toInt = a := by
  rw [Int64.toInt_ofInt]
  show Int.bmod a 18446744073709551616 = a
  obtain ⟨h1, h2⟩ := h
  unfold Int.bmod
  simp only
  split <;> omega
theorem oi_clamp {a : Int} (h : i32 a) : (Int32.ofInt a).toNatClampNeg = a.toNat := by
  show (Int32.ofInt a).toInt.toNat = _
  rw [ofInt_toInt h.1 h.2]
theorem oi_div {a b : Int} (ha : i32 a) (hb : i32 b) (h0 : 0 ≤ a) (h1 : 0 < b) : Int32.ofInt a / Int32.ofInt b = Int32.ofInt (a / b) := by
  apply Int32.toInt_inj.mp
  have h2 : 0 ≤ a / b := Int.ediv_nonneg h0 (Int.le_of_lt h1)
  have h3 : a / b ≤ a := Int.ediv_le_self b h0
  rw [Int32.toInt_div, ofInt_toInt ha.1 ha.2, ofInt_toInt hb.1 hb.2, ofInt_toInt (by omega) (by omega), Int.tdiv_eq_ediv_of_nonneg h0]
  show Int.bmod (a / b) 4294967296 = a / b
  have := ha.2
  unfold Int.bmod
  simp only
  split <;> omega
theorem div_i32 {a b : Int} (ha : i32 a) (h0 : 0 ≤ a) (h1 : 0 < b) : i32 (a / b) := by
  have h2 : 0 ≤ a / b := Int.ediv_nonneg h0 (Int.le_of_lt h1)
  have h3 : a / b ≤ a := Int.ediv_le_self b h0
  obtain ⟨_, _⟩ := ha
  constructor <;> omega
theorem mod_i32 {a b : Int} (hb : i32 b) (h1 : 0 < b) : i32 (a % b) := by
  have h2 : 0 ≤ a % b := Int.emod_nonneg _ (by omega)
  have h3 : a % b < b := Int.emod_lt_of_pos _ h1
  obtain ⟨_, _⟩ := hb
  constructor <;> omega
theorem oi_nat {a : Int} (h : 0 ≤ a) : Int32.ofInt a = nI a.toNat := by
  obtain ⟨n, rfl⟩ := Int.eq_ofNat_of_zero_le h
  rw [Int.toNat_natCast]
  rfl
theorem oi_char {a : Int} (h : 0 ≤ a) (h2 : a < 65536) : ((Int32.ofInt a).toUInt32 % 65536).toInt32 = Int32.ofInt a := by
  rw [pk_char, oi_nat h]
  congr 1
  have h3 : (nI a.toNat).toBitVec.toNat = a.toNat % 4294967296 := by
    show (BitVec.ofNat 32 a.toNat).toNat = _
    rw [BitVec.toNat_ofNat]
  rw [h3]
  omega
theorem fb_char {n : Nat} (h : n < 65536) : (nI n).toUInt32.toUInt16.toUInt32.toInt32 = nI n := by
  apply Int32.toBitVec_inj.1
  apply BitVec.eq_of_toNat_eq
  have e1 : (nI n).toBitVec.toNat = n := by
    show (BitVec.ofNat 32 n).toNat = n
    rw [BitVec.toNat_ofNat, Nat.mod_eq_of_lt (by omega)]
  have e2 : ((nI n).toUInt32.toUInt16.toUInt32).toNat = n := by
    rw [UInt16.toNat_toUInt32, UInt32.toNat_toUInt16]
    show (nI n).toBitVec.toNat % 2 ^ 16 = n
    rw [e1, Nat.mod_eq_of_lt (by omega)]
  rw [e1]
  exact e2
theorem oi_nar {a : Int} (h : 0 ≤ a) (h2 : a < 65536) : vp_nar .char (Int32.ofInt a) = Int32.ofInt a := by
  rw [vp_nar_char, oi_nat h, fb_char (by omega)]
theorem oi_bz {a : Int} (ha : i32 a) (c : Jvm.ClassFile.Cond) (t f : Nat) : brZ c (Int32.ofInt a) t f = bzI c a t f := by
  have e1 : (Int32.ofInt a = 0) = (a = 0) := propext (oi_eq ha i32_0)
  have e2 : (Int32.ofInt a < 0) = (a < 0) := propext (oi_lt ha i32_0)
  have e3 : (0 < Int32.ofInt a) = (0 < a) := propext (oi_lt i32_0 ha)
  cases c <;> simp only [brZ, bzI, e1, e2, e3]
theorem oi_b2 {a b : Int} (ha : i32 a) (hb : i32 b) (c : Jvm.ClassFile.Cond) (t f : Nat) : br2 c (Int32.ofInt a) (Int32.ofInt b) t f = b2I c a b t f := by
  have e1 : (Int32.ofInt a = Int32.ofInt b) = (a = b) := propext (oi_eq ha hb)
  have e2 : (Int32.ofInt a < Int32.ofInt b) = (a < b) := propext (oi_lt ha hb)
  have e3 : (Int32.ofInt b < Int32.ofInt a) = (b < a) := propext (oi_lt hb ha)
  cases c <;> simp only [br2, b2I, e1, e2, e3]
theorem oi_sw {a : Int} (ha : i32 a) : ∀ (l : List Nat) (lo : Int) (d : Nat), -2147483648 ≤ lo → lo + l.length ≤ 2147483648 → swN (Int32.ofInt a) lo l d = swI a lo l d := by
  intro l
  induction l with
  | nil => intro lo d _ _; rfl
  | cons t l ih =>
    intro lo d h1 h2
    rw [List.length_cons] at h2
    have e1 : (Int32.ofInt a = Int32.ofInt lo) = (a = lo) := propext (oi_eq ha ⟨h1, by omega⟩)
    simp only [swN, swI, e1]
    rw [ih (lo + 1) d (by omega) (by omega)]
theorem oi_lcm {a b : Int} (ha : i64 a) (hb : i64 b) : lcm (Int64.ofInt a) (Int64.ofInt b) = Int32.ofInt (lcmI a b) := by
  have e1 : (Int64.ofInt a > Int64.ofInt b) = (b < a) := propext (by rw [gt_iff_lt, Int64.lt_iff_toInt_lt, oj_toInt ha, oj_toInt hb])
  have e2 : (Int64.ofInt a = Int64.ofInt b) = (a = b) := propext ⟨fun h => by
    have := congrArg Int64.toInt h
    rwa [oj_toInt ha, oj_toInt hb] at this, fun h => by rw [h]⟩
  unfold lcm lg_cmp lcmI
  simp only [e1, e2]
  split
  · rfl
  · split <;> rfl
theorem lcmI_32 (a b : Int) : i32 (lcmI a b) := by
  unfold lcmI
  split
  · decide
  · split <;> decide
/-! lists -/
theorem nth_cL (ls : List (Option U)) (i : Nat) : nth (cL ls) i = (nth ls i).map cO := by
  rw [nth_get, nth_get, cL, List.getElem?_map]
theorem getL_c (ls : List (Option U)) (i : Nat) : getL (cL ls) i = cO (getU ls i) := by
  unfold getL getU
  rw [nth_cL]
  cases nth ls i with
  | none => rfl
  | some v => cases v <;> rfl
theorem setL_c : ∀ (ls : List (Option U)) (i : Nat) (v : Option U), setL (cL ls) i (cO v) = cL (setU ls i v) := by
  intro ls
  induction ls with
  | nil => intro i v; rfl
  | cons a l ih =>
    intro i v
    cases i with
    | zero => rfl
    | succ i =>
      show cO a :: setL (cL l) i (cO v) = cO a :: cL (setU l i v)
      rw [ih]
theorem lng_c : ∀ v : Option U, isLong (cO v) = lngU v
  | none => rfl
  | some (.inl _) => rfl
  | some (.inr (.inl _)) => rfl
  | some (.inr (.inr none)) => rfl
  | some (.inr (.inr (some _))) => rfl
theorem kil_c (ls : List (Option U)) (i : Nat) : kilL (cL ls) i = cL (kilU ls i) := by
  cases i with
  | zero => rfl
  | succ n =>
    rw [kilL_succ, show kilU ls (n + 1) = bif lngU ((nth ls n).getD none) then setU ls n none else ls from rfl]
    have e : (nth (cL ls) n).getD none = cO ((nth ls n).getD none) := by
      rw [nth_cL]
      cases nth ls n <;> rfl
    rw [e, lng_c]
    cases lngU ((nth ls n).getD none) with
    | true => exact setL_c ls n none
    | false => rfl
theorem st1_c (g : Bool) (ls : List (Option U)) (i : Nat) (v : U) : st1 g (cL ls) i (cU v) = cL (s1U g ls i v) := by
  unfold st1 s1U
  cases g with
  | true => rw [cond_true, cond_true, kil_c]; exact setL_c _ i (some v)
  | false => exact setL_c _ i (some v)
theorem st2_c (ls : List (Option U)) (i : Nat) (v : U) : st2 (cL ls) i (cU v) = cL (s2U ls i v) := by
  unfold st2 s2U
  rw [kil_c, show (none : Option V) = cO none from rfl, setL_c]
  exact setL_c _ i (some v)
theorem pop_c : ∀ (n : Nat) (st : List U), popN n (cT st) = (popU n st).map (fun q => (cT q.1, cT q.2)) := by
  intro n
  induction n with
  | zero => intro st; rfl
  | succ n ih =>
    intro st
    cases st with
    | nil => rfl
    | cons v st =>
      show (match popN n (cT st) with | some q => some (q.1 ++ [cU v], q.2) | none => none) = _
      rw [ih, popU]
      cases popU n st with
      | none => rfl
      | some q => simp [cT]
theorem cat_c : ∀ st : List U, catS (cT st) = catU st := by
  intro st
  induction st with
  | nil => rfl
  | cons v st ih =>
    match v with
    | .inl a => show 1 + catS (cT st) = 1 + catU st; rw [ih]
    | .inr (.inl a) => show 2 + catS (cT st) = 2 + catU st; rw [ih]
    | .inr (.inr none) => show 1 + catS (cT st) = 1 + catU st; rw [ih]
    | .inr (.inr (some k)) => show 1 + catS (cT st) = 1 + catU st; rw [ih]
theorem arg_c : ∀ as : List U, argS (cT as) = cL (argU as) := by
  intro as
  induction as with
  | nil => rfl
  | cons v as ih =>
    match v with
    | .inl a => show some _ :: argS (cT as) = some _ :: cL (argU as); rw [ih]
    | .inr (.inl a) => show some _ :: none :: argS (cT as) = some _ :: none :: cL (argU as); rw [ih]; rfl
    | .inr (.inr none) => show some _ :: argS (cT as) = some _ :: cL (argU as); rw [ih]; rfl
    | .inr (.inr (some k)) => show some _ :: argS (cT as) = some _ :: cL (argU as); rw [ih]; rfl
theorem pad_c : ∀ (n : Nat) (l : List (Option U)), padL n (cL l) = cL (padU n l) := by
  intro n
  induction n with
  | zero => intro l; rfl
  | succ n ih =>
    intro l
    cases l with
    | nil => show none :: padL n (cL []) = none :: cL (padU n []); rw [ih]
    | cons a l => show cO a :: padL n (cL l) = cO a :: cL (padU n l); rw [ih]
theorem init_c (n : Nat) (as : List U) : initL n (cT as) = cL (initU n as) := by
  unfold initL initU
  rw [arg_c, pad_c]
theorem push_c (r : Option U) (st : List U) : pushR (cO r) (cT st) = cT (pushU r st) := by
  cases r <;> rfl
theorem len_c (ls : List (Option U)) : (cL ls).length = ls.length := List.length_map _
theorem lenT_c (ls : List U) : (cT ls).length = ls.length := List.length_map _
/-! ok -/
theorem okL_get {ls : List (Option U)} {i : Nat} {v : U} (h : okL ls) (hv : getU ls i = some v) : okU v := by
  unfold getU at hv
  split at hv
  · next w hw =>
    cases hv
    rw [nth_get] at hw
    exact h _ (List.mem_of_getElem? hw)
  · cases hv
theorem okL_set : ∀ {ls : List (Option U)} {i : Nat} {v : Option U}, okL ls → okO v → okL (setU ls i v) := by
  intro ls
  induction ls with
  | nil => intro i v h hv; exact h
  | cons a l ih =>
    intro i v h hv
    cases i with
    | zero =>
      intro w hw
      rcases List.mem_cons.mp hw with rfl | hw
      · exact hv
      · exact h _ (List.mem_cons_of_mem _ hw)
    | succ i =>
      intro w hw
      rcases List.mem_cons.mp hw with rfl | hw
      · exact h _ List.mem_cons_self
      · exact ih (fun w hw => h _ (List.mem_cons_of_mem _ hw)) hv w hw
theorem okL_kil {ls : List (Option U)} {i : Nat} (h : okL ls) : okL (kilU ls i) := by
  cases i with
  | zero => exact h
  | succ n =>
    rw [show kilU ls (n + 1) = bif lngU ((nth ls n).getD none) then setU ls n none else ls from rfl]
    cases lngU ((nth ls n).getD none) with
    | true => exact okL_set h (show okO none from True.intro)
    | false => exact h
theorem okL_s1 {g : Bool} {ls : List (Option U)} {i : Nat} {v : U} (h : okL ls) (hv : okU v) : okL (s1U g ls i v) := by
  unfold s1U
  cases g with
  | true => exact okL_set (okL_kil h) hv
  | false => exact okL_set h hv
theorem okL_s2 {ls : List (Option U)} {i : Nat} {v : U} (h : okL ls) (hv : okU v) : okL (s2U ls i v) := okL_set (okL_set (okL_kil h) (show okO none from True.intro)) hv
theorem okT_cons {v : U} {st : List U} (hv : okU v) (h : okT st) : okT (v :: st) := fun w hw => by
  rcases List.mem_cons.mp hw with rfl | hw
  · exact hv
  · exact h w hw
theorem okT_hd {v : U} {st : List U} (h : okT (v :: st)) : okU v := h v List.mem_cons_self
theorem okT_tl {v : U} {st : List U} (h : okT (v :: st)) : okT st := fun w hw => h w (List.mem_cons_of_mem _ hw)
theorem okM_wri {M : NM} {K : Nat} {j i s v : Int} (h : okM M) (hv : i32 v) : okM (wri M K j i s v) := by
  intro K' j' i' s'
  unfold wri
  split
  · exact hv
  · exact h _ _ _ _
theorem okM_cpi {M : NM} {K K2 : Nat} {j i j2 i2 sp dp n : Int} (h : okM M) : okM (cpi M K j i K2 j2 i2 sp dp n) := by
  intro K' j' i' s'
  unfold cpi
  split
  · exact h _ _ _ _
  · exact h _ _ _ _
theorem ofNat_iff {a : Int} (h : 0 ≤ a) (n : Nat) : (Int.ofNat n = a) = (n = a.toNat) := propext ⟨fun q => by rw [← q]; rfl, fun q => by rw [q]; exact Int.toNat_of_nonneg h⟩
theorem cM_wri {M : NM} {K : Nat} {j i s v : Int} (hj : 0 ≤ j) (hi : 0 ≤ i) (hs : 0 ≤ s) : cM (wri M K j i s v) = wr (cM M) K j.toNat i.toNat s.toNat (Int32.ofInt v) := by
  funext K' j' i' s'
  simp only [cM, wri, wr, ofNat_iff hj, ofNat_iff hi, ofNat_iff hs]
  split <;> rfl
theorem cM_cpi {M : NM} {K K2 : Nat} {j i j2 i2 sp dp n : Int} (hj : 0 ≤ j) (hi : 0 ≤ i) (hj2 : 0 ≤ j2) (hi2 : 0 ≤ i2) (hs : 0 ≤ sp) (hd : 0 ≤ dp) (hn : 0 ≤ n) : cM (cpi M K j i K2 j2 i2 sp dp n) = cpA (cM M) K j.toNat i.toNat K2 j2.toNat i2.toNat sp.toNat dp.toNat n.toNat := by
  funext K' j' i' s'
  have e : (dp ≤ Int.ofNat s' ∧ Int.ofNat s' < dp + n) = (dp.toNat ≤ s' ∧ s' < dp.toNat + n.toNat) := propext (by
    have : Int.ofNat s' = (s' : Int) := rfl
    rw [this]; omega)
  simp only [cM, cpi, cpA, ofNat_iff hj2, ofNat_iff hi2, e]
  split
  · next q =>
    have h1 : Int.ofNat j.toNat = j := Int.toNat_of_nonneg hj
    have h2 : Int.ofNat i.toNat = i := Int.toNat_of_nonneg hi
    have h3 : Int.ofNat (sp.toNat + (s' - dp.toNat)) = sp + (Int.ofNat s' - dp) := by
      have a1 : Int.ofNat s' = (s' : Int) := rfl
      have a2 : Int.ofNat (sp.toNat + (s' - dp.toNat)) = ((sp.toNat + (s' - dp.toNat) : Nat) : Int) := rfl
      rw [a1, a2]; omega
    rw [h1, h2, h3]
  · rfl
theorem cM_rd {M : NM} {K : Nat} {j i s : Int} (hj : 0 ≤ j) (hi : 0 ≤ i) (hs : 0 ≤ s) : cM M K j.toNat i.toNat s.toNat = Int32.ofInt (M K j i s) := by
  have h1 : Int.ofNat j.toNat = j := Int.toNat_of_nonneg hj
  have h2 : Int.ofNat i.toNat = i := Int.toNat_of_nonneg hi
  have h3 : Int.ofNat s.toNat = s := Int.toNat_of_nonneg hs
  show Int32.ofInt (M K (Int.ofNat j.toNat) (Int.ofNat i.toNat) (Int.ofNat s.toNat)) = _
  rw [h1, h2, h3]
theorem cM_rdf {M : NM} {K s : Nat} {j i : Int} (hj : 0 ≤ j) (hi : 0 ≤ i) : cM M K j.toNat i.toNat s = Int32.ofInt (M K j i (Int.ofNat s)) := by
  have h1 : Int.ofNat j.toNat = j := Int.toNat_of_nonneg hj
  have h2 : Int.ofNat i.toNat = i := Int.toNat_of_nonneg hi
  show Int32.ofInt (M K (Int.ofNat j.toNat) (Int.ofNat i.toNat) (Int.ofNat s)) = _
  rw [h1, h2]
theorem sh_c (K s : Nat) (j : Int) (i : Int) : shp K s j.toNat = (shI K s j).map cK ∧ (0 ≤ j → ∀ k ∈ shI K s j, okU (.inr (.inr (some k)))) := by
  unfold shp shI
  split
  all_goals first
    | exact ⟨rfl, fun h k hk => by cases hk; first | exact ⟨h, Int.le_refl _⟩ | exact ⟨Int.le_refl _, Int.le_refl _⟩ | (constructor <;> decide)⟩
    | (split <;> first | exact ⟨rfl, fun h k hk => by cases hk⟩ | simp_all)
theorem al_c (X : XI) (K : Nat) : aln (cX X) K = (alI X K).map (fun q => (q.1.toNat, q.2)) := by
  unfold aln alI
  split <;> first | rfl | (split <;> first | rfl | simp_all)
theorem al_nn {X : XI} (hX : okX X) {K : Nat} {N : Int} {b : Bool} (h : alI X K = some (N, b)) : 0 ≤ N := by
  unfold alI at h
  split at h <;> first | (cases h; decide) | (cases h; exact hX.1) | cases h
theorem rl_c (K : Nat) : rln K = (rlI K).map Int.toNat := by
  unfold rln rlI
  split <;> first | rfl | (split <;> first | rfl | simp_all)
theorem ae_c {K : Nat} {j n : Int} (hn : 0 ≤ n) : ael K j.toNat n.toNat = cK (aeI K j n) := by
  unfold ael aeI
  split <;> first | rfl | (simp only [cK, Prod.mk.injEq, true_and]; constructor <;> omega) | (split <;> first | rfl | (simp only [cK, Prod.mk.injEq, true_and]; constructor <;> omega) | simp_all)
theorem ae_ok {K : Nat} {j n : Int} (hj : 0 ≤ j) (hn : 0 ≤ n) : okU (.inr (.inr (some (aeI K j n)))) := by
  unfold aeI
  split <;> (simp only [okU]; constructor <;> omega)
theorem ar_c {X : XI} {M : NM} {K : Nat} {j i v : Int} (hj : 0 ≤ j) (hi : 0 ≤ i) (hv : 0 ≤ v) : ard (cX X) (cM M) K j.toNat i.toNat v.toNat = Int32.ofInt (arI X M K j i v) := by
  by_cases h : K = 30
  · subst h
    show Int32.ofInt (X.2 (Int.ofNat v.toNat)) = Int32.ofInt (X.2 v)
    rw [show Int.ofNat v.toNat = v from Int.toNat_of_nonneg hv]
  · have e1 : ard (cX X) (cM M) K j.toNat i.toNat v.toNat = cM M K j.toNat i.toNat v.toNat := by
      unfold ard; split <;> first | exact absurd rfl h | rfl
    have e2 : arI X M K j i v = M K j i v := by
      unfold arI; split <;> first | exact absurd rfl h | rfl
    rw [e1, e2]
    exact cM_rd hj hi hv
theorem ar_ok {X : XI} {M : NM} {K : Nat} {j i v : Int} (hX : okX X) (hM : okM M) : i32 (arI X M K j i v) := by
  unfold arI
  split
  · exact hX.2.2 _
  · exact hM _ _ _ _
theorem inb_c {v N : Int} (hv : i32 v) (h0 : 0 ≤ v) (h1 : v < N) : inb (Int32.ofInt v) N.toNat = true := by
  have e2 : ¬ Int32.ofInt v < 0 := by rw [show (0 : Int32) = Int32.ofInt 0 from rfl, oi_lt hv i32_0]; omega
  unfold inb
  rw [oi_clamp hv, decide_eq_false e2, decide_eq_true (by omega : v.toNat < N.toNat)]; rfl
theorem isb_c {v : Int} (h : v = 0 ∨ v = 1) : isb (Int32.ofInt v) = true := by
  rcases h with rfl | rfl <;> rfl
theorem ktab : ∀ a b, (∀ v, fnd2 KTabI a b = some v → ∃ w k, fnd2 KTab a b = some (w, k) ∧ w = Int32.ofInt v ∧ i32 v) := by
  intro a b v h
  have key : ∀ q ∈ KTabI, ∃ w k, fnd2 KTab q.1.1 q.1.2 = some (w, k) ∧ w = Int32.ofInt q.2 ∧ i32 q.2 := by
    intro q hq
    simp only [KTabI, List.mem_cons, List.not_mem_nil, or_false] at hq
    rcases hq with rfl | rfl | rfl <;> exact ⟨_, _, rfl, rfl, by decide⟩
  exact key _ (fnd2_mem _ _ _ _ h)
theorem jtab : ∀ a b, (∀ v, fnd2 JTabI a b = some v → ∃ w k, fnd2 JTab a b = some (w, k) ∧ w = Int64.ofInt v ∧ i64 v) := by
  intro a b v h
  have key : ∀ q ∈ JTabI, ∃ w k, fnd2 JTab q.1.1 q.1.2 = some (w, k) ∧ w = Int64.ofInt q.2 ∧ i64 q.2 := by
    intro q hq
    simp only [JTabI, List.mem_cons, List.not_mem_nil, or_false] at hq
    rcases hq with rfl | rfl | rfl | rfl | rfl | rfl | rfl <;> exact ⟨_, _, rfl, rfl, by decide⟩
  exact key _ (fnd2_mem _ _ _ _ h)
end
section
/-! 10: one instruction; runs -/
def okG (M : NM) (o : OI) (r' : Option Res) : Prop := ∀ (G : Option Prop) (r : RI), o = (G, some r) → gP G → r' = some (cR r) ∧ okR M r
theorem okG_no {M : NM} {r' : Option Res} : okG M no r' := by
  intro G r h; cases h
theorem okG_go {M0 : NM} {pc : Nat} {ls : List (Option U)} {st : List U} {M : NM} {r' : Option Res} (h : r' = some (.inl (pc, cL ls, cT st, cM M))) (h1 : okL ls) (h2 : okT st) (h3 : okM M) : okG M0 (go pc ls st M) r' := by
  intro G r q _; cases q; exact ⟨h, h1, h2, h3⟩
theorem okG_gg {M0 : NM} {g : Prop} {pc : Nat} {ls : List (Option U)} {st : List U} {M : NM} {r' : Option Res} (h : g → r' = some (.inl (pc, cL ls, cT st, cM M)) ∧ okL ls ∧ okT st ∧ okM M) : okG M0 (gg g pc ls st M) r' := by
  intro G r q hg; cases q; exact ⟨(h hg).1, (h hg).2⟩
theorem okG_bb {M0 : NM} {b : Bool} {o : OI} {r' : Option Res} (h : b = true → okG M0 o r') : okG M0 (bb b o) r' := by
  cases b with
  | true => exact h rfl
  | false => exact okG_no
theorem gd_t {α : Type} {b : Bool} {y : Option α} (h : b = true) : gd b y = y := by subst h; rfl
section
variable {X : XI} {e : ME} {n pc : Nat} {ls : List (Option U)} {M : NM}
theorem okU_i {a : Int} (h : okU (.inl a)) : i32 a := h
theorem cl_ok (hX : okX X) {z : Nat} {virt : Bool} {st : List U} (hl : okL ls) (ht : okT st) (hM : okM M) : okG M (clI e z virt pc ls st M X) (doCall (cX X) e z virt pc (cL ls) (cT st) (cM M)) := by
  unfold clI doCall
  cases h0 : Nat.beq z 1000 with
  | true =>
    simp only [cond_true]
    split
    · next nn dp K2 j2 i2 sp K j i st' =>
      split
      · next n1 n2 hn1 hn2 =>
        refine okG_bb (fun hb => okG_gg (fun hg => ?_))
        simp only [Bool.and_eq_true, Bool.not_eq_true'] at hb
        obtain ⟨⟨⟨⟨b1, b2⟩, b3⟩, b4⟩, b5⟩ := hb
        have t1 := okT_hd ht
        have t2 := okT_hd (okT_tl ht)
        have t3 := okT_hd (okT_tl (okT_tl ht))
        have t4 := okT_hd (okT_tl (okT_tl (okT_tl ht)))
        have t5 := okT_hd (okT_tl (okT_tl (okT_tl (okT_tl ht))))
        have t6 := okT_tl (okT_tl (okT_tl (okT_tl (okT_tl ht))))
        have g1 := al_nn hX hn1
        have g2 := al_nn hX hn2
        have a1 : aln (cX X) K = some (n1.toNat, false) := by rw [al_c, hn1]; rfl
        have a2 : aln (cX X) K2 = some (n2.toNat, false) := by rw [al_c, hn2]; rfl
        have c1 : cpOK (Int32.ofInt sp) (Int32.ofInt nn) n1.toNat = true := by
          unfold cpOK
          have e1 : ¬ Int32.ofInt sp < 0 := by rw [show (0 : Int32) = Int32.ofInt 0 from rfl, oi_lt t4 i32_0]; omega
          have e2 : ¬ Int32.ofInt nn < 0 := by rw [show (0 : Int32) = Int32.ofInt 0 from rfl, oi_lt t1 i32_0]; omega
          rw [decide_eq_false e1, decide_eq_false e2, oi_clamp t4, oi_clamp t1, decide_eq_true (by omega)]; rfl
        have c2 : cpOK (Int32.ofInt dp) (Int32.ofInt nn) n2.toNat = true := by
          unfold cpOK
          have e1 : ¬ Int32.ofInt dp < 0 := by rw [show (0 : Int32) = Int32.ofInt 0 from rfl, oi_lt t2 i32_0]; omega
          have e2 : ¬ Int32.ofInt nn < 0 := by rw [show (0 : Int32) = Int32.ofInt 0 from rfl, oi_lt t1 i32_0]; omega
          rw [decide_eq_false e1, decide_eq_false e2, oi_clamp t2, oi_clamp t1, decide_eq_true (by omega)]; rfl
        refine ⟨?_, hl, t6, okM_cpi hM⟩
        show (match aln (cX X) K, aln (cX X) K2 with
          | some (n1, false), some (n2, false) => gd (Nat.ble 1 (eF e) && Nat.ble 40 (eW e) && !(Nat.beq K 30) && !(Nat.beq K2 30) && cpOK (Int32.ofInt sp) (Int32.ofInt nn) n1 && cpOK (Int32.ofInt dp) (Int32.ofInt nn) n2 && Nat.ble (catS (cT st')) 8) (nx (pc + 3) (cL ls) (cT st') (cpA (cM M) K j.toNat i.toNat K2 j2.toNat i2.toNat (Int32.ofInt sp).toNatClampNeg (Int32.ofInt dp).toNatClampNeg (Int32.ofInt nn).toNatClampNeg))
          | _, _ => none) = _
        rw [a1, a2]
        simp only
        rw [gd_t (by rw [c1, c2, cat_c, b1, b2, b3, b4, b5]; rfl), oi_clamp t4, oi_clamp t2, oi_clamp t1, nx, cM_cpi t5.1 t5.2 t3.1 t3.2 (by omega) (by omega) (by omega)]
      · exact okG_no
    · exact okG_no
  | false =>
    simp only [cond_false]
    cases h1 : Nat.beq z 1001 with
    | true =>
      simp only [cond_true]
      split
      · next i i2 st' =>
        split
        · next s hs =>
          refine okG_bb (fun hb => ?_)
          simp only [Bool.and_eq_true] at hb
          obtain ⟨⟨⟨b1, b2⟩, b3⟩, b4⟩ := hb
          have b5 := Nat.le_of_ble_eq_true b4
          refine okG_go ?_ hl (okT_cons (by show i32 (Int.ofNat s.length); show -2147483648 ≤ (s.length : Int) ∧ (s.length : Int) < 2147483648; omega) (okT_tl ht)) hM
          show (match nth strT i.toNat with
            | some s => gd (Nat.ble 2 (eF e) && Nat.ble 40 (eW e) && Nat.ble (catS (cT st')) 8) (nx (pc + 3) (cL ls) (.inl (nI s.length) :: cT st') (cM M))
            | none => none) = _
          rw [hs]
          simp only
          rw [gd_t (by rw [cat_c, b1, b2, b3]; rfl)]
          rfl
        · exact okG_no
      · exact okG_no
    | false =>
      simp only [cond_false]
      cases h2 : Nat.beq z 1002 with
      | true =>
        simp only [cond_true]
        split
        · next k i i2 st' =>
          split
          · next s hs =>
            refine okG_bb (fun hb => okG_gg (fun hg => ?_))
            simp only [Bool.and_eq_true] at hb
            obtain ⟨⟨⟨b1, b2⟩, b3⟩, b4⟩ := hb
            have hk : k < (s.length : Int) := hg.2
            have b5 : s.getD k.toNat 0 ≤ 255 := by
              rw [List.getD_eq_getElem?_getD, List.getElem?_eq_getElem (by omega), Option.getD_some]
              exact Nat.le_of_ble_eq_true (List.all_eq_true.mp b4 _ (List.getElem_mem _))
            have t1 := okT_hd ht
            refine ⟨?_, hl, okT_cons (by show i32 (Int.ofNat _); show -2147483648 ≤ ((s.getD k.toNat 0 : Nat) : Int) ∧ ((s.getD k.toNat 0 : Nat) : Int) < 2147483648; omega) (okT_tl (okT_tl ht)), hM⟩
            show (match nth strT i.toNat with
              | some s => gd (inb (Int32.ofInt k) s.length && Nat.ble 5 (eF e) && Nat.ble 106 (eW e) && Nat.ble (catS (cT st')) 8) (nx (pc + 3) (cL ls) (.inl (nI (s.getD (Int32.ofInt k).toNatClampNeg 0)) :: cT st') (cM M))
              | none => none) = _
            rw [hs]
            simp only
            have hin : inb (Int32.ofInt k) s.length = true := by
              have := inb_c (N := (s.length : Int)) t1 hg.1 hg.2
              rwa [Int.toNat_natCast] at this
            rw [gd_t (by rw [cat_c, b1, b2, b3, hin]; rfl), oi_clamp t1]
            rfl
          · exact okG_no
        · exact okG_no
      | false =>
        simp only [cond_false]
        cases he : nth MT z with
        | none => exact okG_no
        | some e' =>
          simp only
          rw [pop_c]
          cases hp : popU (eN e') st with
          | none => exact okG_no
          | some q =>
            obtain ⟨as, rest⟩ := q
            have hok : okT as ∧ okT rest := by
              have key : ∀ (n : Nat) (st as rest : List U), popU n st = some (as, rest) → okT st → okT as ∧ okT rest := by
                intro n
                induction n with
                | zero => intro st as rest h ht; cases h; exact ⟨fun v hv => (List.not_mem_nil hv).elim, ht⟩
                | succ n ih =>
                  intro st as rest h ht
                  cases st with
                  | nil => cases h
                  | cons v st =>
                    rw [popU] at h
                    split at h
                    · next q hq =>
                      cases h
                      obtain ⟨a1, a2⟩ := ih _ _ _ hq (okT_tl ht)
                      exact ⟨fun w hw => by
                        rcases List.mem_append.mp hw with hw | hw
                        · exact a1 w hw
                        · rw [List.mem_singleton.mp hw]; exact okT_hd ht, a2⟩
                    · cases h
              exact key _ _ _ _ hp ht
            simp only [Option.map_some]
            cases virt with
            | true =>
              simp only [cond_true]
              split
              · next k rest' =>
                refine okG_bb (fun hb => ?_)
                intro G r q _
                cases q
                refine ⟨?_, okT_cons (okT_hd hok.2) hok.1, okT_tl hok.2⟩
                show gd (Nat.ble (eF e' + 1) (eF e) && Nat.ble (8 + (eL e' + 11) + eW e') (eW e) && Nat.beq k.1 (eO e') && !(eS e') && Nat.ble (catS (cT rest')) 8 && Nat.ble (argS (cT (Sum.inr (Sum.inr (some k)) :: as : List U))).length (eL e') && (eG e' || Nat.beq (argS (cT (Sum.inr (Sum.inr (some k)) :: as : List U))).length ((cT as).length + 1))) (some (Sum.inr (Sum.inl (z, cT (Sum.inr (Sum.inr (some k)) :: as : List U), cT rest'))) : Option Res) = _
                rw [gd_t (by rw [cat_c, arg_c, len_c, lenT_c]; exact hb)]
                rfl
              · exact okG_no
            | false =>
              simp only [cond_false]
              refine okG_bb (fun hb => ?_)
              intro G r q _
              cases q
              refine ⟨?_, hok.1, hok.2⟩
              rw [gd_t (by rw [cat_c, arg_c, len_c, lenT_c]; exact hb)]
              rfl
set_option maxHeartbeats 4000000 in
theorem stI_ok (hX : okX X) {I : Instr} {st : List U} (hl : okL ls) (ht : okT st) (hM : okM M) : okG M (stI X e I n pc ls st M) (stepI (cX X) e I n pc (cL ls) (cT st) (cM M)) := by
  cases I with
  | iconst k =>
    refine okG_bb (fun hb => okG_go rfl hl (okT_cons ?_ ht) hM)
    simp only [Bool.and_eq_true, decide_eq_true_eq] at hb
    exact ⟨by omega, by omega⟩
  | bipush k =>
    refine okG_bb (fun hb => ?_)
    simp only [Bool.and_eq_true, decide_eq_true_eq] at hb
    refine okG_go ?_ hl (okT_cons ⟨by omega, by omega⟩ ht) hM
    have e1 : (Int8.ofInt k).toInt32 = Int32.ofInt k := by
      apply Int32.toInt_inj.mp
      rw [Int8.toInt_toInt32, ofInt_toInt (by omega) (by omega), Int8.toInt_ofInt]
      show Int.bmod k 256 = k
      unfold Int.bmod
      simp only
      split <;> omega
    show nx _ _ (.inl (Int8.ofInt k).toInt32 :: _) _ = _
    rw [e1]; rfl
  | sipush k =>
    refine okG_bb (fun hb => ?_)
    simp only [Bool.and_eq_true, decide_eq_true_eq] at hb
    refine okG_go ?_ hl (okT_cons ⟨by omega, by omega⟩ ht) hM
    have e1 : (Int16.ofInt k).toInt32 = Int32.ofInt k := by
      apply Int32.toInt_inj.mp
      rw [Int16.toInt_toInt32, ofInt_toInt (by omega) (by omega), Int16.toInt_ofInt]
      show Int.bmod k 65536 = k
      unfold Int.bmod
      simp only
      split <;> omega
    show nx _ _ (.inl (Int16.ofInt k).toInt32 :: _) _ = _
    rw [e1]; rfl
  | lconst k =>
    refine okG_go rfl hl (okT_cons ?_ ht) hM
    have := k.isLt
    show -9223372036854775808 ≤ (k.val : Int) ∧ (k.val : Int) < 9223372036854775808
    omega
  | aconst_null => exact okG_go rfl hl (okT_cons True.intro ht) hM
  | iload_n k =>
    simp only [stI, stepI]
    split
    · next v hv =>
      refine okG_go ?_ hl (okT_cons (okL_get hl hv) ht) hM
      rw [getL_c, hv]; rfl
    · exact okG_no
  | iload k =>
    simp only [stI, stepI]
    split
    · next v hv =>
      refine okG_bb (fun hb => okG_go ?_ hl (okT_cons (okL_get hl hv) ht) hM)
      rw [getL_c, hv]; exact gd_t hb
    · exact okG_no
  | lload_n k =>
    simp only [stI, stepI]
    split
    · next v hv =>
      refine okG_go ?_ hl (okT_cons (okL_get hl hv) ht) hM
      rw [getL_c, hv]; rfl
    · exact okG_no
  | aload_n k =>
    simp only [stI, stepI]
    split
    · next v hv =>
      refine okG_go ?_ hl (okT_cons (okL_get hl hv) ht) hM
      rw [getL_c, hv]; cases v <;> rfl
    · exact okG_no
  | aload k =>
    simp only [stI, stepI]
    split
    · next v hv =>
      refine okG_bb (fun hb => okG_go ?_ hl (okT_cons (okL_get hl hv) ht) hM)
      rw [getL_c, hv]; cases v <;> exact gd_t hb
    · exact okG_no
  | istore_n k =>
    simp only [stI]
    split
    · next v st =>
      refine okG_bb (fun hb => okG_go ?_ (okL_s1 hl (okT_hd ht)) (okT_tl ht) hM)
      rw [← len_c] at hb
      rw [← st1_c]
      exact gd_t hb
    · exact okG_no
  | istore k =>
    simp only [stI]
    split
    · next v st =>
      refine okG_bb (fun hb => okG_go ?_ (okL_s1 hl (okT_hd ht)) (okT_tl ht) hM)
      rw [← len_c] at hb
      rw [← st1_c]
      exact gd_t hb
    · exact okG_no
  | lstore_n k =>
    simp only [stI]
    split
    · next v st =>
      refine okG_bb (fun hb => okG_go ?_ (okL_s2 hl (okT_hd ht)) (okT_tl ht) hM)
      rw [← len_c] at hb
      rw [← st2_c]
      exact gd_t hb
    · exact okG_no
  | astore_n k =>
    simp only [stI]
    split
    · next v st =>
      refine okG_bb (fun hb => okG_go ?_ (okL_s1 hl (okT_hd ht)) (okT_tl ht) hM)
      rw [← len_c] at hb
      rw [← st1_c]
      cases v <;> exact gd_t hb
    · exact okG_no
  | astore k =>
    simp only [stI]
    split
    · next v st =>
      refine okG_bb (fun hb => okG_go ?_ (okL_s1 hl (okT_hd ht)) (okT_tl ht) hM)
      rw [← len_c] at hb
      rw [← st1_c]
      cases v <;> exact gd_t hb
    · exact okG_no
  | iinc k d =>
    simp only [stI, stepI]
    split
    · next v hv =>
      refine okG_bb (fun hb => okG_gg (fun hg => ⟨?_, okL_s1 hl hg, ht, hM⟩))
      simp only [Bool.and_eq_true] at hb
      rw [getL_c, hv, ← st1_c, ← len_c] at *
      show gd _ (nx _ (st1 _ _ _ (.inl (Int32.ofInt v + Int32.ofInt d))) _ _) = _
      rw [gd_t (by rw [hb.1.1.1, hb.1.1.2]; rfl), ← Int32.ofInt_add]
      rfl
    · exact okG_no
  | iadd =>
    simp only [stI]
    split
    · next b a st =>
      refine okG_gg (fun hg => ⟨?_, hl, okT_cons hg (okT_tl (okT_tl ht)), hM⟩)
      show nx _ _ (.inl (Int32.ofInt a + Int32.ofInt b) :: _) _ = _
      rw [← Int32.ofInt_add]; rfl
    · exact okG_no
  | isub =>
    simp only [stI]
    split
    · next b a st =>
      refine okG_gg (fun hg => ⟨?_, hl, okT_cons hg (okT_tl (okT_tl ht)), hM⟩)
      show nx _ _ (.inl (Int32.ofInt a - Int32.ofInt b) :: _) _ = _
      rw [← Int32.ofInt_sub]; rfl
    · exact okG_no
  | imul =>
    simp only [stI]
    split
    · next b a st =>
      refine okG_gg (fun hg => ⟨?_, hl, okT_cons hg (okT_tl (okT_tl ht)), hM⟩)
      show nx _ _ (.inl (Int32.ofInt a * Int32.ofInt b) :: _) _ = _
      rw [← Int32.ofInt_mul]; rfl
    · exact okG_no
  | idiv =>
    simp only [stI]
    split
    · next b a st =>
      have hb := okU_i (okT_hd ht)
      have ha := okU_i (okT_hd (okT_tl ht))
      refine okG_gg (fun hg => ⟨?_, hl, okT_cons (div_i32 ha hg.1 hg.2) (okT_tl (okT_tl ht)), hM⟩)
      show gd _ (nx _ _ (.inl (Int32.ofInt a / Int32.ofInt b) :: _) _) = _
      rw [gd_t (by rw [show (0 : Int32) = Int32.ofInt 0 from rfl, decide_eq_false (fun q => by rw [oi_eq hb i32_0] at q; omega)]; rfl), oi_div ha hb hg.1 hg.2]
      rfl
    · exact okG_no
  | irem =>
    simp only [stI]
    split
    · next b a st =>
      have hb := okU_i (okT_hd ht)
      have ha := okU_i (okT_hd (okT_tl ht))
      refine okG_gg (fun hg => ⟨?_, hl, okT_cons (mod_i32 hb hg.2) (okT_tl (okT_tl ht)), hM⟩)
      show gd _ (nx _ _ (.inl (Int32.ofInt a - Int32.ofInt a / Int32.ofInt b * Int32.ofInt b) :: _) _) = _
      rw [gd_t (by rw [show (0 : Int32) = Int32.ofInt 0 from rfl, decide_eq_false (fun q => by rw [oi_eq hb i32_0] at q; omega)]; rfl), oi_div ha hb hg.1 hg.2, ← Int32.ofInt_mul, ← Int32.ofInt_sub, show a - a / b * b = a % b by rw [Int.emod_def, Int.mul_comm]]
      rfl
    · exact okG_no
  | iand =>
    simp only [stI]
    split
    · next b a st =>
      refine okG_go ?_ hl (okT_cons (i32_toInt _) (okT_tl (okT_tl ht))) hM
      show nx _ _ (.inl (Int32.ofInt a &&& Int32.ofInt b) :: _) _ = nx _ _ (.inl (Int32.ofInt (andI a b)) :: _) _
      unfold andI
      rw [Int32.ofInt_toInt]
    · exact okG_no
  | ior =>
    simp only [stI]
    split
    · next b a st =>
      refine okG_go ?_ hl (okT_cons (i32_toInt _) (okT_tl (okT_tl ht))) hM
      show nx _ _ (.inl (Int32.ofInt a ||| Int32.ofInt b) :: _) _ = nx _ _ (.inl (Int32.ofInt (orI a b)) :: _) _
      unfold orI
      rw [Int32.ofInt_toInt]
    · exact okG_no
  | ixor =>
    simp only [stI]
    split
    · next b a st =>
      refine okG_go ?_ hl (okT_cons (i32_toInt _) (okT_tl (okT_tl ht))) hM
      show nx _ _ (.inl (Int32.ofInt a ^^^ Int32.ofInt b) :: _) _ = nx _ _ (.inl (Int32.ofInt (xorI a b)) :: _) _
      unfold xorI
      rw [Int32.ofInt_toInt]
    · exact okG_no
  | ishl =>
    simp only [stI]
    split
    · next b a st =>
      refine okG_go ?_ hl (okT_cons (i32_toInt _) (okT_tl (okT_tl ht))) hM
      show nx _ _ (.inl (Int32.ofInt a <<< (Int32.ofInt b &&& 31)) :: _) _ = nx _ _ (.inl (Int32.ofInt (shlI a b)) :: _) _
      unfold shlI
      rw [Int32.ofInt_toInt]
    · exact okG_no
  | ishr =>
    simp only [stI]
    split
    · next b a st =>
      refine okG_go ?_ hl (okT_cons (i32_toInt _) (okT_tl (okT_tl ht))) hM
      show nx _ _ (.inl (Int32.ofInt a >>> (Int32.ofInt b &&& 31)) :: _) _ = nx _ _ (.inl (Int32.ofInt (shrI a b)) :: _) _
      unfold shrI
      rw [Int32.ofInt_toInt]
    · exact okG_no
  | iushr =>
    simp only [stI]
    split
    · next b a st =>
      refine okG_go ?_ hl (okT_cons (i32_toInt _) (okT_tl (okT_tl ht))) hM
      show nx _ _ (.inl (((Int32.ofInt a).toUInt32 >>> ((Int32.ofInt b).toUInt32 &&& Int32.toUInt32 31)).toInt32) :: _) _ = nx _ _ (.inl (Int32.ofInt (ushI a b)) :: _) _
      unfold ushI
      rw [Int32.ofInt_toInt]
    · exact okG_no
  | i2c =>
    simp only [stI]
    split
    · next a st =>
      refine okG_gg (fun hg => ⟨?_, hl, ht, hM⟩)
      show nx _ _ (.inl ((Int32.ofInt a).toUInt32 % 65536).toInt32 :: _) _ = _
      rw [oi_char hg.1 hg.2]; rfl
    · exact okG_no
  | i2l =>
    simp only [stI]
    split
    · next a st =>
      have ha := okU_i (okT_hd ht)
      have h64 : i64 a := by obtain ⟨_, _⟩ := ha; constructor <;> omega
      refine okG_go ?_ hl (okT_cons h64 (okT_tl ht)) hM
      show nx _ _ (.inr (.inl (Int32.ofInt a).toInt64) :: _) _ = _
      have e1 : (Int32.ofInt a).toInt64 = Int64.ofInt a := by
        apply Int64.toInt_inj.mp
        rw [Int32.toInt_toInt64, ofInt_toInt ha.1 ha.2, oj_toInt h64]
      rw [e1]; rfl
    · exact okG_no
  | lshl =>
    simp only [stI]
    split
    · next b a st =>
      refine okG_go ?_ hl (okT_cons (i64_toInt _) (okT_tl (okT_tl ht))) hM
      show nx _ _ (.inr (.inl (Int64.ofInt a <<< ((Int32.ofInt b).toInt64 &&& 63))) :: _) _ = nx _ _ (.inr (.inl (Int64.ofInt (lshlI a b))) :: _) _
      unfold lshlI
      rw [Int64.ofInt_toInt]
    · exact okG_no
  | lor =>
    simp only [stI]
    split
    · next b a st =>
      refine okG_go ?_ hl (okT_cons (i64_toInt _) (okT_tl (okT_tl ht))) hM
      show nx _ _ (.inr (.inl (Int64.ofInt a ||| Int64.ofInt b)) :: _) _ = nx _ _ (.inr (.inl (Int64.ofInt (lorI a b))) :: _) _
      unfold lorI
      rw [Int64.ofInt_toInt]
    · exact okG_no
  | lcmp =>
    simp only [stI]
    split
    · next b a st =>
      refine okG_go ?_ hl (okT_cons (lcmI_32 _ _) (okT_tl (okT_tl ht))) hM
      show nx _ _ (.inl (lcm (Int64.ofInt a) (Int64.ofInt b)) :: _) _ = _
      rw [oi_lcm (okT_hd (okT_tl ht)) (okT_hd ht)]; rfl
    · exact okG_no
  | dup =>
    simp only [stI]
    split
    · exact okG_go rfl hl (okT_cons (okT_hd ht) ht) hM
    · next a st =>
      refine okG_go ?_ hl (okT_cons (okT_hd ht) ht) hM
      cases a <;> rfl
    · exact okG_no
  | pop =>
    simp only [stI]
    split
    · exact okG_go rfl hl (okT_tl ht) hM
    · next a st =>
      refine okG_go ?_ hl (okT_tl ht) hM
      cases a <;> rfl
    · exact okG_no
  | dup2 =>
    simp only [stI]
    split
    · next b a st =>
      refine okG_go ?_ hl (okT_cons (okT_hd ht) (okT_cons (okT_hd (okT_tl ht)) ht)) hM
      cases a <;> rfl
    · exact okG_no
  | goto o =>
    simp only [stI, stepI]
    split
    · next t h => exact okG_go (by rw [h]; rfl) hl ht hM
    · exact okG_no
  | ifCond c o =>
    simp only [stI]
    split
    · next a st t h =>
      refine okG_go ?_ hl (okT_tl ht) hM
      rw [← oi_bz (okT_hd ht)]
      show (match (cT (Sum.inl a :: st) : List V), tg pc o with
        | .inl a :: st, some t => nx (brZ c a t (pc + 3)) (cL ls) st (cM M)
        | _, _ => none) = _
      rw [h]; rfl
    · exact okG_no
  | if_icmp c o =>
    simp only [stI]
    split
    · next b a st t h =>
      refine okG_go ?_ hl (okT_tl (okT_tl ht)) hM
      rw [← oi_b2 (okT_hd (okT_tl ht)) (okT_hd ht)]
      show (match (cT (Sum.inl b :: Sum.inl a :: st) : List V), tg pc o with
        | .inl b :: .inl a :: st, some t => nx (br2 c a b t (pc + 3)) (cL ls) st (cM M)
        | _, _ => none) = _
      rw [h]; rfl
    · exact okG_no
  | ifnull o =>
    simp only [stI, stepI]
    split
    · next st t h => refine okG_go ?_ hl (okT_tl ht) hM; rw [h]; rfl
    · next k st t h => refine okG_go ?_ hl (okT_tl ht) hM; rw [h]; rfl
    · exact okG_no
  | ifnonnull o =>
    simp only [stI, stepI]
    split
    · next st t h => refine okG_go ?_ hl (okT_tl ht) hM; rw [h]; rfl
    · next k st t h => refine okG_go ?_ hl (okT_tl ht) hM; rw [h]; rfl
    · exact okG_no
  | tableswitch d lo hi os =>
    simp only [stI, stepI]
    split
    · next a st t l h1 h2 =>
      refine okG_bb (fun hb => okG_go ?_ hl (okT_tl ht) hM)
      have hb2 := hb
      simp only [Bool.and_eq_true, decide_eq_true_eq] at hb2
      have h3 := tgs_len h2
      rw [h1, h2, ← oi_sw (okT_hd ht) l lo t (by omega) (by omega)]
      exact gd_t hb
    · exact okG_no
  | getfield ix =>
    simp only [stI, stepI]
    split
    · next K j i st =>
      have hk := okT_hd ht
      split
      · next K' s p hf =>
        refine okG_bb (fun hb => ?_)
        have e1 := (sh_c K s j i).1
        split
        · next k hs =>
          refine okG_go ?_ hl (okT_cons ((sh_c K s j i).2 hk.1 k hs) (okT_tl ht)) hM
          rw [hs] at e1
          show (match fnd2 FTab (eO e) ix with
            | some (K', s, _) => gd (Nat.beq K K') (match shp K s j.toNat with
              | some k => nx (pc + 3) (cL ls) (.inr (.inr (some k)) :: cT st) (cM M)
              | none => nx (pc + 3) (cL ls) (.inl (cM M K j.toNat i.toNat s) :: cT st) (cM M))
            | none => none) = _
          rw [hf]
          show gd (Nat.beq K K') (match shp K s j.toNat with
            | some k => nx (pc + 3) (cL ls) (.inr (.inr (some k)) :: cT st) (cM M)
            | none => nx (pc + 3) (cL ls) (.inl (cM M K j.toNat i.toNat s) :: cT st) (cM M)) = _
          rw [e1, gd_t hb]; rfl
        · next hs =>
          refine okG_go ?_ hl (okT_cons (hM _ _ _ _) (okT_tl ht)) hM
          rw [hs] at e1
          show (match fnd2 FTab (eO e) ix with
            | some (K', s, _) => gd (Nat.beq K K') (match shp K s j.toNat with
              | some k => nx (pc + 3) (cL ls) (.inr (.inr (some k)) :: cT st) (cM M)
              | none => nx (pc + 3) (cL ls) (.inl (cM M K j.toNat i.toNat s) :: cT st) (cM M))
            | none => none) = _
          rw [hf]
          show gd (Nat.beq K K') (match shp K s j.toNat with
            | some k => nx (pc + 3) (cL ls) (.inr (.inr (some k)) :: cT st) (cM M)
            | none => nx (pc + 3) (cL ls) (.inl (cM M K j.toNat i.toNat s) :: cT st) (cM M)) = _
          rw [e1, gd_t hb]
          simp only [Option.map_none]
          rw [cM_rdf hk.1 hk.2]; rfl
      · exact okG_no
    · exact okG_no
  | putfield ix =>
    simp only [stI, stepI]
    split
    · next v K j i st =>
      have hv := okU_i (okT_hd ht)
      have hk := okT_hd (okT_tl ht)
      split
      · next K' s p hf =>
        refine okG_bb (fun hb => ?_)
        have e1 := (sh_c K s j i).1
        split
        · exact okG_no
        · next hs =>
          rw [hs] at e1
          have key : (fZ K s = true → v = 0 ∨ v = 1) → (match fnd2 FTab (eO e) ix with
            | some (K', s, _) => gd (Nat.beq K K') (match shp K s j.toNat with
              | some _ => none
              | none => gd (bif fZ K s then isb (Int32.ofInt v) else true) (nx (pc + 3) (cL ls) (cT st) (wr (cM M) K j.toNat i.toNat s (Int32.ofInt v))))
            | none => none) = some (.inl (pc + 3, cL ls, cT st, cM (wri M K j i (Int.ofNat s) v))) := by
            intro hz
            rw [hf]
            simp only
            rw [e1, gd_t hb]
            simp only [Option.map_none]
            have h2 : (bif fZ K s then isb (Int32.ofInt v) else true) = true := by
              cases hq : fZ K s with
              | true => exact isb_c (hz hq)
              | false => rfl
            have h3 : cM (wri M K j i (Int.ofNat s) v) = wr (cM M) K j.toNat i.toNat s (Int32.ofInt v) := cM_wri (j := j) (i := i) hk.1 hk.2 (show (0 : Int) ≤ Int.ofNat s from Int.natCast_nonneg s)
            rw [gd_t h2, h3]
            rfl
          cases hz : fZ K s with
          | true =>
            rw [cond_true]
            exact okG_gg (fun hg => ⟨key (fun _ => hg), hl, okT_tl (okT_tl ht), okM_wri hM hv⟩)
          | false =>
            rw [cond_false]
            exact okG_go (key (fun q => by rw [hz] at q; cases q)) hl (okT_tl (okT_tl ht)) (okM_wri hM hv)
      · exact okG_no
    · exact okG_no
  | iaload =>
    simp only [stI, stepI]
    split
    · next v K j i st =>
      have hv := okU_i (okT_hd ht)
      have hk := okT_hd (okT_tl ht)
      split
      · next N ha =>
        refine okG_gg (fun hg => ⟨?_, hl, okT_cons (ar_ok hX hM) (okT_tl (okT_tl ht)), hM⟩)
        have e1 := al_c X K
        rw [ha] at e1
        show (match aln (cX X) K with
          | some (N, false) => gd (inb (Int32.ofInt v) N) (nx (pc + 1) (cL ls) (.inl (ard (cX X) (cM M) K j.toNat i.toNat (Int32.ofInt v).toNatClampNeg) :: cT st) (cM M))
          | _ => none) = _
        rw [e1]
        simp only [Option.map_some]
        rw [gd_t (inb_c hv hg.1 hg.2), oi_clamp hv, ar_c hk.1 hk.2 hg.1]; rfl
      · exact okG_no
    · exact okG_no
  | caload =>
    simp only [stI, stepI]
    split
    · next v K j i st =>
      have hv := okU_i (okT_hd ht)
      have hk := okT_hd (okT_tl ht)
      split
      · next N ha =>
        refine okG_gg (fun hg => ⟨?_, hl, okT_cons (hM _ _ _ _) (okT_tl (okT_tl ht)), hM⟩)
        have e1 := al_c X K
        rw [ha] at e1
        show (match aln (cX X) K with
          | some (N, true) => gd (inb (Int32.ofInt v) N) (nx (pc + 1) (cL ls) (.inl (cM M K j.toNat i.toNat (Int32.ofInt v).toNatClampNeg) :: cT st) (cM M))
          | _ => none) = _
        rw [e1]
        simp only [Option.map_some]
        rw [gd_t (inb_c hv hg.1 hg.2), oi_clamp hv, cM_rd hk.1 hk.2 hg.1]; rfl
      · exact okG_no
    · exact okG_no
  | iastore =>
    simp only [stI, stepI]
    split
    · next w v K j i st =>
      have hw := okU_i (okT_hd ht)
      have hv := okU_i (okT_hd (okT_tl ht))
      have hk := okT_hd (okT_tl (okT_tl ht))
      split
      · next N ha =>
        refine okG_bb (fun hb => okG_gg (fun hg => ⟨?_, hl, okT_tl (okT_tl (okT_tl ht)), okM_wri hM hw⟩))
        have e1 := al_c X K
        rw [ha] at e1
        show (match aln (cX X) K with
          | some (N, false) => gd (!(Nat.beq K 30) && inb (Int32.ofInt v) N) (nx (pc + 1) (cL ls) (cT st) (wr (cM M) K j.toNat i.toNat (Int32.ofInt v).toNatClampNeg (Int32.ofInt w)))
          | _ => none) = _
        rw [e1]
        simp only [Option.map_some]
        rw [gd_t (by rw [hb, inb_c hv hg.1 hg.2]; rfl), oi_clamp hv, cM_wri hk.1 hk.2 hg.1]; rfl
      · exact okG_no
    · exact okG_no
  | castore =>
    simp only [stI, stepI]
    split
    · next w v K j i st =>
      have hw := okU_i (okT_hd ht)
      have hv := okU_i (okT_hd (okT_tl ht))
      have hk := okT_hd (okT_tl (okT_tl ht))
      split
      · next N ha =>
        refine okG_bb (fun hb => okG_gg (fun hg => ⟨?_, hl, okT_tl (okT_tl (okT_tl ht)), okM_wri hM hw⟩))
        have e1 := al_c X K
        rw [ha] at e1
        show (match aln (cX X) K with
          | some (N, true) => gd (inb (Int32.ofInt v) N) (nx (pc + 1) (cL ls) (cT st) (wr (cM M) K j.toNat i.toNat (Int32.ofInt v).toNatClampNeg (vp_nar .char (Int32.ofInt w))))
          | _ => none) = _
        rw [e1]
        simp only [Option.map_some]
        rw [gd_t (inb_c hv hg.1.1 hg.1.2), oi_clamp hv, oi_nar hg.2.1 hg.2.2, cM_wri hk.1 hk.2 hg.1.1]; rfl
      · exact okG_no
    · exact okG_no
  | aaload =>
    simp only [stI, stepI]
    split
    · next v K j i st =>
      have hv := okU_i (okT_hd ht)
      have hk := okT_hd (okT_tl ht)
      split
      · next N ha =>
        refine okG_gg (fun hg => ⟨?_, hl, okT_cons (ae_ok hk.1 hg.1) (okT_tl (okT_tl ht)), hM⟩)
        have e1 := rl_c K
        rw [ha] at e1
        show (match rln K with
          | some N => gd (inb (Int32.ofInt v) N) (nx (pc + 1) (cL ls) (.inr (.inr (some (ael K j.toNat (Int32.ofInt v).toNatClampNeg))) :: cT st) (cM M))
          | none => none) = _
        rw [e1]
        simp only [Option.map_some]
        rw [gd_t (inb_c hv hg.1 hg.2), oi_clamp hv, ae_c hg.1]; rfl
      · exact okG_no
    · exact okG_no
  | arraylength =>
    simp only [stI, stepI]
    split
    · next j i st =>
      refine okG_go ?_ hl (okT_cons ⟨by have := hX.1; omega, hX.2.1⟩ (okT_tl ht)) hM
      show nx _ _ (.inl (nI X.1.toNat) :: _) _ = _
      rw [← oi_nat hX.1]; rfl
    · exact okG_no
  | ldc ix =>
    simp only [stI, stepI]
    split
    · next k h =>
      refine okG_go ?_ hl (okT_cons ⟨Int.natCast_nonneg k, Int.le_refl _⟩ ht) hM
      rw [h]; rfl
    · exact okG_no
  | ldc_w ix =>
    simp only [stI, stepI]
    split
    · next v h =>
      obtain ⟨w, k, h1, rfl, h2⟩ := ktab _ _ _ h
      refine okG_go ?_ hl (okT_cons h2 ht) hM
      rw [h1]; rfl
    · exact okG_no
  | ldc2_w ix =>
    simp only [stI, stepI]
    split
    · next v h =>
      obtain ⟨w, k, h1, rfl, h2⟩ := jtab _ _ _ h
      refine okG_go ?_ hl (okT_cons h2 ht) hM
      rw [h1]; rfl
    · exact okG_no
  | invokevirtual ix =>
    simp only [stI, stepI]
    split
    · next h => rw [h]; exact cl_ok hX hl ht hM
    · exact okG_no
  | invokestatic ix =>
    simp only [stI, stepI]
    split
    · next h => rw [h]; exact cl_ok hX hl ht hM
    · exact okG_no
  | ireturn =>
    simp only [stI, stepI]
    split
    · next v hr =>
      intro G r q hg
      cases q
      rw [hr]
      exact ⟨rfl, okT_hd ht⟩
    · next v hr =>
      intro G r q hg
      cases q
      rw [hr]
      exact ⟨gd_t (isb_c hg), okT_hd ht⟩
    · exact okG_no
  | lreturn =>
    simp only [stI, stepI]
    split
    · next v hr =>
      intro G r q hg
      cases q
      rw [hr]
      exact ⟨rfl, okT_hd ht⟩
    · exact okG_no
  | areturn =>
    simp only [stI, stepI]
    split
    · next v nm hr =>
      intro G r q hg
      cases q
      rw [hr]
      cases v <;> exact ⟨rfl, okT_hd ht⟩
    · exact okG_no
  | return_ =>
    simp only [stI, stepI]
    split
    · next hr =>
      intro G r q hg
      cases q
      rw [hr]
      exact ⟨rfl, True.intro⟩
    · exact okG_no
  | _ => exact okG_no
end
theorem wp_run {X : XI} (hX : okX X) : ∀ (n z : Nat) (e : ME) (s : SI) (Q : Option U → NM → Prop), nth MT z = some e → wpI X n e s Q → okS s → ∃ r M', run (cX X) n z (cS s) = some (cO r, cM M') ∧ Q r M' ∧ okO r ∧ okM M' := by
  intro n
  induction n with
  | zero => intro z e s Q _ h; exact absurd h id
  | succ n ih =>
    intro z e s Q he h hs
    rw [wpI] at h
    have hst : ∀ (G : Option Prop) (r : RI), stS X e s = (G, some r) → gP G → stepS (cX X) z (cS s) = some (cR r) ∧ okR s.2.2.2 r := by
      intro G r h2 hg
      unfold stS at h2
      have e1 : stepS (cX X) z (cS s) = match fnd (eI e) s.1 with
          | none => none
          | some q => stepI (cX X) e q.1 q.2 s.1 (cL s.2.1) (cT s.2.2.1) (cM s.2.2.2) := by
        unfold stepS
        rw [he]
        rfl
      rw [e1]
      cases hf : fnd (eI e) s.1 with
      | none => rw [hf] at h2; cases h2
      | some q =>
        rw [hf] at h2
        exact stI_ok hX hs.1 hs.2.1 hs.2.2 G r h2 hg
    split at h
    · next G s' hq =>
      have hg : gP G ∧ wpI X n e s' Q := by
        cases G with
        | none => exact ⟨True.intro, h⟩
        | some G => exact h
      obtain ⟨h1, h2⟩ := hst _ _ hq hg.1
      obtain ⟨r, M', a, b⟩ := ih z e s' Q he hg.2 h2
      exact ⟨r, M', by rw [run, h1]; exact a, b⟩
    · next G z' as rest hq =>
      have hg : gP G ∧ (match nth MT z' with
        | some e' => wpI X n e' (0, initU (eL e') as, [], s.2.2.2) (fun r M' => wpI X n e (s.1 + 3, s.2.1, pushU r rest, M') Q)
        | none => False) := by
        cases G with
        | none => exact ⟨True.intro, h⟩
        | some G => exact h
      obtain ⟨hg, h⟩ := hg
      obtain ⟨h1, h2⟩ := hst _ _ hq hg
      cases he' : nth MT z' with
      | none => rw [he'] at h; exact absurd h id
      | some e' =>
        rw [he'] at h
        have hok0 : okL (initU (eL e') as) := by
          have k1 : okL (argU as) := by
            have : ∀ l : List U, okT l → okL (argU l) := by
              intro l
              induction l with
              | nil => intro _ v hv; exact (List.not_mem_nil hv).elim
              | cons w l ih2 =>
                intro hl v hv
                match w, hl, hv with
                | .inl a, hl, hv =>
                  rcases List.mem_cons.mp hv with rfl | hv
                  · exact okT_hd hl
                  · exact ih2 (okT_tl hl) v hv
                | .inr (.inl a), hl, hv =>
                  rcases List.mem_cons.mp hv with rfl | hv
                  · exact okT_hd hl
                  · rcases List.mem_cons.mp hv with rfl | hv
                    · exact True.intro
                    · exact ih2 (okT_tl hl) v hv
                | .inr (.inr a), hl, hv =>
                  rcases List.mem_cons.mp hv with rfl | hv
                  · exact okT_hd hl
                  · exact ih2 (okT_tl hl) v hv
            exact this as h2.1
          have k2 : ∀ (n : Nat) (l : List (Option U)), okL l → okL (padU n l) := by
            intro n
            induction n with
            | zero => intro l _ v hv; exact (List.not_mem_nil hv).elim
            | succ n ih2 =>
              intro l hl v hv
              cases l with
              | nil =>
                rcases List.mem_cons.mp hv with rfl | hv
                · exact True.intro
                · exact ih2 [] hl v hv
              | cons a l =>
                rcases List.mem_cons.mp hv with rfl | hv
                · exact hl _ List.mem_cons_self
                · exact ih2 l (fun w hw => hl w (List.mem_cons_of_mem _ hw)) v hv
          exact k2 _ _ k1
        obtain ⟨r1, M1, a1, a2, a3, a4⟩ := ih z' e' _ _ he' h ⟨hok0, fun v hv => (List.not_mem_nil hv).elim, hs.2.2⟩
        have hok1 : okS (s.1 + 3, s.2.1, pushU r1 rest, M1) := ⟨hs.1, by
          cases r1 with
          | none => exact h2.2
          | some v => exact okT_cons a3 h2.2, a4⟩
        obtain ⟨r, M', b1, b2⟩ := ih z e _ Q he a2 hok1
        refine ⟨r, M', ?_, b2⟩
        rw [run, h1]
        show (match nth MT z' with
          | none => none
          | some e => match run (cX X) n z' (0, initL (eL e) (cT as), [], cM s.2.2.2) with
            | none => none
            | some (r, M') => run (cX X) n z (s.1 + 3, cL s.2.1, pushR r (cT rest), M')) = _
        rw [he']
        have a5 : run (cX X) n z' (0, initL (eL e') (cT as), [], cM s.2.2.2) = some (cO r1, cM M1) := by
          rw [init_c]; exact a1
        simp only [a5]
        rw [push_c]; exact b1
    · next G r hq =>
      have hg : gP G ∧ Q r s.2.2.2 := by
        cases G with
        | none => exact ⟨True.intro, h⟩
        | some G => exact h
      obtain ⟨h1, h2⟩ := hst _ _ hq hg.1
      exact ⟨r, s.2.2.2, by rw [run, h1]; rfl, hg.2, h2, hs.2.2⟩
    · exact absurd h id
end
section
/-! 11: what a stadium is, in numbers: S kind i slot (0 blocks, 1 floor, 3 holds, 5 stadium, 6 tickets, 13 what chairs are, 14 which stages lie over them) -/
noncomputable def bi (p : Prop) : Int := @ite Int p (Classical.propDecidable p) 1 0
noncomputable def cif {α : Type} (p : Prop) (a b : α) : α := @ite α p (Classical.propDecidable p) a b
theorem bi_t {p : Prop} (h : p) : bi p = 1 := if_pos h
theorem bi_f {p : Prop} (h : ¬ p) : bi p = 0 := if_neg h
theorem cif_t {α : Type} {p : Prop} {a b : α} (h : p) : cif p a b = a := if_pos h
theorem cif_f {α : Type} {p : Prop} {a b : α} (h : ¬ p) : cif p a b = b := if_neg h
theorem bi_01 (p : Prop) : bi p = 0 ∨ bi p = 1 := by
  by_cases h : p
  · exact Or.inr (bi_t h)
  · exact Or.inl (bi_f h)
theorem bi_iff {p q : Prop} (h : p ↔ q) : bi p = bi q := by rw [propext h]
theorem bi_eq1 {p : Prop} : bi p = 1 ↔ p := ⟨fun h => by
  by_cases q : p
  · exact q
  · rw [bi_f q] at h; omega, bi_t⟩
theorem bi_eq0 {p : Prop} : bi p = 0 ↔ ¬ p := ⟨fun h q => by rw [bi_t q] at h; omega, bi_f⟩
theorem bi_ge (p : Prop) : 0 ≤ bi p := by rcases bi_01 p with h | h <;> omega
theorem bi_le (p : Prop) : bi p ≤ 1 := by rcases bi_01 p with h | h <;> omega
theorem is1 {p : Prop} (h : p) : (1 : Int) = bi p := (bi_t h).symm
theorem is0 {p : Prop} (h : ¬ p) : (0 : Int) = bi p := (bi_f h).symm
theorem bA_t {A B : Prop} (a : A) (b : ¬ B) : bi (A ∧ ¬ B) = 1 := bi_t ⟨a, b⟩
theorem bA_1 {A B : Prop} (a : ¬ A) : bi (A ∧ ¬ B) = 0 := bi_f (fun z => a z.1)
theorem bA_2 {A B : Prop} (b : B) : bi (A ∧ ¬ B) = 0 := bi_f (fun z => z.2 b)
theorem cA_t {α : Type} {A B : Prop} {x y : α} (a : A) (b : B) : cif (A ∧ B) x y = x := cif_t ⟨a, b⟩
theorem cA_1 {α : Type} {A B : Prop} {x y : α} (a : ¬ A) : cif (A ∧ B) x y = y := cif_f (fun z => a z.1)
theorem cA_2 {α : Type} {A B : Prop} {x y : α} (b : ¬ B) : cif (A ∧ B) x y = y := cif_f (fun z => b z.2)
theorem bO_1 {A B : Prop} (a : A) : bi (A ∨ B) = 1 := bi_t (Or.inl a)
theorem bO_2 {A B : Prop} (b : B) : bi (A ∨ B) = 1 := bi_t (Or.inr b)
theorem bO_f {A B : Prop} (a : ¬ A) (b : ¬ B) : bi (A ∨ B) = 0 := bi_f (fun z => z.elim a b)
theorem rint {v w : Int} (h : v = w) : (some (.inl v) : Option U) = some (.inl w) := by rw [h]
theorem ev_clp {X : XI} {e : ME} {pc z : Nat} {ls : List (Option U)} {st as rest : List U} {v : U} {M : NM} {Q : Option U → NM → Prop} (h : stS X e (pc, ls, st, M) = (none, some (.inr (.inl (z, as, rest))))) (hc : HT X z as M (fun r M' => r = some v ∧ M' = M)) (k : EvI X e (pc + 3, ls, v :: rest, M) Q) : EvI X e (pc, ls, st, M) Q :=
  ev_cl h hc (fun r M' q => by obtain ⟨rfl, rfl⟩ := q; exact k)
theorem ev_ifb {X : XI} {e : ME} {c : Prop} {t f : Nat} {ls : List (Option U)} {st : List U} {M : NM} {Q : Option U → NM → Prop} (a : ¬ c → EvI X e (t, ls, st, M) Q) (b : c → EvI X e (f, ls, st, M) Q) : EvI X e (if bi c = 0 then t else f, ls, st, M) Q := by
  by_cases h : c
  · rw [bi_t h, if_neg (by decide)]; exact b h
  · rw [bi_f h, if_pos rfl]; exact a h
abbrev Sl : Type := Nat → Int → Int → Int
/-! sums -/
def sm (f : Int → Int) : Nat → Int
  | 0 => 0
  | n + 1 => sm f n + f (n : Int)
theorem sm_step {f : Int → Int} {o : Int} (h : 0 ≤ o) : sm f (o + 1).toNat = sm f o.toNat + f o := by
  rw [show (o + 1).toNat = o.toNat + 1 by omega, sm, Int.toNat_of_nonneg h]
theorem sm_congr {f g : Int → Int} : ∀ {n : Nat}, (∀ k, 0 ≤ k → k < (n : Int) → f k = g k) → sm f n = sm g n := by
  intro n
  induction n with
  | zero => intro _; rfl
  | succ n ih => intro h; rw [sm, sm, ih (fun k h0 h1 => h k h0 (by omega)), h n (by omega) (by omega)]
theorem sm_bnd {f : Int → Int} {c : Int} (hf : ∀ k, 0 ≤ f k ∧ f k ≤ c) : ∀ n : Nat, 0 ≤ sm f n ∧ sm f n ≤ c * n := by
  intro n
  induction n with
  | zero => exact ⟨Int.le_refl _, by rw [sm]; omega⟩
  | succ n ih =>
    have := hf n
    rw [sm, show ((n + 1 : Nat) : Int) = (n : Int) + 1 from rfl, Int.mul_add]
    omega
theorem sm_bndr {f : Int → Int} {c : Int} : ∀ {n : Nat}, (∀ k, 0 ≤ k → k < (n : Int) → 0 ≤ f k ∧ f k ≤ c) → 0 ≤ sm f n ∧ sm f n ≤ c * n := by
  intro n
  induction n with
  | zero => intro _; exact ⟨Int.le_refl _, by rw [sm]; omega⟩
  | succ n ih =>
    intro hf
    have := hf n (by omega) (by omega)
    have := ih (fun k a b => hf k a (by omega))
    rw [sm, show ((n + 1 : Nat) : Int) = (n : Int) + 1 from rfl, Int.mul_add]
    omega
theorem acc {a s x y : Int} (h : x = y) : a + s + x = a + (s + y) := by rw [h]; omega
theorem acc0 {s x y : Int} (h : x = y) : s + x = s + y := by rw [h]
theorem smb_bnd (p : Int → Prop) (n : Nat) : 0 ≤ sm (fun k => bi (p k)) n ∧ sm (fun k => bi (p k)) n ≤ n := by
  have := sm_bnd (f := fun k => bi (p k)) (c := 1) (fun k => ⟨bi_ge _, bi_le _⟩) n
  omega
theorem sm_add {f g : Int → Int} : ∀ n : Nat, sm (fun k => f k + g k) n = sm f n + sm g n := by
  intro n
  induction n with
  | zero => rfl
  | succ n ih => rw [sm, sm, sm, ih]; omega
theorem sm_app {f : Int → Int} (n : Nat) : ∀ m : Nat, sm f (n + m) = sm f n + sm (fun k => f (n + k)) m := by
  intro m
  induction m with
  | zero => rw [Nat.add_zero, sm]; omega
  | succ m ih =>
    rw [show n + (m + 1) = (n + m) + 1 from rfl, sm, sm, ih, show ((n + m : Nat) : Int) = (n : Int) + m by omega]
    omega
theorem sm_zero {f : Int → Int} : ∀ {n : Nat}, (∀ k, 0 ≤ k → k < (n : Int) → f k = 0) → sm f n = 0 := by
  intro n
  induction n with
  | zero => intro _; rfl
  | succ n ih => intro h; rw [sm, ih (fun k h0 h1 => h k h0 (by omega)), h n (by omega) (by omega)]; rfl
theorem sm_pos {f : Int → Int} {k : Int} (hf : ∀ k, 0 ≤ f k) : ∀ {n : Nat}, 0 ≤ k → k < (n : Int) → f k ≤ sm f n := by
  intro n
  induction n with
  | zero => intro h0 h1; omega
  | succ n ih =>
    intro h0 h1
    have h2 : 0 ≤ sm f n := by
      have : ∀ n : Nat, 0 ≤ sm f n := by
        intro n
        induction n with
        | zero => exact Int.le_refl _
        | succ n ih => have := hf n; rw [sm]; omega
      exact this n
    have h3 := hf n
    rw [sm]
    by_cases q : k = n
    · subst q; omega
    · have := ih h0 (by omega); omega
/-- one place of a sum is changed -/
theorem sm_upd {f g : Int → Int} {k : Int} : ∀ {n : Nat}, 0 ≤ k → k < (n : Int) → (∀ i, 0 ≤ i → i < (n : Int) → i ≠ k → g i = f i) → sm g n = sm f n - f k + g k := by
  intro n
  induction n with
  | zero => intro h0 h1; omega
  | succ n ih =>
    intro h0 h1 h
    rw [sm, sm]
    by_cases q : k = n
    · subst q
      rw [sm_congr (f := g) (g := f) (fun i a b => h i a (by omega) (by omega))]
      omega
    · rw [ih h0 (by omega) (fun i a b c => h i a (by omega) c), h n (by omega) (by omega) (Ne.symm q)]
      omega
/-! words of the stadium -/
noncomputable def rk (S : Sl) (b : Int) : Int := sm (fun o => bi (S 0 o 2 < S 0 b 2)) (S 1 0 3).toNat
def isCh (S : Sl) (c : Int) : Prop := 0 ≤ c ∧ c / 100 < S 1 0 3 ∧ c / 10 % 10 < S 0 (c / 100) 0 ∧ c % 10 < S 0 (c / 100) 1
def kl (S : Sl) (c : Int) : Prop := andI (S 14 0 c) (S 1 0 5) ≠ 0
def upP (S : Sl) (s : Int) : Prop := andI (shrI (S 1 0 5) s) 1 = 1
def fo (S : Sl) (s c : Int) : Prop := andI (shrI (S 14 0 c) s) 1 = 1
def opn (S : Sl) (row c : Int) : Prop := (0 ≤ c ∧ c ≤ 9) ∧ isCh S (row + c) ∧ S 13 0 (row + c) = 0 ∧ ¬ kl S (row + c)
def are (S : Sl) (row c n : Int) : Prop := ∀ k, 0 ≤ k → k < n → opn S row (c + k)
noncomputable def la (S : Sl) (row c n : Int) : Int := bi (opn S row (c - 1) ∧ ¬ opn S row (c - 2)) + bi (opn S row (c + n) ∧ ¬ opn S row (c + n + 1))
noncomputable def plC (S : Sl) (row n : Int) (p : Int × Int) : Nat → Int × Int
  | 0 => p
  | c + 1 => cif (are S row c n ∧ la S row c n < (plC S row n p c).2) (row + c, la S row c n) (plC S row n p c)
noncomputable def plR (S : Sl) (b n i0 : Int) : Nat → Int × Int
  | 0 => (-9, i0)
  | r + 1 => plC S (100 * b + 10 * r) n (plR S b n i0 r) (S 0 b 1).toNat
noncomputable def pl (S : Sl) (b n : Int) : Int := (plR S b n 3 (S 0 b 0).toNat).1
noncomputable def gN (S : Sl) (b : Int) : Nat → Int
  | 0 => 0
  | n + 1 => cif (pl S b ((n : Int) + 1) ≠ -9) ((n : Int) + 1) (gN S b n)
noncomputable def isN (S : Sl) (c : Int) : Int := cif (0 < S 13 0 c) (1 + S 13 0 c) (cif (kl S c) 1 5)
noncomputable def ctR (P : Int → Prop) (row : Int) (n : Nat) : Int := sm (fun c => bi (P (row + c))) n
noncomputable def ct (S : Sl) (b : Int) (P : Int → Prop) : Int := sm (fun r => ctR P (100 * b + 10 * r) (S 0 b 1).toNat) (S 0 b 0).toNat
noncomputable def ctA (S : Sl) (P : Int → Prop) : Int := sm (fun b => ct S b P) (S 1 0 3).toNat
noncomputable def upF (S : Sl) (f n : Int) : Nat → Int
  | 0 => -9
  | b + 1 => cif ((rk S f < rk S b ∧ pl S b n ≠ -9) ∧ (upF S f n b = -9 ∨ rk S (upF S f n b) < rk S b)) (b : Int) (upF S f n b)
noncomputable def ff (P : Int → Prop) : Nat → Int → Int
  | 0, _ => -9
  | n + 1, k => cif (P k) k (ff P n (k + 1))
noncomputable def whN (S : Sl) (t : Int) : Int := cif (¬ (0 ≤ t ∧ t < S 5 0 4)) (-1) (cif (S 6 t 0 ≠ 0) (-2) 0)
/-- a group's chairs: in one row of a block -/
def HO (S : Sl) (f n : Int) : Prop := 0 ≤ f ∧ 1 ≤ n ∧ n ≤ 10 ∧ f / 100 < S 1 0 3 ∧ f / 10 % 10 < S 0 (f / 100) 0 ∧ f % 10 + n ≤ S 0 (f / 100) 1
def Iv0 (m : Int) (S : Sl) : Prop := (0 ≤ m ∧ m ≤ 62000) ∧ (0 ≤ S 1 0 3 ∧ S 1 0 3 ≤ 6) ∧ (0 ≤ S 1 0 4 ∧ S 1 0 4 ≤ 4) ∧ (0 ≤ S 1 0 5 ∧ S 1 0 5 < 16) ∧ (0 ≤ S 5 0 3 ∧ S 5 0 3 ≤ 20) ∧ (0 ≤ S 5 0 4 ∧ S 5 0 4 ≤ 20) ∧ (0 ≤ S 5 0 5 ∧ S 5 0 5 ≤ 9999) ∧ (S 5 0 6 = 0 ∨ S 5 0 6 = 1) ∧ (0 ≤ S 5 0 7 ∧ S 5 0 7 ≤ 5000 * m) ∧ (0 ≤ S 5 0 8 ∧ S 5 0 8 ≤ 5000 * m) ∧ (0 ≤ S 5 0 9 ∧ S 5 0 9 ≤ 20 * m)
def IvB (S : Sl) : Prop := ∀ b, 0 ≤ b → b < S 1 0 3 → (1 ≤ S 0 b 0 ∧ S 0 b 0 ≤ 6) ∧ (1 ≤ S 0 b 1 ∧ S 0 b 1 ≤ 10) ∧ (1 ≤ S 0 b 2 ∧ S 0 b 2 ≤ 500)
def IvC (S : Sl) : Prop := ∀ c, 0 ≤ c → c < 600 → (0 ≤ S 13 0 c ∧ S 13 0 c ≤ 3) ∧ (0 ≤ S 14 0 c ∧ S 14 0 c < 16) ∧ (¬ isCh S c → S 13 0 c = 0 ∧ S 14 0 c = 0) ∧ (kl S c → S 13 0 c = 0)
def IvH (S : Sl) : Prop := ∀ h, 0 ≤ h → h < S 5 0 3 → HO S (S 3 h 1) (S 3 h 2) ∧ (0 ≤ S 3 h 0 ∧ S 3 h 0 ≤ 3) ∧ (1 ≤ S 3 h 3 ∧ S 3 h 3 ≤ 10998)
def IvT (m : Int) (S : Sl) : Prop := ∀ t, 0 ≤ t → t < S 5 0 4 → HO S (S 6 t 1) (S 6 t 2) ∧ (0 ≤ S 6 t 0 ∧ S 6 t 0 ≤ 3) ∧ (0 ≤ S 6 t 3 ∧ S 6 t 3 ≤ 5000) ∧ (0 ≤ S 6 t 4 ∧ S 6 t 4 ≤ 20 * m)
/-- who has which chairs: of kind K (holds 3, tickets 6), whose state is 0, numbered below n: what their chairs are; no two have one -/
def IvO (S : Sl) (K : Nat) (n w : Int) : Prop := ∀ h, 0 ≤ h → h < n → S K h 0 = 0 → (∀ c, S K h 1 ≤ c → c < S K h 1 + S K h 2 → S 13 0 c = w) ∧ ∀ h', 0 ≤ h' → h' < n → S K h' 0 = 0 → h' ≠ h → S K h 1 + S K h 2 ≤ S K h' 1 ∨ S K h' 1 + S K h' 2 ≤ S K h 1
def Inv (m : Int) (S : Sl) : Prop := Iv0 m S ∧ IvB S ∧ IvC S ∧ IvH S ∧ IvT m S ∧ IvO S 3 (S 5 0 3) 1 ∧ IvO S 6 (S 5 0 4) 2 ∧ sm (fun h => bi (S 3 h 0 = 1)) (S 5 0 3).toNat = S 5 0 4
/-- the reference's row of numbers -/
def RR (a : Int → Int) (S : Sl) : Prop :=
  (a 0 = S 5 0 5 ∧ a 1 = S 5 0 6 ∧ a 2 = S 5 0 7 ∧ a 3 = S 5 0 8 ∧ True ∧ a 5 = S 5 0 9 ∧ a 6 = S 1 0 3 ∧ a 7 = S 1 0 4 ∧ a 8 = S 5 0 3 ∧ a 9 = S 5 0 4 ∧ a 10 = S 1 0 5)
  ∧ (∀ b w, 0 ≤ b → b < 6 → 0 ≤ w → w < 3 → a (11 + 3 * b + w) = S 0 b w)
  ∧ (∀ c, 0 ≤ c → c < 600 → c % 100 < 60 → a (29 + 60 * (c / 100) + c % 100) = S 13 0 c + 4 * S 14 0 c)
  ∧ (∀ h w, 0 ≤ h → h < 20 → 0 ≤ w → w < 5 → a (389 + 5 * h + w) = S 3 h w)
  ∧ (∀ t w, 0 ≤ t → t < 20 → 0 ≤ w → w < 5 → a (489 + 5 * t + w) = S 6 t w)
def RW (m : Int) (M : NM) (S : Sl) : Prop := RR (M 17 0 0) S ∧ Inv m S
/-! bits, case by case -/
theorem fin_and3 : ∀ w, w < 4 → ∀ s, s < 16 → andI ((w : Nat) + 4 * (s : Nat)) 3 = (w : Nat) := by decide +kernel
theorem fin_shr2 : ∀ w, w < 4 → ∀ s, s < 16 → shrI ((w : Nat) + 4 * (s : Nat)) 2 = (s : Nat) := by decide +kernel
theorem fin_shrs : ∀ w, w < 4 → ∀ s, s < 16 → ∀ g, g < 4 → shrI ((w : Nat) + 4 * (s : Nat)) (2 + (g : Nat)) = shrI (s : Nat) (g : Nat) := by decide +kernel
theorem b_and3 {w s : Int} (hw : 0 ≤ w ∧ w ≤ 3) (hs : 0 ≤ s ∧ s < 16) : andI (w + 4 * s) 3 = w := by
  obtain ⟨w, rfl⟩ := Int.eq_ofNat_of_zero_le hw.1
  obtain ⟨s, rfl⟩ := Int.eq_ofNat_of_zero_le hs.1
  exact fin_and3 w (by omega) s (by omega)
theorem b_shr2 {w s : Int} (hw : 0 ≤ w ∧ w ≤ 3) (hs : 0 ≤ s ∧ s < 16) : shrI (w + 4 * s) 2 = s := by
  obtain ⟨w, rfl⟩ := Int.eq_ofNat_of_zero_le hw.1
  obtain ⟨s, rfl⟩ := Int.eq_ofNat_of_zero_le hs.1
  exact fin_shr2 w (by omega) s (by omega)
theorem b_shrs {w s g : Int} (hw : 0 ≤ w ∧ w ≤ 3) (hs : 0 ≤ s ∧ s < 16) (hg : 0 ≤ g ∧ g < 4) : shrI (w + 4 * s) (2 + g) = shrI s g := by
  obtain ⟨w, rfl⟩ := Int.eq_ofNat_of_zero_le hw.1
  obtain ⟨s, rfl⟩ := Int.eq_ofNat_of_zero_le hs.1
  obtain ⟨g, rfl⟩ := Int.eq_ofNat_of_zero_le hg.1
  exact fin_shrs w (by omega) s (by omega) g (by omega)
theorem isCh_r {m : Int} {S : Sl} (hI : Inv m S) {c : Int} (h : isCh S c) : 0 ≤ c ∧ c < 600 ∧ c % 100 < 60 := by
  obtain ⟨h0, h1, h2, h3⟩ := h
  have q := hI.1.2.1
  have q2 := hI.2.1 (c / 100) (by omega) h1
  omega
theorem chR {m : Int} {M : NM} {S : Sl} (hW : RW m M S) {c : Int} (h : 0 ≤ c ∧ c < 600 ∧ c % 100 < 60) : M 17 0 0 (29 + 60 * (c / 100) + c % 100) = S 13 0 c + 4 * S 14 0 c ∧ (0 ≤ S 13 0 c ∧ S 13 0 c ≤ 3) ∧ (0 ≤ S 14 0 c ∧ S 14 0 c < 16) := by
  have q := hW.2.2.2.1 c h.1 h.2.1
  exact ⟨hW.1.2.2.1 c h.1 h.2.1 h.2.2, q.1, q.2.1⟩
theorem la_2 (S : Sl) (row c n : Int) : 0 ≤ la S row c n ∧ la S row c n ≤ 2 := by
  unfold la
  have h1 := bi_ge (opn S row (c - 1) ∧ ¬ opn S row (c - 2))
  have h2 := bi_le (opn S row (c - 1) ∧ ¬ opn S row (c - 2))
  have h3 := bi_ge (opn S row (c + n) ∧ ¬ opn S row (c + n + 1))
  have h4 := bi_le (opn S row (c + n) ∧ ¬ opn S row (c + n + 1))
  omega
theorem rk_r {m : Int} {S : Sl} (hI : Inv m S) (b : Int) : 0 ≤ rk S b ∧ rk S b ≤ 6 := by
  have q := hI.1.2.1
  have q2 := smb_bnd (fun o => S 0 o 2 < S 0 b 2) (S 1 0 3).toNat
  unfold rk
  omega
theorem isN_1 {S : Sl} {c : Int} (h : 0 < S 13 0 c) : isN S c = 1 + S 13 0 c := cif_t h
theorem isN_2 {S : Sl} {c : Int} (h : ¬ 0 < S 13 0 c) (k : kl S c) : isN S c = 1 := by unfold isN; rw [cif_f h, cif_t k]
theorem isN_3 {S : Sl} {c : Int} (h : ¬ 0 < S 13 0 c) (k : ¬ kl S c) : isN S c = 5 := by unfold isN; rw [cif_f h, cif_f k]
theorem ctR_bnd (P : Int → Prop) (row : Int) (n : Nat) : 0 ≤ ctR P row n ∧ ctR P row n ≤ n := smb_bnd _ n
theorem ctS_bnd (P : Int → Prop) (b : Int) {C : Nat} (hC : C ≤ 10) (n : Nat) : 0 ≤ sm (fun r => ctR P (100 * b + 10 * r) C) n ∧ sm (fun r => ctR P (100 * b + 10 * r) C) n ≤ 10 * n :=
  sm_bnd (fun k => by have := ctR_bnd P (100 * b + 10 * k) C; omega) n
theorem ct_bnd {m : Int} {S : Sl} (hI : Inv m S) (P : Int → Prop) {b : Int} (h : 0 ≤ b ∧ b < S 1 0 3) : 0 ≤ ct S b P ∧ ct S b P ≤ 60 := by
  have q := hI.2.1 b h.1 h.2
  have := ctS_bnd P b (C := (S 0 b 1).toNat) (by omega) (S 0 b 0).toNat
  unfold ct
  omega
theorem ctA_bnd {m : Int} {S : Sl} (hI : Inv m S) (P : Int → Prop) {n : Nat} (h : (n : Int) ≤ S 1 0 3) : 0 ≤ sm (fun b => ct S b P) n ∧ sm (fun b => ct S b P) n ≤ 360 := by
  have q := hI.1.2.1
  have := sm_bndr (f := fun b => ct S b P) (c := 60) (n := n) (fun k a b => ct_bnd hI P ⟨a, by omega⟩)
  omega
theorem upF_step {S : Sl} {f n b : Int} (h : 0 ≤ b) : upF S f n (b + 1).toNat = cif ((rk S f < rk S b ∧ pl S b n ≠ -9) ∧ (upF S f n b.toNat = -9 ∨ rk S (upF S f n b.toNat) < rk S b)) b (upF S f n b.toNat) := by
  rw [show (b + 1).toNat = b.toNat + 1 by omega, upF, Int.toNat_of_nonneg h]
theorem upF_r (S : Sl) (f n : Int) : ∀ k : Nat, upF S f n k = -9 ∨ (0 ≤ upF S f n k ∧ upF S f n k < k) := by
  intro k
  induction k with
  | zero => exact Or.inl rfl
  | succ k ih =>
    rw [upF]
    by_cases h : (rk S f < rk S k ∧ pl S k n ≠ -9) ∧ (upF S f n k = -9 ∨ rk S (upF S f n k) < rk S k)
    · rw [cif_t h]; omega
    · rw [cif_f h]; omega
theorem gN_step {S : Sl} {b n : Int} (h : 1 ≤ n) : gN S b n.toNat = cif (pl S b n ≠ -9) n (gN S b (n - 1).toNat) := by
  have e : n.toNat = (n - 1).toNat + 1 := by omega
  have e2 : ((n - 1).toNat : Int) + 1 = n := by omega
  rw [e, gN, e2]
theorem ff_step {P : Int → Prop} {N k : Int} (h : k < N) : ff P (N - k).toNat k = cif (P k) k (ff P (N - (k + 1)).toNat (k + 1)) := by
  rw [show (N - k).toNat = (N - (k + 1)).toNat + 1 by omega, ff]
theorem ff_end {P : Int → Prop} {N k : Int} (h : ¬ k < N) : ff P (N - k).toNat k = -9 := by
  rw [show (N - k).toNat = 0 by omega, ff]
def isPc (S : Sl) (f t : Int) : Prop := isCh S f ∧ isCh S t ∧ f / 100 = t / 100 ∧ f / 10 ≤ t / 10 ∧ f % 10 ≤ t % 10
/-! words for the class's side -/
abbrev sl (M : NM) (j : Int) : Sl := fun K i s => M K j i s
def fr (S : Sl) (c : Int) : Prop := isCh S c ∧ S 13 0 c = 0 ∧ ¬ kl S c
noncomputable def chN (S : Sl) (n : Int) : Nat → Int
  | 0 => -9
  | b + 1 => cif (pl S b n ≠ -9 ∧ (chN S n b = -9 ∨ S 0 b 2 < S 0 (chN S n b) 2)) (b : Int) (chN S n b)
theorem chN_step {S : Sl} {n b : Int} (h : 0 ≤ b) : chN S n (b + 1).toNat = cif (pl S b n ≠ -9 ∧ (chN S n b.toNat = -9 ∨ S 0 b 2 < S 0 (chN S n b.toNat) 2)) b (chN S n b.toNat) := by
  rw [show (b + 1).toNat = b.toNat + 1 by omega, chN, Int.toNat_of_nonneg h]
theorem chN_r (S : Sl) (n : Int) : ∀ k : Nat, chN S n k = -9 ∨ (0 ≤ chN S n k ∧ chN S n k < k) := by
  intro k
  induction k with
  | zero => exact Or.inl rfl
  | succ k ih =>
    rw [chN]
    by_cases h : pl S k n ≠ -9 ∧ (chN S n k = -9 ∨ S 0 k 2 < S 0 (chN S n k) 2)
    · rw [cif_t h]; omega
    · rw [cif_f h]; omega
noncomputable def chS (S : Sl) (c : Int) : Int := cif (isCh S c) (S 13 0 c + cif (kl S c) 10 0) (-1)
theorem isCh_mk {S : Sl} {b r c : Int} (hb0 : 0 ≤ b) (hb : b < S 1 0 3) (hr0 : 0 ≤ r) (hr : r < S 0 b 0) (hr2 : r < 6) (hc0 : 0 ≤ c) (hc : c < S 0 b 1) (hc2 : c < 10) : isCh S (100 * b + 10 * r + c) := by
  unfold isCh
  rw [show (100 * b + 10 * r + c) / 100 = b by omega, show (100 * b + 10 * r + c) / 10 % 10 = r by omega, show (100 * b + 10 * r + c) % 10 = c by omega]
  exact ⟨by omega, hb, hr, hc⟩
theorem plC_stop {S : Sl} {row n : Int} {p : Int × Int} {c : Nat} (h : ∀ c' : Int, c ≤ c' → ¬ are S row c' n) : ∀ d : Nat, plC S row n p (c + d) = plC S row n p c := by
  intro d
  induction d with
  | zero => rfl
  | succ d ih =>
    rw [show c + (d + 1) = (c + d) + 1 from rfl, plC, cA_1 (h _ (by omega)), ih]
theorem plC_1 {S : Sl} {row n : Int} {p p' : Int × Int} (h1 : p.1 = p'.1) (h2 : p.2 = p'.2 ∨ (2 < p.2 ∧ 2 < p'.2)) : ∀ k, (plC S row n p k).1 = (plC S row n p' k).1 ∧ ((plC S row n p k).2 = (plC S row n p' k).2 ∨ (2 < (plC S row n p k).2 ∧ 2 < (plC S row n p' k).2)) := by
  intro k
  induction k with
  | zero => exact ⟨h1, h2⟩
  | succ k ih =>
    rw [plC, plC]
    have hl := la_2 S row k n
    by_cases q : are S row k n
    · by_cases q2 : la S row k n < (plC S row n p k).2
      · rw [cA_t q q2, cA_t q (by omega)]; exact ⟨rfl, Or.inl rfl⟩
      · rw [cA_2 q2, cA_2 (by omega)]; exact ih
    · rw [cA_1 q, cA_1 q]; exact ih
theorem plR_i0 {S : Sl} {b n : Int} : ∀ k, (plR S b n 10 k).1 = (plR S b n 3 k).1 ∧ ((plR S b n 10 k).2 = (plR S b n 3 k).2 ∨ (2 < (plR S b n 10 k).2 ∧ 2 < (plR S b n 3 k).2)) := by
  intro k
  induction k with
  | zero => exact ⟨rfl, Or.inr ⟨by show (2 : Int) < 10; decide, by show (2 : Int) < 3; decide⟩⟩
  | succ k ih => rw [plR, plR]; exact plC_1 ih.1 ih.2 _
theorem ctR_opn {S : Sl} {row : Int} {C : Nat} (h : C ≤ 10) : sm (fun c => bi (opn S row c)) C = ctR (fr S) row C :=
  sm_congr (fun k h0 h1 => bi_iff ⟨fun z => z.2, fun z => ⟨⟨h0, by omega⟩, z⟩⟩)
noncomputable def neN (S : Sl) : Nat → Int
  | 0 => -9
  | h + 1 => cif (S 3 h 0 = 0 ∧ (neN S h = -9 ∨ S 3 h 3 - S 5 0 5 < neN S h)) (S 3 h 3 - S 5 0 5) (neN S h)
theorem neN_step {S : Sl} {h : Int} (q : 0 ≤ h) : neN S (h + 1).toNat = cif (S 3 h 0 = 0 ∧ (neN S h.toNat = -9 ∨ S 3 h 3 - S 5 0 5 < neN S h.toNat)) (S 3 h 3 - S 5 0 5) (neN S h.toNat) := by
  rw [show (h + 1).toNat = h.toNat + 1 by omega, neN, Int.toNat_of_nonneg q]
/-- how many were no-shows -/
def SHo (a : Int → Int) (S : Sl) : Prop := a 4 = sm (fun t => bi (S 6 t 0 = 3)) (S 5 0 4).toNat
/-! states that are changed -/
def st (S : Sl) (K : Nat) (i s v : Int) : Sl := fun K' i' s' => if K' = K ∧ i' = i ∧ s' = s then v else S K' i' s'
def bec (S : Sl) (f n w : Int) : Sl := fun K i s => if K = 13 ∧ i = 0 ∧ f ≤ s ∧ s < f + n then w else S K i s
def bcM (M : NM) (j f n w : Int) : NM := fun K j' i s => if K = 13 ∧ j' = j ∧ i = 0 ∧ f ≤ s ∧ s < f + n then w else M K j' i s
def ua (a : Int → Int) (p v : Int) : Int → Int := fun k => if k = p then v else a k
theorem sl_wri {M : NM} {K : Nat} {j i s v : Int} : sl (wri M K j i s v) j = st (sl M j) K i s v := by
  funext K' i' s'
  show (if K' = K ∧ j = j ∧ i' = i ∧ s' = s then v else M K' j i' s') = if K' = K ∧ i' = i ∧ s' = s then v else M K' j i' s'
  simp only [true_and]
theorem sl_bcM {M : NM} {j f n w : Int} : sl (bcM M j f n w) j = bec (sl M j) f n w := by
  funext K i s
  show (if K = 13 ∧ j = j ∧ i = 0 ∧ f ≤ s ∧ s < f + n then w else M K j i s) = if K = 13 ∧ i = 0 ∧ f ≤ s ∧ s < f + n then w else M K j i s
  simp only [true_and]
theorem wri_K {M : NM} {K K' : Nat} {j i s v : Int} (h : K' ≠ K) : wri M K j i s v K' = M K' := by
  funext j' i' s'
  exact if_neg (fun z => h z.1)
theorem wri_eq {M : NM} {K : Nat} {j i s v : Int} : wri M K j i s v K j i s = v := if_pos ⟨rfl, rfl, rfl, rfl⟩
theorem wri_nes {M : NM} {K : Nat} {j i s v j' i' s' : Int} (h : s' ≠ s) : wri M K j i s v K j' i' s' = M K j' i' s' := if_neg (fun z => h z.2.2.2)
theorem wri_nei {M : NM} {K : Nat} {j i s v j' i' s' : Int} (h : i' ≠ i) : wri M K j i s v K j' i' s' = M K j' i' s' := if_neg (fun z => h z.2.2.1)
theorem wri_17 {M : NM} {p v : Int} : wri M 17 0 0 p v 17 0 0 = ua (M 17 0 0) p v := by
  funext s'
  show (if 17 = 17 ∧ (0 : Int) = 0 ∧ (0 : Int) = 0 ∧ s' = p then v else M 17 0 0 s') = if s' = p then v else M 17 0 0 s'
  simp only [true_and]
theorem bcM_K {M : NM} {j f n w : Int} {K' : Nat} (h : K' ≠ 13) : bcM M j f n w K' = M K' := by
  funext j' i' s'
  exact if_neg (fun z => h z.1)
theorem bcM_0 {M : NM} {j f w : Int} : M = bcM M j f 0 w := by
  funext K j' i s
  exact (if_neg (fun z => by omega)).symm
theorem bcM_s {M : NM} {j f k w : Int} (h : 0 ≤ k) : wri (bcM M j f k w) 13 j 0 (f + k) w = bcM M j f (k + 1) w := by
  funext K j' i s
  unfold wri bcM
  by_cases z : K = 13 ∧ j' = j ∧ i = 0 ∧ s = f + k
  · rw [if_pos z, if_pos ⟨z.1, z.2.1, z.2.2.1, by omega, by omega⟩]
  · rw [if_neg z]
    by_cases y : K = 13 ∧ j' = j ∧ i = 0 ∧ f ≤ s ∧ s < f + k
    · rw [if_pos y, if_pos ⟨y.1, y.2.1, y.2.2.1, by omega, by omega⟩]
    · rw [if_neg y, if_neg (fun x => by
        by_cases q : s = f + k
        · exact z ⟨x.1, x.2.1, x.2.2.1, q⟩
        · exact y ⟨x.1, x.2.1, x.2.2.1, x.2.2.2.1, by omega⟩)]
def stK (K : Nat) : Prop := K = 0 ∨ K = 1 ∨ K = 3 ∨ K = 5 ∨ K = 6 ∨ K = 13 ∨ K = 14
/-- only the stadium j is changed -/
def FR (j : Int) (M M' : NM) : Prop := ∀ K j' i s, (j' ≠ j ∨ ¬ stK K) → M' K j' i s = M K j' i s
theorem FR_rf {j : Int} {M : NM} : FR j M M := fun _ _ _ _ _ => rfl
theorem FR_tr {j : Int} {M M1 M2 : NM} (h : FR j M M1) (k : FR j M1 M2) : FR j M M2 := fun K j' i s q => (k K j' i s q).trans (h K j' i s q)
theorem FR_wri {j : Int} {M M1 : NM} {K : Nat} {i s v : Int} (hK : stK K) (h : FR j M M1) : FR j M (wri M1 K j i s v) := fun K' j' i' s' q => by
  show (if K' = K ∧ j' = j ∧ i' = i ∧ s' = s then v else M1 K' j' i' s') = _
  rw [if_neg (fun z => q.elim (fun y => y z.2.1) (fun y => y (by rw [z.1]; exact hK)))]
  exact h _ _ _ _ q
theorem FR_bc {j : Int} {M M1 : NM} {f n w : Int} (h : FR j M M1) : FR j M (bcM M1 j f n w) := fun K' j' i' s' q => by
  show (if K' = 13 ∧ j' = j ∧ i' = 0 ∧ f ≤ s' ∧ s' < f + n then w else M1 K' j' i' s') = _
  rw [if_neg (fun z => q.elim (fun y => y z.2.1) (fun y => y (by rw [z.1]; unfold stK; omega)))]
  exact h _ _ _ _ q
theorem FR_sl {j j' : Int} {M M' : NM} (h : FR j M M') (q : j' ≠ j) : sl M' j' = sl M j' := by
  funext K i s; exact h K j' i s (Or.inl q)
theorem FR_K {j : Int} {M M' : NM} {K : Nat} (h : FR j M M') (q : ¬ stK K) : M' K = M K := by
  funext j' i s; exact h K j' i s (Or.inr q)
theorem stK_0 : stK 0 := Or.inl rfl
theorem stK_1 : stK 1 := Or.inr (Or.inl rfl)
theorem stK_3 : stK 3 := Or.inr (Or.inr (Or.inl rfl))
theorem stK_5 : stK 5 := Or.inr (Or.inr (Or.inr (Or.inl rfl)))
theorem stK_6 : stK 6 := Or.inr (Or.inr (Or.inr (Or.inr (Or.inl rfl))))
theorem stK_14 : stK 14 := Or.inr (Or.inr (Or.inr (Or.inr (Or.inr (Or.inr rfl)))))
/-! what an order does, and what it answers -/
def holdS (S : Sl) (f n w : Int) : Sl := st (bec (st (st (st (st (st S 3 (S 5 0 3) 0 0) 3 (S 5 0 3) 1 f) 3 (S 5 0 3) 2 n) 3 (S 5 0 3) 3 (S 5 0 5 + w)) 3 (S 5 0 3) 4 (-9)) f n 1) 5 0 3 (S 5 0 3 + 1)
noncomputable def opHold (S : Sl) (b n w : Int) : Int × Sl := cif (¬ ((0 ≤ b ∧ b < S 1 0 3) ∧ (1 ≤ n ∧ n ≤ 10) ∧ (1 ≤ w ∧ w ≤ 999))) (-1, S) (cif (pl S b n = -9) (-2, S) (cif (S 5 0 3 = 20) (-3, S) (S 5 0 3, holdS S (pl S b n) n w)))
noncomputable def buyS (S : Sl) (h : Int) : Sl :=
  st (st (st (bec (st (st (st (st (st (st S 6 (S 5 0 4) 0 (cif (S 5 0 6 = 0) 0 2)) 6 (S 5 0 4) 1 (S 3 h 1)) 6 (S 5 0 4) 2 (S 3 h 2)) 6 (S 5 0 4) 3 (S 3 h 2 * S 0 (S 3 h 1 / 100) 2)) 6 (S 5 0 4) 4 0) 5 0 7 (S 5 0 7 + S 3 h 2 * S 0 (S 3 h 1 / 100) 2)) (S 3 h 1) (S 3 h 2) (cif (S 5 0 6 = 0) 2 3)) 3 h 0 1) 3 h 4 (S 5 0 4)) 5 0 4 (S 5 0 4 + 1)
noncomputable def opBuy (S : Sl) (h : Int) : Int × Sl := cif (¬ (0 ≤ h ∧ h < S 5 0 3)) (-1, S) (cif (S 3 h 0 ≠ 0) (-2, S) (S 5 0 4, buyS S h))
noncomputable def opDrop (S : Sl) (h : Int) : Int × Sl := cif (¬ (0 ≤ h ∧ h < S 5 0 3)) (-1, S) (cif (S 3 h 0 ≠ 0) (-2, S) (S 3 h 2, bec (st S 3 h 0 2) (S 3 h 1) (S 3 h 2) 0))
noncomputable def opBack (S : Sl) (t : Int) : Int × Sl := cif (¬ (0 ≤ t ∧ t < S 5 0 4)) (-1, S) (cif (S 6 t 0 ≠ 0) (-2, S) (S 6 t 3 * 3 / 4, bec (st (st S 6 t 0 1) 5 0 8 (S 5 0 8 + S 6 t 3 * 3 / 4)) (S 6 t 1) (S 6 t 2) 0))
noncomputable def inS (S : Sl) (t : Int) : Sl := bec (st S 6 t 0 2) (S 6 t 1) (S 6 t 2) 3
noncomputable def opIn (S : Sl) (t : Int) : Int × Sl := cif (¬ (0 ≤ t ∧ t < S 5 0 4)) (-1, S) (cif (S 6 t 0 ≠ 0) (-2, S) (ctA (inS S t) (fun c => inS S t 13 0 c = 3), inS S t))
noncomputable def exN (S : Sl) (m : Int) : Nat → Sl
  | 0 => S
  | h + 1 => cif (S 3 h 0 = 0 ∧ S 3 h 3 ≤ m) (bec (st (exN S m h) 3 h 0 3) (S 3 h 1) (S 3 h 2) 0) (exN S m h)
noncomputable def opPass (S : Sl) (w : Int) : Int × Sl := cif (¬ (1 ≤ w ∧ w ≤ 999)) (-1, S) (cif (9999 < S 5 0 5 + w) (-2, S) (sm (fun h => bi (S 3 h 0 = 0 ∧ S 3 h 3 ≤ S 5 0 5 + w)) (S 5 0 3).toNat, exN (st S 5 0 5 (S 5 0 5 + w)) (S 5 0 5 + w) (S 5 0 3).toNat))
noncomputable def noN (S : Sl) : Nat → Sl
  | 0 => S
  | t + 1 => cif (S 6 t 0 = 0) (bec (st (noN S t) 6 t 0 3) (S 6 t 1) (S 6 t 2) 0) (noN S t)
noncomputable def opClose (S : Sl) : Int × Sl := cif (S 5 0 6 ≠ 0) (-2, S) (sm (fun t => cif (S 6 t 0 = 0) (S 6 t 2) 0) (S 5 0 4).toNat, noN (st S 5 0 6 1) (S 5 0 4).toNat)
def upS (S : Sl) (s : Int) : Sl := st S 1 0 5 (orI (S 1 0 5) (shlI 1 s))
noncomputable def opUp (S : Sl) (s : Int) : Int × Sl := cif (¬ (0 ≤ s ∧ s < S 1 0 4)) (-1, S) (cif (upP S s ∨ ∃ c : Int, 0 ≤ c ∧ c < 600 ∧ andI (S 14 0 c) (shlI 1 s) ≠ 0 ∧ S 13 0 c ≠ 0) (-2, S) (sm (fun c => bi (andI (S 14 0 c) (upS S s 1 0 5) ≠ 0)) 600, upS S s))
def dnS (S : Sl) (s : Int) : Sl := st S 1 0 5 (andI (S 1 0 5) (xorI (shlI 1 s) (-1)))
noncomputable def opDown (S : Sl) (s : Int) : Int × Sl := cif (¬ (0 ≤ s ∧ s < S 1 0 4)) (-1, S) (cif (¬ upP S s) (-2, S) (sm (fun c => bi (andI (S 14 0 c) (dnS S s 1 0 5) ≠ 0)) 600, dnS S s))
def pcI (f t c : Int) : Prop := f ≤ c ∧ c ≤ t ∧ f % 10 ≤ c % 10 ∧ c % 10 ≤ t % 10
noncomputable def pcS (S : Sl) (s f t : Int) : Sl := fun K i c => cif (K = 14 ∧ i = 0 ∧ pcI f t c) (orI (S 14 0 c) (shlI 1 s)) (S K i c)
noncomputable def opPiece (S : Sl) (s f t : Int) : Int × Sl := cif (¬ ((0 ≤ s ∧ s < S 1 0 4) ∧ isPc S f t)) (-1, S) (cif (upP S s) (-2, S) (sm (fun c => bi (andI (pcS S s f t 14 0 c) (shlI 1 s) ≠ 0)) 600, pcS S s f t))
def blkS (S : Sl) (x y z : Int) : Sl := st (st (st (st S 0 (S 1 0 3) 0 x) 0 (S 1 0 3) 1 y) 0 (S 1 0 3) 2 z) 1 0 3 (S 1 0 3 + 1)
noncomputable def opBlock (S : Sl) (x y z : Int) : Int × Sl := cif (¬ ((1 ≤ x ∧ x ≤ 6) ∧ (1 ≤ y ∧ y ≤ 10) ∧ (1 ≤ z ∧ z ≤ 500))) (-1, S) (cif (S 1 0 3 = 6) (-3, S) (S 1 0 3, blkS S x y z))
noncomputable def opStage (S : Sl) : Int × Sl := cif (S 1 0 4 = 4) (-3, S) (S 1 0 4, st S 1 0 4 (S 1 0 4 + 1))
end
section
/-! 12: the reference: what its methods that only look answer -/
section
variable {X : XI}
theorem c_in {M : NM} {v lo hi : Int} : HT X z_X8_in [.inl v, .inl lo, .inl hi] M (fun r M' => r = some (.inl (bi (lo ≤ v ∧ v ≤ hi))) ∧ M' = M) := by
  refine ht_of (e := E_X8_in) rfl (?_ : EvI X E_X8_in (0, [some (.inl v), some (.inl lo), some (.inl hi)], [], M) _)
  refine seg_ok 3 (?_ : EvI X E_X8_in (if v < lo then 14 else 5, [some (.inl v), some (.inl lo), some (.inl hi)], [], M) _)
  refine ev_if (fun h2 => ?_) (fun h2 => ?_)
  · refine seg_ok 1 (?_ : EvI X E_X8_in (15, [some (.inl v), some (.inl lo), some (.inl hi)], [.inl 0], M) _)
    refine ev_rt (r := some (.inl 0)) rfl (⟨by decide, ?_⟩)
    exact ⟨rint (is0 (by omega)), rfl⟩
  · refine seg_ok 3 (?_ : EvI X E_X8_in (if hi < v then 14 else 10, [some (.inl v), some (.inl lo), some (.inl hi)], [], M) _)
    refine ev_if (fun h7 => ?_) (fun h7 => ?_)
    · refine seg_ok 1 (?_ : EvI X E_X8_in (15, [some (.inl v), some (.inl lo), some (.inl hi)], [.inl 0], M) _)
      refine ev_rt (r := some (.inl 0)) rfl (⟨by decide, ?_⟩)
      exact ⟨rint (is0 (by omega)), rfl⟩
    · refine seg_ok 2 (?_ : EvI X E_X8_in (15, [some (.inl v), some (.inl lo), some (.inl hi)], [.inl 1], M) _)
      refine ev_rt (r := some (.inl 1)) rfl (⟨by decide, ?_⟩)
      exact ⟨rint (is1 (by omega)), rfl⟩
theorem c_atChair {M : NM} {c : Int} (h1 : 0 ≤ c ∧ c < 700) : HT X z_X8_atChair [.inl c] M (fun r M' => r = some (.inl (29 + 60 * (c / 100) + c % 100)) ∧ M' = M) := by
  refine ht_of (e := E_X8_atChair) rfl (?_ : EvI X E_X8_atChair (0, [some (.inl c)], [], M) _)
  refine seg_ok 11 (⟨by omega, by omega, by omega, by omega, by omega, ?_⟩ : ((0 : Int) ≤ c ∧ (0 : Int) < 100) ∧ ((-2147483648 : Int) ≤ (60 * (c / 100)) ∧ (60 * (c / 100)) < 2147483648) ∧ ((-2147483648 : Int) ≤ (29 + (60 * (c / 100))) ∧ (29 + (60 * (c / 100))) < 2147483648) ∧ ((0 : Int) ≤ c ∧ (0 : Int) < 100) ∧ ((-2147483648 : Int) ≤ ((29 + (60 * (c / 100))) + (c % 100)) ∧ ((29 + (60 * (c / 100))) + (c % 100)) < 2147483648) ∧ EvI X E_X8_atChair (15, [some (.inl c)], [.inl ((29 + (60 * (c / 100))) + (c % 100))], M) _)
  refine ev_rt (r := some (.inl ((29 + (60 * (c / 100))) + (c % 100)))) rfl (?_)
  exact ⟨rfl, rfl⟩
theorem c_of {m : Int} {M : NM} {S : Sl} (hW : RW m M S) {b w : Int} (h1 : 0 ≤ b ∧ b < 6) (h2 : 0 ≤ w ∧ w < 3) : HT X z_X8_of [.inr (.inr (some (8, 0, 0))), .inl b, .inl w] M (fun r M' => r = some (.inl (S 0 b w)) ∧ M' = M) := by
  have hs := hW.1.1
  have hi := hW.2.1
  unfold Iv0 at hi
  refine ht_of (e := E_X8_of) rfl (?_ : EvI X E_X8_of (0, [some (.inr (.inr (some (8, 0, 0)))), some (.inl b), some (.inl w)], [], M) _)
  refine seg_ok 10 (⟨by omega, by omega, by omega, by omega, ?_⟩ : ((-2147483648 : Int) ≤ (3 * b) ∧ (3 * b) < 2147483648) ∧ ((-2147483648 : Int) ≤ (11 + (3 * b)) ∧ (11 + (3 * b)) < 2147483648) ∧ ((-2147483648 : Int) ≤ ((11 + (3 * b)) + w) ∧ ((11 + (3 * b)) + w) < 2147483648) ∧ ((0 : Int) ≤ ((11 + (3 * b)) + w) ∧ ((11 + (3 * b)) + w) < 589) ∧ EvI X E_X8_of (13, [some (.inr (.inr (some (8, 0, 0)))), some (.inl b), some (.inl w)], [.inl (M 17 0 0 ((11 + (3 * b)) + w))], M) _)
  refine ev_rt (r := some (.inl (M 17 0 0 ((11 + (3 * b)) + w)))) rfl (?_)
  exact ⟨rint (hW.1.2.1 b w h1.1 h1.2 h2.1 h2.2), rfl⟩
theorem c_isBlock {m : Int} {M : NM} {S : Sl} (hW : RW m M S) {b : Int} : HT X z_X8_isBlock [.inr (.inr (some (8, 0, 0))), .inl b] M (fun r M' => r = some (.inl (bi (0 ≤ b ∧ b < S 1 0 3))) ∧ M' = M) := by
  have hs := hW.1.1
  have hi := hW.2.1
  unfold Iv0 at hi
  refine ht_of (e := E_X8_isBlock) rfl (?_ : EvI X E_X8_isBlock (0, [some (.inr (.inr (some (8, 0, 0)))), some (.inl b)], [], M) _)
  refine seg_ok 8 (⟨by omega, by omega, ?_⟩ : ((0 : Int) ≤ 6 ∧ (6 : Int) < 589) ∧ ((-2147483648 : Int) ≤ ((M 17 0 0 6) - 1) ∧ ((M 17 0 0 6) - 1) < 2147483648) ∧ EvI X E_X8_isBlock (11, [some (.inr (.inr (some (8, 0, 0)))), some (.inl b)], [.inl ((M 17 0 0 6) - 1), .inl 0, .inl b], M) _)
  refine ev_clp (v := .inl (bi (0 ≤ b ∧ b ≤ ((M 17 0 0 6) - 1)))) (z := z_X8_in) (as := [.inl b, .inl 0, .inl ((M 17 0 0 6) - 1)]) (rest := []) rfl c_in (?_ : EvI X E_X8_isBlock (14, [some (.inr (.inr (some (8, 0, 0)))), some (.inl b)], [.inl (bi (0 ≤ b ∧ b ≤ ((M 17 0 0 6) - 1)))], M) _)
  refine ev_rt (r := some (.inl (bi (0 ≤ b ∧ b ≤ ((M 17 0 0 6) - 1))))) rfl (⟨bi_01 _, ?_⟩)
  exact ⟨rint (bi_iff (by omega)), rfl⟩
theorem c_isStage {m : Int} {M : NM} {S : Sl} (hW : RW m M S) {b : Int} : HT X z_X8_isStage [.inr (.inr (some (8, 0, 0))), .inl b] M (fun r M' => r = some (.inl (bi (0 ≤ b ∧ b < S 1 0 4))) ∧ M' = M) := by
  have hs := hW.1.1
  have hi := hW.2.1
  unfold Iv0 at hi
  refine ht_of (e := E_X8_isStage) rfl (?_ : EvI X E_X8_isStage (0, [some (.inr (.inr (some (8, 0, 0)))), some (.inl b)], [], M) _)
  refine seg_ok 8 (⟨by omega, by omega, ?_⟩ : ((0 : Int) ≤ 7 ∧ (7 : Int) < 589) ∧ ((-2147483648 : Int) ≤ ((M 17 0 0 7) - 1) ∧ ((M 17 0 0 7) - 1) < 2147483648) ∧ EvI X E_X8_isStage (11, [some (.inr (.inr (some (8, 0, 0)))), some (.inl b)], [.inl ((M 17 0 0 7) - 1), .inl 0, .inl b], M) _)
  refine ev_clp (v := .inl (bi (0 ≤ b ∧ b ≤ ((M 17 0 0 7) - 1)))) (z := z_X8_in) (as := [.inl b, .inl 0, .inl ((M 17 0 0 7) - 1)]) (rest := []) rfl c_in (?_ : EvI X E_X8_isStage (14, [some (.inr (.inr (some (8, 0, 0)))), some (.inl b)], [.inl (bi (0 ≤ b ∧ b ≤ ((M 17 0 0 7) - 1)))], M) _)
  refine ev_rt (r := some (.inl (bi (0 ≤ b ∧ b ≤ ((M 17 0 0 7) - 1))))) rfl (⟨bi_01 _, ?_⟩)
  exact ⟨rint (bi_iff (by omega)), rfl⟩
theorem c_isHold {m : Int} {M : NM} {S : Sl} (hW : RW m M S) {b : Int} : HT X z_X8_isHold [.inr (.inr (some (8, 0, 0))), .inl b] M (fun r M' => r = some (.inl (bi (0 ≤ b ∧ b < S 5 0 3))) ∧ M' = M) := by
  have hs := hW.1.1
  have hi := hW.2.1
  unfold Iv0 at hi
  refine ht_of (e := E_X8_isHold) rfl (?_ : EvI X E_X8_isHold (0, [some (.inr (.inr (some (8, 0, 0)))), some (.inl b)], [], M) _)
  refine seg_ok 8 (⟨by omega, by omega, ?_⟩ : ((0 : Int) ≤ 8 ∧ (8 : Int) < 589) ∧ ((-2147483648 : Int) ≤ ((M 17 0 0 8) - 1) ∧ ((M 17 0 0 8) - 1) < 2147483648) ∧ EvI X E_X8_isHold (11, [some (.inr (.inr (some (8, 0, 0)))), some (.inl b)], [.inl ((M 17 0 0 8) - 1), .inl 0, .inl b], M) _)
  refine ev_clp (v := .inl (bi (0 ≤ b ∧ b ≤ ((M 17 0 0 8) - 1)))) (z := z_X8_in) (as := [.inl b, .inl 0, .inl ((M 17 0 0 8) - 1)]) (rest := []) rfl c_in (?_ : EvI X E_X8_isHold (14, [some (.inr (.inr (some (8, 0, 0)))), some (.inl b)], [.inl (bi (0 ≤ b ∧ b ≤ ((M 17 0 0 8) - 1)))], M) _)
  refine ev_rt (r := some (.inl (bi (0 ≤ b ∧ b ≤ ((M 17 0 0 8) - 1))))) rfl (⟨bi_01 _, ?_⟩)
  exact ⟨rint (bi_iff (by omega)), rfl⟩
theorem c_isTicket {m : Int} {M : NM} {S : Sl} (hW : RW m M S) {b : Int} : HT X z_X8_isTicket [.inr (.inr (some (8, 0, 0))), .inl b] M (fun r M' => r = some (.inl (bi (0 ≤ b ∧ b < S 5 0 4))) ∧ M' = M) := by
  have hs := hW.1.1
  have hi := hW.2.1
  unfold Iv0 at hi
  refine ht_of (e := E_X8_isTicket) rfl (?_ : EvI X E_X8_isTicket (0, [some (.inr (.inr (some (8, 0, 0)))), some (.inl b)], [], M) _)
  refine seg_ok 8 (⟨by omega, by omega, ?_⟩ : ((0 : Int) ≤ 9 ∧ (9 : Int) < 589) ∧ ((-2147483648 : Int) ≤ ((M 17 0 0 9) - 1) ∧ ((M 17 0 0 9) - 1) < 2147483648) ∧ EvI X E_X8_isTicket (11, [some (.inr (.inr (some (8, 0, 0)))), some (.inl b)], [.inl ((M 17 0 0 9) - 1), .inl 0, .inl b], M) _)
  refine ev_clp (v := .inl (bi (0 ≤ b ∧ b ≤ ((M 17 0 0 9) - 1)))) (z := z_X8_in) (as := [.inl b, .inl 0, .inl ((M 17 0 0 9) - 1)]) (rest := []) rfl c_in (?_ : EvI X E_X8_isTicket (14, [some (.inr (.inr (some (8, 0, 0)))), some (.inl b)], [.inl (bi (0 ≤ b ∧ b ≤ ((M 17 0 0 9) - 1)))], M) _)
  refine ev_rt (r := some (.inl (bi (0 ≤ b ∧ b ≤ ((M 17 0 0 9) - 1))))) rfl (⟨bi_01 _, ?_⟩)
  exact ⟨rint (bi_iff (by omega)), rfl⟩
theorem c_ofHold {m : Int} {M : NM} {S : Sl} (hW : RW m M S) {b w : Int} (h1 : 0 ≤ b ∧ b < 20) (h2 : 0 ≤ w ∧ w < 5) : HT X z_X8_ofHold [.inr (.inr (some (8, 0, 0))), .inl b, .inl w] M (fun r M' => r = some (.inl (S 3 b w)) ∧ M' = M) := by
  have hs := hW.1.1
  have hi := hW.2.1
  unfold Iv0 at hi
  refine ht_of (e := E_X8_ofHold) rfl (?_ : EvI X E_X8_ofHold (0, [some (.inr (.inr (some (8, 0, 0)))), some (.inl b), some (.inl w)], [], M) _)
  refine seg_ok 10 (⟨by omega, by omega, by omega, by omega, ?_⟩ : ((-2147483648 : Int) ≤ (5 * b) ∧ (5 * b) < 2147483648) ∧ ((-2147483648 : Int) ≤ (389 + (5 * b)) ∧ (389 + (5 * b)) < 2147483648) ∧ ((-2147483648 : Int) ≤ ((389 + (5 * b)) + w) ∧ ((389 + (5 * b)) + w) < 2147483648) ∧ ((0 : Int) ≤ ((389 + (5 * b)) + w) ∧ ((389 + (5 * b)) + w) < 589) ∧ EvI X E_X8_ofHold (14, [some (.inr (.inr (some (8, 0, 0)))), some (.inl b), some (.inl w)], [.inl (M 17 0 0 ((389 + (5 * b)) + w))], M) _)
  refine ev_rt (r := some (.inl (M 17 0 0 ((389 + (5 * b)) + w)))) rfl (?_)
  exact ⟨rint (hW.1.2.2.2.1 b w h1.1 h1.2 h2.1 h2.2), rfl⟩
theorem c_ofTicket {m : Int} {M : NM} {S : Sl} (hW : RW m M S) {b w : Int} (h1 : 0 ≤ b ∧ b < 20) (h2 : 0 ≤ w ∧ w < 5) : HT X z_X8_ofTicket [.inr (.inr (some (8, 0, 0))), .inl b, .inl w] M (fun r M' => r = some (.inl (S 6 b w)) ∧ M' = M) := by
  have hs := hW.1.1
  have hi := hW.2.1
  unfold Iv0 at hi
  refine ht_of (e := E_X8_ofTicket) rfl (?_ : EvI X E_X8_ofTicket (0, [some (.inr (.inr (some (8, 0, 0)))), some (.inl b), some (.inl w)], [], M) _)
  refine seg_ok 10 (⟨by omega, by omega, by omega, by omega, ?_⟩ : ((-2147483648 : Int) ≤ (5 * b) ∧ (5 * b) < 2147483648) ∧ ((-2147483648 : Int) ≤ (489 + (5 * b)) ∧ (489 + (5 * b)) < 2147483648) ∧ ((-2147483648 : Int) ≤ ((489 + (5 * b)) + w) ∧ ((489 + (5 * b)) + w) < 2147483648) ∧ ((0 : Int) ≤ ((489 + (5 * b)) + w) ∧ ((489 + (5 * b)) + w) < 589) ∧ EvI X E_X8_ofTicket (14, [some (.inr (.inr (some (8, 0, 0)))), some (.inl b), some (.inl w)], [.inl (M 17 0 0 ((489 + (5 * b)) + w))], M) _)
  refine ev_rt (r := some (.inl (M 17 0 0 ((489 + (5 * b)) + w)))) rfl (?_)
  exact ⟨rint (hW.1.2.2.2.2 b w h1.1 h1.2 h2.1 h2.2), rfl⟩
theorem c_isUp {m : Int} {M : NM} {S : Sl} (hW : RW m M S) {b : Int} : HT X z_X8_isUp [.inr (.inr (some (8, 0, 0))), .inl b] M (fun r M' => r = some (.inl (bi (upP S b))) ∧ M' = M) := by
  have e10 : M 17 0 0 10 = S 1 0 5 := hW.1.1.2.2.2.2.2.2.2.2.2.2
  refine ht_of (e := E_X8_isUp) rfl (?_ : EvI X E_X8_isUp (0, [some (.inr (.inr (some (8, 0, 0)))), some (.inl b)], [], M) _)
  refine seg_ok 10 (⟨by omega, ?_⟩ : ((0 : Int) ≤ 10 ∧ (10 : Int) < 589) ∧ EvI X E_X8_isUp (if (andI (shrI (M 17 0 0 10) b) 1) = 1 then 15 else 19, [some (.inr (.inr (some (8, 0, 0)))), some (.inl b)], [], M) _)
  refine ev_if (fun h12 => ?_) (fun h12 => ?_)
  · refine seg_ok 2 (?_ : EvI X E_X8_isUp (20, [some (.inr (.inr (some (8, 0, 0)))), some (.inl b)], [.inl 1], M) _)
    refine ev_rt (r := some (.inl 1)) rfl (⟨by decide, ?_⟩)
    exact ⟨rint (is1 (by rw [e10] at h12; exact h12)), rfl⟩
  · refine seg_ok 1 (?_ : EvI X E_X8_isUp (20, [some (.inr (.inr (some (8, 0, 0)))), some (.inl b)], [.inl 0], M) _)
    refine ev_rt (r := some (.inl 0)) rfl (⟨by decide, ?_⟩)
    exact ⟨rint (is0 (by rw [e10] at h12; exact h12)), rfl⟩
theorem c_isChair {m : Int} {M : NM} {S : Sl} (hW : RW m M S) {c : Int} : HT X z_X8_isChair [.inr (.inr (some (8, 0, 0))), .inl c] M (fun r M' => r = some (.inl (bi (isCh S c))) ∧ M' = M) := by
  have hs := hW.1.1
  have hi := hW.2.1
  unfold Iv0 at hi
  refine ht_of (e := E_X8_isChair) rfl (?_ : EvI X E_X8_isChair (0, [some (.inr (.inr (some (8, 0, 0)))), some (.inl c)], [], M) _)
  refine seg_ok 2 (?_ : EvI X E_X8_isChair (if c < 0 then 54 else 4, [some (.inr (.inr (some (8, 0, 0)))), some (.inl c)], [], M) _)
  refine ev_if (fun h1 => ?_) (fun h1 => ?_)
  · refine seg_ok 1 (?_ : EvI X E_X8_isChair (55, [some (.inr (.inr (some (8, 0, 0)))), some (.inl c)], [.inl 0], M) _)
    refine ev_rt (r := some (.inl 0)) rfl (⟨by decide, ?_⟩)
    exact ⟨rint (is0 (by unfold isCh; omega)), rfl⟩
  · refine seg_ok 4 (⟨by omega, ?_⟩ : ((0 : Int) ≤ c ∧ (0 : Int) < 100) ∧ EvI X E_X8_isChair (9, [some (.inr (.inr (some (8, 0, 0)))), some (.inl c)], [.inl (c / 100), .inr (.inr (some (8, 0, 0)))], M) _)
    refine ev_clp (v := .inl (bi (0 ≤ (c / 100) ∧ (c / 100) < S 1 0 3))) (z := z_X8_isBlock) (as := [.inr (.inr (some (8, 0, 0))), .inl (c / 100)]) (rest := []) rfl (c_isBlock hW) (?_ : EvI X E_X8_isChair (12, [some (.inr (.inr (some (8, 0, 0)))), some (.inl c)], [.inl (bi (0 ≤ (c / 100) ∧ (c / 100) < S 1 0 3))], M) _)
    refine seg_ok 1 (?_ : EvI X E_X8_isChair (if (bi (0 ≤ (c / 100) ∧ (c / 100) < S 1 0 3)) = 0 then 54 else 15, [some (.inr (.inr (some (8, 0, 0)))), some (.inl c)], [], M) _)
    refine ev_ifb (fun h12 => ?_) (fun h12 => ?_)
    · refine seg_ok 1 (?_ : EvI X E_X8_isChair (55, [some (.inr (.inr (some (8, 0, 0)))), some (.inl c)], [.inl 0], M) _)
      refine ev_rt (r := some (.inl 0)) rfl (⟨by decide, ?_⟩)
      exact ⟨rint (is0 (by unfold isCh; omega)), rfl⟩
    · refine seg_ok 10 (⟨by omega, by omega, by omega, ?_⟩ : ((0 : Int) ≤ c ∧ (0 : Int) < 10) ∧ ((0 : Int) ≤ (c / 10) ∧ (0 : Int) < 10) ∧ ((0 : Int) ≤ c ∧ (0 : Int) < 100) ∧ EvI X E_X8_isChair (28, [some (.inr (.inr (some (8, 0, 0)))), some (.inl c)], [.inl 0, .inl (c / 100), .inr (.inr (some (8, 0, 0))), .inl ((c / 10) % 10)], M) _)
      refine ev_clp (v := .inl (S 0 (c / 100) 0)) (z := z_X8_of) (as := [.inr (.inr (some (8, 0, 0))), .inl (c / 100), .inl 0]) (rest := [.inl ((c / 10) % 10)]) rfl (c_of hW (by omega) (by omega)) (?_ : EvI X E_X8_isChair (31, [some (.inr (.inr (some (8, 0, 0)))), some (.inl c)], [.inl (S 0 (c / 100) 0), .inl ((c / 10) % 10)], M) _)
      refine seg_ok 1 (?_ : EvI X E_X8_isChair (if ((c / 10) % 10) < (S 0 (c / 100) 0) then 34 else 54, [some (.inr (.inr (some (8, 0, 0)))), some (.inl c)], [], M) _)
      refine ev_if (fun h31 => ?_) (fun h31 => ?_)
      · refine seg_ok 8 (⟨by omega, by omega, ?_⟩ : ((0 : Int) ≤ c ∧ (0 : Int) < 10) ∧ ((0 : Int) ≤ c ∧ (0 : Int) < 100) ∧ EvI X E_X8_isChair (44, [some (.inr (.inr (some (8, 0, 0)))), some (.inl c)], [.inl 1, .inl (c / 100), .inr (.inr (some (8, 0, 0))), .inl (c % 10)], M) _)
        refine ev_clp (v := .inl (S 0 (c / 100) 1)) (z := z_X8_of) (as := [.inr (.inr (some (8, 0, 0))), .inl (c / 100), .inl 1]) (rest := [.inl (c % 10)]) rfl (c_of hW (by omega) (by omega)) (?_ : EvI X E_X8_isChair (47, [some (.inr (.inr (some (8, 0, 0)))), some (.inl c)], [.inl (S 0 (c / 100) 1), .inl (c % 10)], M) _)
        refine seg_ok 1 (?_ : EvI X E_X8_isChair (if (c % 10) < (S 0 (c / 100) 1) then 50 else 54, [some (.inr (.inr (some (8, 0, 0)))), some (.inl c)], [], M) _)
        refine ev_if (fun h47 => ?_) (fun h47 => ?_)
        · refine seg_ok 2 (?_ : EvI X E_X8_isChair (55, [some (.inr (.inr (some (8, 0, 0)))), some (.inl c)], [.inl 1], M) _)
          refine ev_rt (r := some (.inl 1)) rfl (⟨by decide, ?_⟩)
          exact ⟨rint (is1 (by unfold isCh; omega)), rfl⟩
        · refine seg_ok 1 (?_ : EvI X E_X8_isChair (55, [some (.inr (.inr (some (8, 0, 0)))), some (.inl c)], [.inl 0], M) _)
          refine ev_rt (r := some (.inl 0)) rfl (⟨by decide, ?_⟩)
          exact ⟨rint (is0 (by unfold isCh; omega)), rfl⟩
      · refine seg_ok 1 (?_ : EvI X E_X8_isChair (55, [some (.inr (.inr (some (8, 0, 0)))), some (.inl c)], [.inl 0], M) _)
        refine ev_rt (r := some (.inl 0)) rfl (⟨by decide, ?_⟩)
        exact ⟨rint (is0 (by unfold isCh; omega)), rfl⟩
theorem c_isWhat {m : Int} {M : NM} {S : Sl} (hW : RW m M S) {c : Int} (h : 0 ≤ c ∧ c < 600 ∧ c % 100 < 60) : HT X z_X8_isWhat [.inr (.inr (some (8, 0, 0))), .inl c] M (fun r M' => r = some (.inl (S 13 0 c)) ∧ M' = M) := by
  have q := chR hW h
  refine ht_of (e := E_X8_isWhat) rfl (?_ : EvI X E_X8_isWhat (0, [some (.inr (.inr (some (8, 0, 0)))), some (.inl c)], [], M) _)
  refine seg_ok 3 (?_ : EvI X E_X8_isWhat (5, [some (.inr (.inr (some (8, 0, 0)))), some (.inl c)], [.inl c, .inr (.inr (some (17, 0, 0)))], M) _)
  refine ev_clp (v := .inl (29 + 60 * (c / 100) + c % 100)) (z := z_X8_atChair) (as := [.inl c]) (rest := [.inr (.inr (some (17, 0, 0)))]) rfl (c_atChair (by omega)) (?_ : EvI X E_X8_isWhat (8, [some (.inr (.inr (some (8, 0, 0)))), some (.inl c)], [.inl (29 + 60 * (c / 100) + c % 100), .inr (.inr (some (17, 0, 0)))], M) _)
  refine seg_ok 3 (⟨by omega, ?_⟩ : ((0 : Int) ≤ (29 + 60 * (c / 100) + c % 100) ∧ (29 + 60 * (c / 100) + c % 100) < 589) ∧ EvI X E_X8_isWhat (11, [some (.inr (.inr (some (8, 0, 0)))), some (.inl c)], [.inl (andI (M 17 0 0 (29 + 60 * (c / 100) + c % 100)) 3)], M) _)
  refine ev_rt (r := some (.inl (andI (M 17 0 0 (29 + 60 * (c / 100) + c % 100)) 3))) rfl (?_)
  exact ⟨rint (by rw [q.1, b_and3 q.2.1 q.2.2]), rfl⟩
theorem c_isKilled {m : Int} {M : NM} {S : Sl} (hW : RW m M S) {c : Int} (h : 0 ≤ c ∧ c < 600 ∧ c % 100 < 60) : HT X z_X8_isKilled [.inr (.inr (some (8, 0, 0))), .inl c] M (fun r M' => r = some (.inl (bi (kl S c))) ∧ M' = M) := by
  have q := chR hW h
  have e10 : M 17 0 0 10 = S 1 0 5 := hW.1.1.2.2.2.2.2.2.2.2.2.2
  refine ht_of (e := E_X8_isKilled) rfl (?_ : EvI X E_X8_isKilled (0, [some (.inr (.inr (some (8, 0, 0)))), some (.inl c)], [], M) _)
  refine seg_ok 3 (?_ : EvI X E_X8_isKilled (5, [some (.inr (.inr (some (8, 0, 0)))), some (.inl c)], [.inl c, .inr (.inr (some (17, 0, 0)))], M) _)
  refine ev_clp (v := .inl (29 + 60 * (c / 100) + c % 100)) (z := z_X8_atChair) (as := [.inl c]) (rest := [.inr (.inr (some (17, 0, 0)))]) rfl (c_atChair (by omega)) (?_ : EvI X E_X8_isKilled (8, [some (.inr (.inr (some (8, 0, 0)))), some (.inl c)], [.inl (29 + 60 * (c / 100) + c % 100), .inr (.inr (some (17, 0, 0)))], M) _)
  refine seg_ok 9 (⟨by omega, by omega, ?_⟩ : ((0 : Int) ≤ (29 + 60 * (c / 100) + c % 100) ∧ (29 + 60 * (c / 100) + c % 100) < 589) ∧ ((0 : Int) ≤ 10 ∧ (10 : Int) < 589) ∧ EvI X E_X8_isKilled (if (andI (shrI (M 17 0 0 (29 + 60 * (c / 100) + c % 100)) 2) (M 17 0 0 10)) = 0 then 26 else 22, [some (.inr (.inr (some (8, 0, 0)))), some (.inl c)], [], M) _)
  refine ev_if (fun h19 => ?_) (fun h19 => ?_)
  · refine seg_ok 1 (?_ : EvI X E_X8_isKilled (27, [some (.inr (.inr (some (8, 0, 0)))), some (.inl c)], [.inl 0], M) _)
    refine ev_rt (r := some (.inl 0)) rfl (⟨by decide, ?_⟩)
    exact ⟨rint (is0 (by rw [q.1, b_shr2 q.2.1 q.2.2, e10] at h19; exact fun z => z h19)), rfl⟩
  · refine seg_ok 2 (?_ : EvI X E_X8_isKilled (27, [some (.inr (.inr (some (8, 0, 0)))), some (.inl c)], [.inl 1], M) _)
    refine ev_rt (r := some (.inl 1)) rfl (⟨by decide, ?_⟩)
    exact ⟨rint (is1 (by rw [q.1, b_shr2 q.2.1 q.2.2, e10] at h19; exact h19)), rfl⟩
theorem c_isFor {m : Int} {M : NM} {S : Sl} (hW : RW m M S) {g c : Int} (hg : 0 ≤ g ∧ g < 4) (h : 0 ≤ c ∧ c < 600 ∧ c % 100 < 60) : HT X z_X8_isFor [.inr (.inr (some (8, 0, 0))), .inl g, .inl c] M (fun r M' => r = some (.inl (bi (fo S g c))) ∧ M' = M) := by
  have q := chR hW h
  refine ht_of (e := E_X8_isFor) rfl (?_ : EvI X E_X8_isFor (0, [some (.inr (.inr (some (8, 0, 0)))), some (.inl g), some (.inl c)], [], M) _)
  refine seg_ok 3 (?_ : EvI X E_X8_isFor (5, [some (.inr (.inr (some (8, 0, 0)))), some (.inl g), some (.inl c)], [.inl c, .inr (.inr (some (17, 0, 0)))], M) _)
  refine ev_clp (v := .inl (29 + 60 * (c / 100) + c % 100)) (z := z_X8_atChair) (as := [.inl c]) (rest := [.inr (.inr (some (17, 0, 0)))]) rfl (c_atChair (by omega)) (?_ : EvI X E_X8_isFor (8, [some (.inr (.inr (some (8, 0, 0)))), some (.inl g), some (.inl c)], [.inl (29 + 60 * (c / 100) + c % 100), .inr (.inr (some (17, 0, 0)))], M) _)
  refine seg_ok 9 (⟨by omega, by omega, ?_⟩ : ((0 : Int) ≤ (29 + 60 * (c / 100) + c % 100) ∧ (29 + 60 * (c / 100) + c % 100) < 589) ∧ ((-2147483648 : Int) ≤ (2 + g) ∧ (2 + g) < 2147483648) ∧ EvI X E_X8_isFor (if (andI (shrI (M 17 0 0 (29 + 60 * (c / 100) + c % 100)) (2 + g)) 1) = 1 then 19 else 23, [some (.inr (.inr (some (8, 0, 0)))), some (.inl g), some (.inl c)], [], M) _)
  refine ev_if (fun h16 => ?_) (fun h16 => ?_)
  · refine seg_ok 2 (?_ : EvI X E_X8_isFor (24, [some (.inr (.inr (some (8, 0, 0)))), some (.inl g), some (.inl c)], [.inl 1], M) _)
    refine ev_rt (r := some (.inl 1)) rfl (⟨by decide, ?_⟩)
    exact ⟨rint (is1 (by rw [q.1, b_shrs q.2.1 q.2.2 hg] at h16; exact h16)), rfl⟩
  · refine seg_ok 1 (?_ : EvI X E_X8_isFor (24, [some (.inr (.inr (some (8, 0, 0)))), some (.inl g), some (.inl c)], [.inl 0], M) _)
    refine ev_rt (r := some (.inl 0)) rfl (⟨by decide, ?_⟩)
    exact ⟨rint (is0 (by rw [q.1, b_shrs q.2.1 q.2.2 hg] at h16; exact h16)), rfl⟩
theorem c_isOpen {m : Int} {M : NM} {S : Sl} (hW : RW m M S) {row c : Int} (h1 : 0 ≤ row ∧ row < 600) : HT X z_X8_isOpen [.inr (.inr (some (8, 0, 0))), .inl row, .inl c] M (fun r M' => r = some (.inl (bi (opn S row c))) ∧ M' = M) := by
  have hs := hW.1.1
  have hi := hW.2.1
  unfold Iv0 at hi
  refine ht_of (e := E_X8_isOpen) rfl (?_ : EvI X E_X8_isOpen (0, [some (.inr (.inr (some (8, 0, 0)))), some (.inl row), some (.inl c)], [], M) _)
  refine seg_ok 3 (?_ : EvI X E_X8_isOpen (4, [some (.inr (.inr (some (8, 0, 0)))), some (.inl row), some (.inl c)], [.inl 9, .inl 0, .inl c], M) _)
  refine ev_clp (v := .inl (bi (0 ≤ c ∧ c ≤ 9))) (z := z_X8_in) (as := [.inl c, .inl 0, .inl 9]) (rest := []) rfl c_in (?_ : EvI X E_X8_isOpen (7, [some (.inr (.inr (some (8, 0, 0)))), some (.inl row), some (.inl c)], [.inl (bi (0 ≤ c ∧ c ≤ 9))], M) _)
  refine seg_ok 1 (?_ : EvI X E_X8_isOpen (if (bi (0 ≤ c ∧ c ≤ 9)) = 0 then 44 else 10, [some (.inr (.inr (some (8, 0, 0)))), some (.inl row), some (.inl c)], [], M) _)
  refine ev_ifb (fun h7 => ?_) (fun h7 => ?_)
  · refine seg_ok 1 (?_ : EvI X E_X8_isOpen (45, [some (.inr (.inr (some (8, 0, 0)))), some (.inl row), some (.inl c)], [.inl 0], M) _)
    refine ev_rt (r := some (.inl 0)) rfl (⟨by decide, ?_⟩)
    exact ⟨rint (is0 (fun z => by first | exact h7 z.1 | exact h17 z.2.1 | exact h27 z.2.2.1 | exact z.2.2.2 h37)), rfl⟩
  · refine seg_ok 4 (⟨by omega, ?_⟩ : ((-2147483648 : Int) ≤ (row + c) ∧ (row + c) < 2147483648) ∧ EvI X E_X8_isOpen (14, [some (.inr (.inr (some (8, 0, 0)))), some (.inl row), some (.inl c)], [.inl (row + c), .inr (.inr (some (8, 0, 0)))], M) _)
    refine ev_clp (v := .inl (bi (isCh S (row + c)))) (z := z_X8_isChair) (as := [.inr (.inr (some (8, 0, 0))), .inl (row + c)]) (rest := []) rfl (c_isChair hW) (?_ : EvI X E_X8_isOpen (17, [some (.inr (.inr (some (8, 0, 0)))), some (.inl row), some (.inl c)], [.inl (bi (isCh S (row + c)))], M) _)
    refine seg_ok 1 (?_ : EvI X E_X8_isOpen (if (bi (isCh S (row + c))) = 0 then 44 else 20, [some (.inr (.inr (some (8, 0, 0)))), some (.inl row), some (.inl c)], [], M) _)
    refine ev_ifb (fun h17 => ?_) (fun h17 => ?_)
    · refine seg_ok 1 (?_ : EvI X E_X8_isOpen (45, [some (.inr (.inr (some (8, 0, 0)))), some (.inl row), some (.inl c)], [.inl 0], M) _)
      refine ev_rt (r := some (.inl 0)) rfl (⟨by decide, ?_⟩)
      exact ⟨rint (is0 (fun z => by first | exact h7 z.1 | exact h17 z.2.1 | exact h27 z.2.2.1 | exact z.2.2.2 h37)), rfl⟩
    · refine seg_ok 4 (⟨by omega, ?_⟩ : ((-2147483648 : Int) ≤ (row + c) ∧ (row + c) < 2147483648) ∧ EvI X E_X8_isOpen (24, [some (.inr (.inr (some (8, 0, 0)))), some (.inl row), some (.inl c)], [.inl (row + c), .inr (.inr (some (8, 0, 0)))], M) _)
      refine ev_clp (v := .inl (S 13 0 (row + c))) (z := z_X8_isWhat) (as := [.inr (.inr (some (8, 0, 0))), .inl (row + c)]) (rest := []) rfl (c_isWhat hW (isCh_r hW.2 h17)) (?_ : EvI X E_X8_isOpen (27, [some (.inr (.inr (some (8, 0, 0)))), some (.inl row), some (.inl c)], [.inl (S 13 0 (row + c))], M) _)
      refine seg_ok 1 (?_ : EvI X E_X8_isOpen (if (S 13 0 (row + c)) = 0 then 30 else 44, [some (.inr (.inr (some (8, 0, 0)))), some (.inl row), some (.inl c)], [], M) _)
      refine ev_if (fun h27 => ?_) (fun h27 => ?_)
      · refine seg_ok 4 (⟨by omega, ?_⟩ : ((-2147483648 : Int) ≤ (row + c) ∧ (row + c) < 2147483648) ∧ EvI X E_X8_isOpen (34, [some (.inr (.inr (some (8, 0, 0)))), some (.inl row), some (.inl c)], [.inl (row + c), .inr (.inr (some (8, 0, 0)))], M) _)
        refine ev_clp (v := .inl (bi (kl S (row + c)))) (z := z_X8_isKilled) (as := [.inr (.inr (some (8, 0, 0))), .inl (row + c)]) (rest := []) rfl (c_isKilled hW (isCh_r hW.2 h17)) (?_ : EvI X E_X8_isOpen (37, [some (.inr (.inr (some (8, 0, 0)))), some (.inl row), some (.inl c)], [.inl (bi (kl S (row + c)))], M) _)
        refine seg_ok 1 (?_ : EvI X E_X8_isOpen (if (bi (kl S (row + c))) = 0 then 40 else 44, [some (.inr (.inr (some (8, 0, 0)))), some (.inl row), some (.inl c)], [], M) _)
        refine ev_ifb (fun h37 => ?_) (fun h37 => ?_)
        · refine seg_ok 2 (?_ : EvI X E_X8_isOpen (45, [some (.inr (.inr (some (8, 0, 0)))), some (.inl row), some (.inl c)], [.inl 1], M) _)
          refine ev_rt (r := some (.inl 1)) rfl (⟨by decide, ?_⟩)
          exact ⟨rint (is1 ⟨h7, h17, h27, h37⟩), rfl⟩
        · refine seg_ok 1 (?_ : EvI X E_X8_isOpen (45, [some (.inr (.inr (some (8, 0, 0)))), some (.inl row), some (.inl c)], [.inl 0], M) _)
          refine ev_rt (r := some (.inl 0)) rfl (⟨by decide, ?_⟩)
          exact ⟨rint (is0 (fun z => by first | exact h7 z.1 | exact h17 z.2.1 | exact h27 z.2.2.1 | exact z.2.2.2 h37)), rfl⟩
      · refine seg_ok 1 (?_ : EvI X E_X8_isOpen (45, [some (.inr (.inr (some (8, 0, 0)))), some (.inl row), some (.inl c)], [.inl 0], M) _)
        refine ev_rt (r := some (.inl 0)) rfl (⟨by decide, ?_⟩)
        exact ⟨rint (is0 (fun z => by first | exact h7 z.1 | exact h17 z.2.1 | exact h27 z.2.2.1 | exact z.2.2.2 h37)), rfl⟩
theorem are_succ {S : Sl} {row c k : Int} (h : 0 ≤ k) : are S row c (k + 1) ↔ are S row c k ∧ opn S row (c + k) := by
  constructor
  · intro q
    exact ⟨fun i a b => q i a (by omega), q k h (by omega)⟩
  · rintro ⟨q1, q2⟩ i a b
    by_cases z : i = k
    · rw [z]; exact q2
    · exact q1 i a (by omega)
theorem are_0 {S : Sl} {row c : Int} : are S row c 0 := fun i a b => by omega
theorem c_areOpen {m : Int} {M : NM} {S : Sl} (hW : RW m M S) {row c n : Int} (h1 : 0 ≤ row ∧ row < 600) (h2 : 0 ≤ c ∧ c ≤ 10) (h3 : 0 ≤ n ∧ n ≤ 10) : HT X z_X8_areOpen [.inr (.inr (some (8, 0, 0))), .inl row, .inl c, .inl n] M (fun r M' => r = some (.inl (bi (are S row c n))) ∧ M' = M) := by
  have hs := hW.1.1
  have hi := hW.2.1
  unfold Iv0 at hi
  refine ht_of (e := E_X8_areOpen) rfl (?_ : EvI X E_X8_areOpen (0, [some (.inr (.inr (some (8, 0, 0)))), some (.inl row), some (.inl c), some (.inl n), none, none], [], M) _)
  refine seg_ok 4 (?_ : EvI X E_X8_areOpen (6, [some (.inr (.inr (some (8, 0, 0)))), some (.inl row), some (.inl c), some (.inl n), some (.inl 1), some (.inl 0)], [], M) _)
  have L6 : ∀ (m6 : Nat) (v k : Int), n - k < (m6 : Int) → (0 ≤ k) → (k ≤ n) → (v = bi (are S row c k)) → EvI X E_X8_areOpen (6, [some (.inr (.inr (some (8, 0, 0)))), some (.inl row), some (.inl c), some (.inl n), some (.inl v), some (.inl k)], [], M) (fun r M' => r = some (.inl (bi (are S row c n))) ∧ M' = M) := by
    intro m6
    induction m6 with
    | zero => intro v k hm6 q1 q2 q3; exact absurd hm6 (by omega)
    | succ m6 ih6 =>
      intro v k hm6 q1 q2 q3
      subst q3
      refine seg_ok 3 (?_ : EvI X E_X8_areOpen (if k < n then 12 else 42, [some (.inr (.inr (some (8, 0, 0)))), some (.inl row), some (.inl c), some (.inl n), some (.inl (bi (are S row c k))), some (.inl k)], [], M) _)
      refine ev_if (fun h9 => ?_) (fun h9 => ?_)
      · refine seg_ok 2 (?_ : EvI X E_X8_areOpen (if (bi (are S row c k)) = 0 then 33 else 17, [some (.inr (.inr (some (8, 0, 0)))), some (.inl row), some (.inl c), some (.inl n), some (.inl (bi (are S row c k))), some (.inl k)], [], M) _)
        refine ev_ifb (fun h14 => ?_) (fun h14 => ?_)
        · refine seg_ok 4 (⟨by omega, ?_⟩ : ((-2147483648 : Int) ≤ (k + 1) ∧ (k + 1) < 2147483648) ∧ EvI X E_X8_areOpen (6, [some (.inr (.inr (some (8, 0, 0)))), some (.inl row), some (.inl c), some (.inl n), some (.inl 0), some (.inl (k + 1))], [], M) _)
          refine ih6 0 (k + 1) (by omega) (by omega) (by omega) (is0 (fun z => h14 ((are_succ q1).mp z).1))
        · refine seg_ok 5 (⟨by omega, ?_⟩ : ((-2147483648 : Int) ≤ (c + k) ∧ (c + k) < 2147483648) ∧ EvI X E_X8_areOpen (23, [some (.inr (.inr (some (8, 0, 0)))), some (.inl row), some (.inl c), some (.inl n), some (.inl (bi (are S row c k))), some (.inl k)], [.inl (c + k), .inl row, .inr (.inr (some (8, 0, 0)))], M) _)
          refine ev_clp (v := .inl (bi (opn S row (c + k)))) (z := z_X8_isOpen) (as := [.inr (.inr (some (8, 0, 0))), .inl row, .inl (c + k)]) (rest := []) rfl (c_isOpen hW (by omega)) (?_ : EvI X E_X8_areOpen (26, [some (.inr (.inr (some (8, 0, 0)))), some (.inl row), some (.inl c), some (.inl n), some (.inl (bi (are S row c k))), some (.inl k)], [.inl (bi (opn S row (c + k)))], M) _)
          refine seg_ok 1 (?_ : EvI X E_X8_areOpen (if (bi (opn S row (c + k))) = 0 then 33 else 29, [some (.inr (.inr (some (8, 0, 0)))), some (.inl row), some (.inl c), some (.inl n), some (.inl (bi (are S row c k))), some (.inl k)], [], M) _)
          refine ev_ifb (fun h26 => ?_) (fun h26 => ?_)
          · refine seg_ok 4 (⟨by omega, ?_⟩ : ((-2147483648 : Int) ≤ (k + 1) ∧ (k + 1) < 2147483648) ∧ EvI X E_X8_areOpen (6, [some (.inr (.inr (some (8, 0, 0)))), some (.inl row), some (.inl c), some (.inl n), some (.inl 0), some (.inl (k + 1))], [], M) _)
            refine ih6 0 (k + 1) (by omega) (by omega) (by omega) (is0 (fun z => h26 ((are_succ q1).mp z).2))
          · refine seg_ok 5 (⟨by omega, ?_⟩ : ((-2147483648 : Int) ≤ (k + 1) ∧ (k + 1) < 2147483648) ∧ EvI X E_X8_areOpen (6, [some (.inr (.inr (some (8, 0, 0)))), some (.inl row), some (.inl c), some (.inl n), some (.inl 1), some (.inl (k + 1))], [], M) _)
            refine ih6 1 (k + 1) (by omega) (by omega) (by omega) (is1 ((are_succ q1).mpr ⟨h14, h26⟩))
      · refine seg_ok 1 (?_ : EvI X E_X8_areOpen (44, [some (.inr (.inr (some (8, 0, 0)))), some (.inl row), some (.inl c), some (.inl n), some (.inl (bi (are S row c k))), some (.inl k)], [.inl (bi (are S row c k))], M) _)
        refine ev_rt (r := some (.inl (bi (are S row c k)))) rfl (⟨bi_01 _, ?_⟩)
        exact ⟨rint (by rw [show k = n by omega]), rfl⟩
  refine L6 ((n - 0) + 1 : Int).toNat 1 0 (by omega) (by omega) (by omega) (is1 are_0)
theorem c_leftAlone {m : Int} {M : NM} {S : Sl} (hW : RW m M S) {row c n : Int} (h1 : 0 ≤ row ∧ row < 600) (h2 : 0 ≤ c ∧ c ≤ 10) (h3 : 0 ≤ n ∧ n ≤ 10) : HT X z_X8_leftAlone [.inr (.inr (some (8, 0, 0))), .inl row, .inl c, .inl n] M (fun r M' => r = some (.inl (la S row c n)) ∧ M' = M) := by
  have hs := hW.1.1
  have hi := hW.2.1
  unfold Iv0 at hi
  refine ht_of (e := E_X8_leftAlone) rfl (?_ : EvI X E_X8_leftAlone (0, [some (.inr (.inr (some (8, 0, 0)))), some (.inl row), some (.inl c), some (.inl n), none], [], M) _)
  refine seg_ok 5 (⟨by omega, ?_⟩ : ((-2147483648 : Int) ≤ (c - 1) ∧ (c - 1) < 2147483648) ∧ EvI X E_X8_leftAlone (5, [some (.inr (.inr (some (8, 0, 0)))), some (.inl row), some (.inl c), some (.inl n), none], [.inl (c - 1), .inl row, .inr (.inr (some (8, 0, 0)))], M) _)
  refine ev_clp (v := .inl (bi (opn S row (c - 1)))) (z := z_X8_isOpen) (as := [.inr (.inr (some (8, 0, 0))), .inl row, .inl (c - 1)]) (rest := []) rfl (c_isOpen hW (by omega)) (?_ : EvI X E_X8_leftAlone (8, [some (.inr (.inr (some (8, 0, 0)))), some (.inl row), some (.inl c), some (.inl n), none], [.inl (bi (opn S row (c - 1)))], M) _)
  refine seg_ok 1 (?_ : EvI X E_X8_leftAlone (if (bi (opn S row (c - 1))) = 0 then 26 else 11, [some (.inr (.inr (some (8, 0, 0)))), some (.inl row), some (.inl c), some (.inl n), none], [], M) _)
  refine ev_ifb (fun h8 => ?_) (fun h8 => ?_)
  · refine seg_ok 8 (⟨by omega, ?_⟩ : ((-2147483648 : Int) ≤ (c + n) ∧ (c + n) < 2147483648) ∧ EvI X E_X8_leftAlone (36, [some (.inr (.inr (some (8, 0, 0)))), some (.inl row), some (.inl c), some (.inl n), some (.inl 0)], [.inl (c + n), .inl row, .inr (.inr (some (8, 0, 0))), .inl 0], M) _)
    refine ev_clp (v := .inl (bi (opn S row (c + n)))) (z := z_X8_isOpen) (as := [.inr (.inr (some (8, 0, 0))), .inl row, .inl (c + n)]) (rest := [.inl 0]) rfl (c_isOpen hW (by omega)) (?_ : EvI X E_X8_leftAlone (39, [some (.inr (.inr (some (8, 0, 0)))), some (.inl row), some (.inl c), some (.inl n), some (.inl 0)], [.inl (bi (opn S row (c + n))), .inl 0], M) _)
    refine seg_ok 1 (?_ : EvI X E_X8_leftAlone (if (bi (opn S row (c + n))) = 0 then 59 else 42, [some (.inr (.inr (some (8, 0, 0)))), some (.inl row), some (.inl c), some (.inl n), some (.inl 0)], [.inl 0], M) _)
    refine ev_ifb (fun h39 => ?_) (fun h39 => ?_)
    · refine seg_ok 2 (⟨by omega, ?_⟩ : ((-2147483648 : Int) ≤ 0 ∧ (0 : Int) < 2147483648) ∧ EvI X E_X8_leftAlone (61, [some (.inr (.inr (some (8, 0, 0)))), some (.inl row), some (.inl c), some (.inl n), some (.inl 0)], [.inl 0], M) _)
      refine ev_rt (r := some (.inl 0)) rfl (?_)
      exact ⟨rint (by unfold la; rw [bA_1 h8, bA_1 h39]; rfl), rfl⟩
    · refine seg_ok 7 (⟨by omega, by omega, ?_⟩ : ((-2147483648 : Int) ≤ (c + n) ∧ (c + n) < 2147483648) ∧ ((-2147483648 : Int) ≤ ((c + n) + 1) ∧ ((c + n) + 1) < 2147483648) ∧ EvI X E_X8_leftAlone (49, [some (.inr (.inr (some (8, 0, 0)))), some (.inl row), some (.inl c), some (.inl n), some (.inl 0)], [.inl ((c + n) + 1), .inl row, .inr (.inr (some (8, 0, 0))), .inl 0], M) _)
      refine ev_clp (v := .inl (bi (opn S row ((c + n) + 1)))) (z := z_X8_isOpen) (as := [.inr (.inr (some (8, 0, 0))), .inl row, .inl ((c + n) + 1)]) (rest := [.inl 0]) rfl (c_isOpen hW (by omega)) (?_ : EvI X E_X8_leftAlone (52, [some (.inr (.inr (some (8, 0, 0)))), some (.inl row), some (.inl c), some (.inl n), some (.inl 0)], [.inl (bi (opn S row ((c + n) + 1))), .inl 0], M) _)
      refine seg_ok 1 (?_ : EvI X E_X8_leftAlone (if (bi (opn S row ((c + n) + 1))) = 0 then 55 else 59, [some (.inr (.inr (some (8, 0, 0)))), some (.inl row), some (.inl c), some (.inl n), some (.inl 0)], [.inl 0], M) _)
      refine ev_ifb (fun h52 => ?_) (fun h52 => ?_)
      · refine seg_ok 3 (⟨by omega, ?_⟩ : ((-2147483648 : Int) ≤ 1 ∧ (1 : Int) < 2147483648) ∧ EvI X E_X8_leftAlone (61, [some (.inr (.inr (some (8, 0, 0)))), some (.inl row), some (.inl c), some (.inl n), some (.inl 0)], [.inl 1], M) _)
        refine ev_rt (r := some (.inl 1)) rfl (?_)
        exact ⟨rint (by unfold la; rw [bA_1 h8, bA_t h39 h52]; rfl), rfl⟩
      · refine seg_ok 2 (⟨by omega, ?_⟩ : ((-2147483648 : Int) ≤ 0 ∧ (0 : Int) < 2147483648) ∧ EvI X E_X8_leftAlone (61, [some (.inr (.inr (some (8, 0, 0)))), some (.inl row), some (.inl c), some (.inl n), some (.inl 0)], [.inl 0], M) _)
        refine ev_rt (r := some (.inl 0)) rfl (?_)
        exact ⟨rint (by unfold la; rw [bA_1 h8, bA_2 h52]; rfl), rfl⟩
  · refine seg_ok 5 (⟨by omega, ?_⟩ : ((-2147483648 : Int) ≤ (c - 2) ∧ (c - 2) < 2147483648) ∧ EvI X E_X8_leftAlone (16, [some (.inr (.inr (some (8, 0, 0)))), some (.inl row), some (.inl c), some (.inl n), none], [.inl (c - 2), .inl row, .inr (.inr (some (8, 0, 0)))], M) _)
    refine ev_clp (v := .inl (bi (opn S row (c - 2)))) (z := z_X8_isOpen) (as := [.inr (.inr (some (8, 0, 0))), .inl row, .inl (c - 2)]) (rest := []) rfl (c_isOpen hW (by omega)) (?_ : EvI X E_X8_leftAlone (19, [some (.inr (.inr (some (8, 0, 0)))), some (.inl row), some (.inl c), some (.inl n), none], [.inl (bi (opn S row (c - 2)))], M) _)
    refine seg_ok 1 (?_ : EvI X E_X8_leftAlone (if (bi (opn S row (c - 2))) = 0 then 22 else 26, [some (.inr (.inr (some (8, 0, 0)))), some (.inl row), some (.inl c), some (.inl n), none], [], M) _)
    refine ev_ifb (fun h19 => ?_) (fun h19 => ?_)
    · refine seg_ok 9 (⟨by omega, ?_⟩ : ((-2147483648 : Int) ≤ (c + n) ∧ (c + n) < 2147483648) ∧ EvI X E_X8_leftAlone (36, [some (.inr (.inr (some (8, 0, 0)))), some (.inl row), some (.inl c), some (.inl n), some (.inl 1)], [.inl (c + n), .inl row, .inr (.inr (some (8, 0, 0))), .inl 1], M) _)
      refine ev_clp (v := .inl (bi (opn S row (c + n)))) (z := z_X8_isOpen) (as := [.inr (.inr (some (8, 0, 0))), .inl row, .inl (c + n)]) (rest := [.inl 1]) rfl (c_isOpen hW (by omega)) (?_ : EvI X E_X8_leftAlone (39, [some (.inr (.inr (some (8, 0, 0)))), some (.inl row), some (.inl c), some (.inl n), some (.inl 1)], [.inl (bi (opn S row (c + n))), .inl 1], M) _)
      refine seg_ok 1 (?_ : EvI X E_X8_leftAlone (if (bi (opn S row (c + n))) = 0 then 59 else 42, [some (.inr (.inr (some (8, 0, 0)))), some (.inl row), some (.inl c), some (.inl n), some (.inl 1)], [.inl 1], M) _)
      refine ev_ifb (fun h39 => ?_) (fun h39 => ?_)
      · refine seg_ok 2 (⟨by omega, ?_⟩ : ((-2147483648 : Int) ≤ 1 ∧ (1 : Int) < 2147483648) ∧ EvI X E_X8_leftAlone (61, [some (.inr (.inr (some (8, 0, 0)))), some (.inl row), some (.inl c), some (.inl n), some (.inl 1)], [.inl 1], M) _)
        refine ev_rt (r := some (.inl 1)) rfl (?_)
        exact ⟨rint (by unfold la; rw [bA_t h8 h19, bA_1 h39]; rfl), rfl⟩
      · refine seg_ok 7 (⟨by omega, by omega, ?_⟩ : ((-2147483648 : Int) ≤ (c + n) ∧ (c + n) < 2147483648) ∧ ((-2147483648 : Int) ≤ ((c + n) + 1) ∧ ((c + n) + 1) < 2147483648) ∧ EvI X E_X8_leftAlone (49, [some (.inr (.inr (some (8, 0, 0)))), some (.inl row), some (.inl c), some (.inl n), some (.inl 1)], [.inl ((c + n) + 1), .inl row, .inr (.inr (some (8, 0, 0))), .inl 1], M) _)
        refine ev_clp (v := .inl (bi (opn S row ((c + n) + 1)))) (z := z_X8_isOpen) (as := [.inr (.inr (some (8, 0, 0))), .inl row, .inl ((c + n) + 1)]) (rest := [.inl 1]) rfl (c_isOpen hW (by omega)) (?_ : EvI X E_X8_leftAlone (52, [some (.inr (.inr (some (8, 0, 0)))), some (.inl row), some (.inl c), some (.inl n), some (.inl 1)], [.inl (bi (opn S row ((c + n) + 1))), .inl 1], M) _)
        refine seg_ok 1 (?_ : EvI X E_X8_leftAlone (if (bi (opn S row ((c + n) + 1))) = 0 then 55 else 59, [some (.inr (.inr (some (8, 0, 0)))), some (.inl row), some (.inl c), some (.inl n), some (.inl 1)], [.inl 1], M) _)
        refine ev_ifb (fun h52 => ?_) (fun h52 => ?_)
        · refine seg_ok 3 (⟨by omega, ?_⟩ : ((-2147483648 : Int) ≤ 2 ∧ (2 : Int) < 2147483648) ∧ EvI X E_X8_leftAlone (61, [some (.inr (.inr (some (8, 0, 0)))), some (.inl row), some (.inl c), some (.inl n), some (.inl 1)], [.inl 2], M) _)
          refine ev_rt (r := some (.inl 2)) rfl (?_)
          exact ⟨rint (by unfold la; rw [bA_t h8 h19, bA_t h39 h52]; rfl), rfl⟩
        · refine seg_ok 2 (⟨by omega, ?_⟩ : ((-2147483648 : Int) ≤ 1 ∧ (1 : Int) < 2147483648) ∧ EvI X E_X8_leftAlone (61, [some (.inr (.inr (some (8, 0, 0)))), some (.inl row), some (.inl c), some (.inl n), some (.inl 1)], [.inl 1], M) _)
          refine ev_rt (r := some (.inl 1)) rfl (?_)
          exact ⟨rint (by unfold la; rw [bA_t h8 h19, bA_2 h52]; rfl), rfl⟩
    · refine seg_ok 8 (⟨by omega, ?_⟩ : ((-2147483648 : Int) ≤ (c + n) ∧ (c + n) < 2147483648) ∧ EvI X E_X8_leftAlone (36, [some (.inr (.inr (some (8, 0, 0)))), some (.inl row), some (.inl c), some (.inl n), some (.inl 0)], [.inl (c + n), .inl row, .inr (.inr (some (8, 0, 0))), .inl 0], M) _)
      refine ev_clp (v := .inl (bi (opn S row (c + n)))) (z := z_X8_isOpen) (as := [.inr (.inr (some (8, 0, 0))), .inl row, .inl (c + n)]) (rest := [.inl 0]) rfl (c_isOpen hW (by omega)) (?_ : EvI X E_X8_leftAlone (39, [some (.inr (.inr (some (8, 0, 0)))), some (.inl row), some (.inl c), some (.inl n), some (.inl 0)], [.inl (bi (opn S row (c + n))), .inl 0], M) _)
      refine seg_ok 1 (?_ : EvI X E_X8_leftAlone (if (bi (opn S row (c + n))) = 0 then 59 else 42, [some (.inr (.inr (some (8, 0, 0)))), some (.inl row), some (.inl c), some (.inl n), some (.inl 0)], [.inl 0], M) _)
      refine ev_ifb (fun h39 => ?_) (fun h39 => ?_)
      · refine seg_ok 2 (⟨by omega, ?_⟩ : ((-2147483648 : Int) ≤ 0 ∧ (0 : Int) < 2147483648) ∧ EvI X E_X8_leftAlone (61, [some (.inr (.inr (some (8, 0, 0)))), some (.inl row), some (.inl c), some (.inl n), some (.inl 0)], [.inl 0], M) _)
        refine ev_rt (r := some (.inl 0)) rfl (?_)
        exact ⟨rint (by unfold la; rw [bA_2 h19, bA_1 h39]; rfl), rfl⟩
      · refine seg_ok 7 (⟨by omega, by omega, ?_⟩ : ((-2147483648 : Int) ≤ (c + n) ∧ (c + n) < 2147483648) ∧ ((-2147483648 : Int) ≤ ((c + n) + 1) ∧ ((c + n) + 1) < 2147483648) ∧ EvI X E_X8_leftAlone (49, [some (.inr (.inr (some (8, 0, 0)))), some (.inl row), some (.inl c), some (.inl n), some (.inl 0)], [.inl ((c + n) + 1), .inl row, .inr (.inr (some (8, 0, 0))), .inl 0], M) _)
        refine ev_clp (v := .inl (bi (opn S row ((c + n) + 1)))) (z := z_X8_isOpen) (as := [.inr (.inr (some (8, 0, 0))), .inl row, .inl ((c + n) + 1)]) (rest := [.inl 0]) rfl (c_isOpen hW (by omega)) (?_ : EvI X E_X8_leftAlone (52, [some (.inr (.inr (some (8, 0, 0)))), some (.inl row), some (.inl c), some (.inl n), some (.inl 0)], [.inl (bi (opn S row ((c + n) + 1))), .inl 0], M) _)
        refine seg_ok 1 (?_ : EvI X E_X8_leftAlone (if (bi (opn S row ((c + n) + 1))) = 0 then 55 else 59, [some (.inr (.inr (some (8, 0, 0)))), some (.inl row), some (.inl c), some (.inl n), some (.inl 0)], [.inl 0], M) _)
        refine ev_ifb (fun h52 => ?_) (fun h52 => ?_)
        · refine seg_ok 3 (⟨by omega, ?_⟩ : ((-2147483648 : Int) ≤ 1 ∧ (1 : Int) < 2147483648) ∧ EvI X E_X8_leftAlone (61, [some (.inr (.inr (some (8, 0, 0)))), some (.inl row), some (.inl c), some (.inl n), some (.inl 0)], [.inl 1], M) _)
          refine ev_rt (r := some (.inl 1)) rfl (?_)
          exact ⟨rint (by unfold la; rw [bA_2 h19, bA_t h39 h52]; rfl), rfl⟩
        · refine seg_ok 2 (⟨by omega, ?_⟩ : ((-2147483648 : Int) ≤ 0 ∧ (0 : Int) < 2147483648) ∧ EvI X E_X8_leftAlone (61, [some (.inr (.inr (some (8, 0, 0)))), some (.inl row), some (.inl c), some (.inl n), some (.inl 0)], [.inl 0], M) _)
          refine ev_rt (r := some (.inl 0)) rfl (?_)
          exact ⟨rint (by unfold la; rw [bA_2 h19, bA_2 h52]; rfl), rfl⟩
theorem plC_step {S : Sl} {row n c : Int} {p : Int × Int} (h : 0 ≤ c) : plC S row n p (c + 1).toNat = cif (are S row c n ∧ la S row c n < (plC S row n p c.toNat).2) (row + c, la S row c n) (plC S row n p c.toNat) := by
  rw [show (c + 1).toNat = c.toNat + 1 by omega, plC, Int.toNat_of_nonneg h]
theorem plR_step {S : Sl} {b n i0 r : Int} (h : 0 ≤ r) : plR S b n i0 (r + 1).toNat = plC S (100 * b + 10 * r) n (plR S b n i0 r.toNat) (S 0 b 1).toNat := by
  rw [show (r + 1).toNat = r.toNat + 1 by omega, plR, Int.toNat_of_nonneg h]
set_option maxRecDepth 2310 in
theorem c_placeIn {m : Int} {M : NM} {S : Sl} (hW : RW m M S) {b n : Int} (h1 : 0 ≤ b ∧ b < S 1 0 3) (h2 : 1 ≤ n ∧ n ≤ 10) : HT X z_X8_placeIn [.inr (.inr (some (8, 0, 0))), .inl b, .inl n] M (fun r M' => r = some (.inl (pl S b n)) ∧ M' = M) := by
  have hs := hW.1.1
  have hi := hW.2.1
  unfold Iv0 at hi
  have hb := hW.2.2.1 b h1.1 h1.2
  refine ht_of (e := E_X8_placeIn) rfl (?_ : EvI X E_X8_placeIn (0, [some (.inr (.inr (some (8, 0, 0)))), some (.inl b), some (.inl n), none, none, none, none, none], [], M) _)
  refine seg_ok 6 (?_ : EvI X E_X8_placeIn (9, [some (.inr (.inr (some (8, 0, 0)))), some (.inl b), some (.inl n), some (.inl (-9)), some (.inl 3), some (.inl 0), none, none], [], M) _)
  have L9 : ∀ (m9 : Nat) (u v r : Int) (d9_6 d9_7 : Option U), S 0 b 0 - r < (m9 : Int) → (0 ≤ r) → (r ≤ S 0 b 0) → (u = (plR S b n 3 r.toNat).1) → (v = (plR S b n 3 r.toNat).2) → EvI X E_X8_placeIn (9, [some (.inr (.inr (some (8, 0, 0)))), some (.inl b), some (.inl n), some (.inl u), some (.inl v), some (.inl r), d9_6, d9_7], [], M) (fun r M' => r = some (.inl (pl S b n)) ∧ M' = M) := by
    intro m9
    induction m9 with
    | zero => intro u v r d9_6 d9_7 hm9 q1 q2 q3 q4; exact absurd hm9 (by omega)
    | succ m9 ih9 =>
      intro u v r d9_6 d9_7 hm9 q1 q2 q3 q4
      refine seg_ok 4 (?_ : EvI X E_X8_placeIn (14, [some (.inr (.inr (some (8, 0, 0)))), some (.inl b), some (.inl n), some (.inl u), some (.inl v), some (.inl r), d9_6, d9_7], [.inl 0, .inl b, .inr (.inr (some (8, 0, 0))), .inl r], M) _)
      refine ev_clp (v := .inl (S 0 b 0)) (z := z_X8_of) (as := [.inr (.inr (some (8, 0, 0))), .inl b, .inl 0]) (rest := [.inl r]) rfl (c_of hW (by omega) (by omega)) (?_ : EvI X E_X8_placeIn (17, [some (.inr (.inr (some (8, 0, 0)))), some (.inl b), some (.inl n), some (.inl u), some (.inl v), some (.inl r), d9_6, d9_7], [.inl (S 0 b 0), .inl r], M) _)
      refine seg_ok 1 (?_ : EvI X E_X8_placeIn (if r < (S 0 b 0) then 20 else 101, [some (.inr (.inr (some (8, 0, 0)))), some (.inl b), some (.inl n), some (.inl u), some (.inl v), some (.inl r), d9_6, d9_7], [], M) _)
      refine ev_if (fun h17 => ?_) (fun h17 => ?_)
      · refine seg_ok 10 (⟨by omega, by omega, by omega, ?_⟩ : ((-2147483648 : Int) ≤ (100 * b) ∧ (100 * b) < 2147483648) ∧ ((-2147483648 : Int) ≤ (10 * r) ∧ (10 * r) < 2147483648) ∧ ((-2147483648 : Int) ≤ ((100 * b) + (10 * r)) ∧ ((100 * b) + (10 * r)) < 2147483648) ∧ EvI X E_X8_placeIn (35, [some (.inr (.inr (some (8, 0, 0)))), some (.inl b), some (.inl n), some (.inl u), some (.inl v), some (.inl r), some (.inl ((100 * b) + (10 * r))), some (.inl 0)], [], M) _)
        have L35 : ∀ (m35 : Nat) (u2 v2 c : Int), S 0 b 1 - c < (m35 : Int) → (0 ≤ c) → (c ≤ S 0 b 1) → (u2 = (plC S (100 * b + 10 * r) n (plR S b n 3 r.toNat) c.toNat).1) → (v2 = (plC S (100 * b + 10 * r) n (plR S b n 3 r.toNat) c.toNat).2) → EvI X E_X8_placeIn (35, [some (.inr (.inr (some (8, 0, 0)))), some (.inl b), some (.inl n), some (.inl u2), some (.inl v2), some (.inl r), some (.inl ((100 * b) + (10 * r))), some (.inl c)], [], M) (fun r M' => r = some (.inl (pl S b n)) ∧ M' = M) := by
          intro m35
          induction m35 with
          | zero => intro u2 v2 c hm35 p1 p2 p3 p4; exact absurd hm35 (by omega)
          | succ m35 ih35 =>
            intro u2 v2 c hm35 p1 p2 p3 p4
            refine seg_ok 4 (?_ : EvI X E_X8_placeIn (40, [some (.inr (.inr (some (8, 0, 0)))), some (.inl b), some (.inl n), some (.inl u2), some (.inl v2), some (.inl r), some (.inl ((100 * b) + (10 * r))), some (.inl c)], [.inl 1, .inl b, .inr (.inr (some (8, 0, 0))), .inl c], M) _)
            refine ev_clp (v := .inl (S 0 b 1)) (z := z_X8_of) (as := [.inr (.inr (some (8, 0, 0))), .inl b, .inl 1]) (rest := [.inl c]) rfl (c_of hW (by omega) (by omega)) (?_ : EvI X E_X8_placeIn (43, [some (.inr (.inr (some (8, 0, 0)))), some (.inl b), some (.inl n), some (.inl u2), some (.inl v2), some (.inl r), some (.inl ((100 * b) + (10 * r))), some (.inl c)], [.inl (S 0 b 1), .inl c], M) _)
            refine seg_ok 1 (?_ : EvI X E_X8_placeIn (if c < (S 0 b 1) then 46 else 95, [some (.inr (.inr (some (8, 0, 0)))), some (.inl b), some (.inl n), some (.inl u2), some (.inl v2), some (.inl r), some (.inl ((100 * b) + (10 * r))), some (.inl c)], [], M) _)
            refine ev_if (fun h43 => ?_) (fun h43 => ?_)
            · refine seg_ok 4 (?_ : EvI X E_X8_placeIn (52, [some (.inr (.inr (some (8, 0, 0)))), some (.inl b), some (.inl n), some (.inl u2), some (.inl v2), some (.inl r), some (.inl ((100 * b) + (10 * r))), some (.inl c)], [.inl n, .inl c, .inl ((100 * b) + (10 * r)), .inr (.inr (some (8, 0, 0)))], M) _)
              refine ev_clp (v := .inl (bi (are S ((100 * b) + (10 * r)) c n))) (z := z_X8_areOpen) (as := [.inr (.inr (some (8, 0, 0))), .inl ((100 * b) + (10 * r)), .inl c, .inl n]) (rest := []) rfl (c_areOpen hW (by omega) (by omega) (by omega)) (?_ : EvI X E_X8_placeIn (55, [some (.inr (.inr (some (8, 0, 0)))), some (.inl b), some (.inl n), some (.inl u2), some (.inl v2), some (.inl r), some (.inl ((100 * b) + (10 * r))), some (.inl c)], [.inl (bi (are S ((100 * b) + (10 * r)) c n))], M) _)
              refine seg_ok 1 (?_ : EvI X E_X8_placeIn (if (bi (are S ((100 * b) + (10 * r)) c n)) = 0 then 89 else 58, [some (.inr (.inr (some (8, 0, 0)))), some (.inl b), some (.inl n), some (.inl u2), some (.inl v2), some (.inl r), some (.inl ((100 * b) + (10 * r))), some (.inl c)], [], M) _)
              refine ev_ifb (fun h55 => ?_) (fun h55 => ?_)
              · refine seg_ok 2 (⟨by omega, ?_⟩ : ((-2147483648 : Int) ≤ (c + 1) ∧ (c + 1) < 2147483648) ∧ EvI X E_X8_placeIn (35, [some (.inr (.inr (some (8, 0, 0)))), some (.inl b), some (.inl n), some (.inl u2), some (.inl v2), some (.inl r), some (.inl ((100 * b) + (10 * r))), some (.inl (c + 1))], [], M) _)
                refine ih35 u2 v2 (c + 1) (by omega) (by omega) (by omega) (by rw [plC_step p1]; rw [cA_1 h55]; exact p3) (by rw [plC_step p1]; rw [cA_1 h55]; exact p4)
              · refine seg_ok 4 (?_ : EvI X E_X8_placeIn (64, [some (.inr (.inr (some (8, 0, 0)))), some (.inl b), some (.inl n), some (.inl u2), some (.inl v2), some (.inl r), some (.inl ((100 * b) + (10 * r))), some (.inl c)], [.inl n, .inl c, .inl ((100 * b) + (10 * r)), .inr (.inr (some (8, 0, 0)))], M) _)
                refine ev_clp (v := .inl (la S ((100 * b) + (10 * r)) c n)) (z := z_X8_leftAlone) (as := [.inr (.inr (some (8, 0, 0))), .inl ((100 * b) + (10 * r)), .inl c, .inl n]) (rest := []) rfl (c_leftAlone hW (by omega) (by omega) (by omega)) (?_ : EvI X E_X8_placeIn (67, [some (.inr (.inr (some (8, 0, 0)))), some (.inl b), some (.inl n), some (.inl u2), some (.inl v2), some (.inl r), some (.inl ((100 * b) + (10 * r))), some (.inl c)], [.inl (la S ((100 * b) + (10 * r)) c n)], M) _)
                refine seg_ok 2 (?_ : EvI X E_X8_placeIn (if (la S ((100 * b) + (10 * r)) c n) < v2 then 72 else 89, [some (.inr (.inr (some (8, 0, 0)))), some (.inl b), some (.inl n), some (.inl u2), some (.inl v2), some (.inl r), some (.inl ((100 * b) + (10 * r))), some (.inl c)], [], M) _)
                refine ev_if (fun h69 => ?_) (fun h69 => ?_)
                · refine seg_ok 8 (⟨by omega, ?_⟩ : ((-2147483648 : Int) ≤ (((100 * b) + (10 * r)) + c) ∧ (((100 * b) + (10 * r)) + c) < 2147483648) ∧ EvI X E_X8_placeIn (84, [some (.inr (.inr (some (8, 0, 0)))), some (.inl b), some (.inl n), some (.inl (((100 * b) + (10 * r)) + c)), some (.inl v2), some (.inl r), some (.inl ((100 * b) + (10 * r))), some (.inl c)], [.inl n, .inl c, .inl ((100 * b) + (10 * r)), .inr (.inr (some (8, 0, 0)))], M) _)
                  refine ev_clp (v := .inl (la S ((100 * b) + (10 * r)) c n)) (z := z_X8_leftAlone) (as := [.inr (.inr (some (8, 0, 0))), .inl ((100 * b) + (10 * r)), .inl c, .inl n]) (rest := []) rfl (c_leftAlone hW (by omega) (by omega) (by omega)) (?_ : EvI X E_X8_placeIn (87, [some (.inr (.inr (some (8, 0, 0)))), some (.inl b), some (.inl n), some (.inl (((100 * b) + (10 * r)) + c)), some (.inl v2), some (.inl r), some (.inl ((100 * b) + (10 * r))), some (.inl c)], [.inl (la S ((100 * b) + (10 * r)) c n)], M) _)
                  refine seg_ok 3 (⟨by omega, ?_⟩ : ((-2147483648 : Int) ≤ (c + 1) ∧ (c + 1) < 2147483648) ∧ EvI X E_X8_placeIn (35, [some (.inr (.inr (some (8, 0, 0)))), some (.inl b), some (.inl n), some (.inl (((100 * b) + (10 * r)) + c)), some (.inl (la S ((100 * b) + (10 * r)) c n)), some (.inl r), some (.inl ((100 * b) + (10 * r))), some (.inl (c + 1))], [], M) _)
                  refine ih35 (((100 * b) + (10 * r)) + c) (la S ((100 * b) + (10 * r)) c n) (c + 1) (by omega) (by omega) (by omega) (by rw [plC_step p1]; rw [cA_t h55 (by rw [← p4]; exact h69)]) (by rw [plC_step p1]; rw [cA_t h55 (by rw [← p4]; exact h69)])
                · refine seg_ok 2 (⟨by omega, ?_⟩ : ((-2147483648 : Int) ≤ (c + 1) ∧ (c + 1) < 2147483648) ∧ EvI X E_X8_placeIn (35, [some (.inr (.inr (some (8, 0, 0)))), some (.inl b), some (.inl n), some (.inl u2), some (.inl v2), some (.inl r), some (.inl ((100 * b) + (10 * r))), some (.inl (c + 1))], [], M) _)
                  refine ih35 u2 v2 (c + 1) (by omega) (by omega) (by omega) (by rw [plC_step p1]; rw [cA_2 (by rw [← p4]; exact h69)]; exact p3) (by rw [plC_step p1]; rw [cA_2 (by rw [← p4]; exact h69)]; exact p4)
            · refine seg_ok 2 (⟨by omega, ?_⟩ : ((-2147483648 : Int) ≤ (r + 1) ∧ (r + 1) < 2147483648) ∧ EvI X E_X8_placeIn (9, [some (.inr (.inr (some (8, 0, 0)))), some (.inl b), some (.inl n), some (.inl u2), some (.inl v2), some (.inl (r + 1)), some (.inl ((100 * b) + (10 * r))), some (.inl c)], [], M) _)
              refine ih9 u2 v2 (r + 1) (some (.inl ((100 * b) + (10 * r)))) (some (.inl c)) (by omega) (by omega) (by omega) (by rw [plR_step q1, p3, show c = S 0 b 1 by omega]) (by rw [plR_step q1, p4, show c = S 0 b 1 by omega])
        refine L35 ((S 0 b 1 - 0) + 1 : Int).toNat u v 0 (by omega) (by omega) (by omega) q3 q4
      · refine seg_ok 1 (?_ : EvI X E_X8_placeIn (102, [some (.inr (.inr (some (8, 0, 0)))), some (.inl b), some (.inl n), some (.inl u), some (.inl v), some (.inl r), d9_6, d9_7], [.inl u], M) _)
        refine ev_rt (r := some (.inl u)) rfl (?_)
        exact ⟨rint (by rw [q3, show r = S 0 b 0 by omega]; rfl), rfl⟩
  refine L9 ((S 0 b 0 - 0) + 1 : Int).toNat (-9) 3 0 none none (by omega) (by omega) (by omega) rfl rfl
theorem c_rank {m : Int} {M : NM} {S : Sl} (hW : RW m M S) {b : Int} (h1 : 0 ≤ b ∧ b < 6) : HT X z_X8_rank [.inr (.inr (some (8, 0, 0))), .inl b] M (fun r M' => r = some (.inl (rk S b)) ∧ M' = M) := by
  have hs := hW.1.1
  have hi := hW.2.1
  unfold Iv0 at hi
  refine ht_of (e := E_X8_rank) rfl (?_ : EvI X E_X8_rank (0, [some (.inr (.inr (some (8, 0, 0)))), some (.inl b), none, none], [], M) _)
  refine seg_ok 4 (?_ : EvI X E_X8_rank (4, [some (.inr (.inr (some (8, 0, 0)))), some (.inl b), some (.inl 0), some (.inl 0)], [], M) _)
  have L4 : ∀ (m4 : Nat) (n o : Int), S 1 0 3 - o < (m4 : Int) → (0 ≤ o) → (o ≤ S 1 0 3) → (n = sm (fun o => bi (S 0 o 2 < S 0 b 2)) o.toNat) → EvI X E_X8_rank (4, [some (.inr (.inr (some (8, 0, 0)))), some (.inl b), some (.inl n), some (.inl o)], [], M) (fun r M' => r = some (.inl (rk S b)) ∧ M' = M) := by
    intro m4
    induction m4 with
    | zero => intro n o hm4 q1 q2 q3; exact absurd hm4 (by omega)
    | succ m4 ih4 =>
      intro n o hm4 q1 q2 q3
      subst q3
      have q4 := smb_bnd (fun o => S 0 o 2 < S 0 b 2) o.toNat
      refine seg_ok 6 (⟨by omega, ?_⟩ : ((0 : Int) ≤ 6 ∧ (6 : Int) < 589) ∧ EvI X E_X8_rank (if o < (M 17 0 0 6) then 15 else 44, [some (.inr (.inr (some (8, 0, 0)))), some (.inl b), some (.inl (sm (fun o => bi (S 0 o 2 < S 0 b 2)) o.toNat)), some (.inl o)], [], M) _)
      refine ev_if (fun h12 => ?_) (fun h12 => ?_)
      · refine seg_ok 4 (?_ : EvI X E_X8_rank (19, [some (.inr (.inr (some (8, 0, 0)))), some (.inl b), some (.inl (sm (fun o => bi (S 0 o 2 < S 0 b 2)) o.toNat)), some (.inl o)], [.inl 2, .inl o, .inr (.inr (some (8, 0, 0))), .inl (sm (fun o => bi (S 0 o 2 < S 0 b 2)) o.toNat)], M) _)
        refine ev_clp (v := .inl (S 0 o 2)) (z := z_X8_of) (as := [.inr (.inr (some (8, 0, 0))), .inl o, .inl 2]) (rest := [.inl (sm (fun o => bi (S 0 o 2 < S 0 b 2)) o.toNat)]) rfl (c_of hW (by omega) (by omega)) (?_ : EvI X E_X8_rank (22, [some (.inr (.inr (some (8, 0, 0)))), some (.inl b), some (.inl (sm (fun o => bi (S 0 o 2 < S 0 b 2)) o.toNat)), some (.inl o)], [.inl (S 0 o 2), .inl (sm (fun o => bi (S 0 o 2 < S 0 b 2)) o.toNat)], M) _)
        refine seg_ok 3 (?_ : EvI X E_X8_rank (25, [some (.inr (.inr (some (8, 0, 0)))), some (.inl b), some (.inl (sm (fun o => bi (S 0 o 2 < S 0 b 2)) o.toNat)), some (.inl o)], [.inl 2, .inl b, .inr (.inr (some (8, 0, 0))), .inl (S 0 o 2), .inl (sm (fun o => bi (S 0 o 2 < S 0 b 2)) o.toNat)], M) _)
        refine ev_clp (v := .inl (S 0 b 2)) (z := z_X8_of) (as := [.inr (.inr (some (8, 0, 0))), .inl b, .inl 2]) (rest := [.inl (S 0 o 2), .inl (sm (fun o => bi (S 0 o 2 < S 0 b 2)) o.toNat)]) rfl (c_of hW (by omega) (by omega)) (?_ : EvI X E_X8_rank (28, [some (.inr (.inr (some (8, 0, 0)))), some (.inl b), some (.inl (sm (fun o => bi (S 0 o 2 < S 0 b 2)) o.toNat)), some (.inl o)], [.inl (S 0 b 2), .inl (S 0 o 2), .inl (sm (fun o => bi (S 0 o 2 < S 0 b 2)) o.toNat)], M) _)
        refine seg_ok 1 (?_ : EvI X E_X8_rank (if (S 0 o 2) < (S 0 b 2) then 31 else 35, [some (.inr (.inr (some (8, 0, 0)))), some (.inl b), some (.inl (sm (fun o => bi (S 0 o 2 < S 0 b 2)) o.toNat)), some (.inl o)], [.inl (sm (fun o => bi (S 0 o 2 < S 0 b 2)) o.toNat)], M) _)
        refine ev_if (fun h28 => ?_) (fun h28 => ?_)
        · refine seg_ok 6 (⟨by omega, by omega, ?_⟩ : ((-2147483648 : Int) ≤ ((sm (fun o => bi (S 0 o 2 < S 0 b 2)) o.toNat) + 1) ∧ ((sm (fun o => bi (S 0 o 2 < S 0 b 2)) o.toNat) + 1) < 2147483648) ∧ ((-2147483648 : Int) ≤ (o + 1) ∧ (o + 1) < 2147483648) ∧ EvI X E_X8_rank (4, [some (.inr (.inr (some (8, 0, 0)))), some (.inl b), some (.inl ((sm (fun o => bi (S 0 o 2 < S 0 b 2)) o.toNat) + 1)), some (.inl (o + 1))], [], M) _)
          refine ih4 ((sm (fun o => bi (S 0 o 2 < S 0 b 2)) o.toNat) + 1) (o + 1) (by omega) (by omega) (by omega) (by rw [sm_step q1, bi_t h28])
        · refine seg_ok 5 (⟨by omega, by omega, ?_⟩ : ((-2147483648 : Int) ≤ ((sm (fun o => bi (S 0 o 2 < S 0 b 2)) o.toNat) + 0) ∧ ((sm (fun o => bi (S 0 o 2 < S 0 b 2)) o.toNat) + 0) < 2147483648) ∧ ((-2147483648 : Int) ≤ (o + 1) ∧ (o + 1) < 2147483648) ∧ EvI X E_X8_rank (4, [some (.inr (.inr (some (8, 0, 0)))), some (.inl b), some (.inl ((sm (fun o => bi (S 0 o 2 < S 0 b 2)) o.toNat) + 0)), some (.inl (o + 1))], [], M) _)
          refine ih4 ((sm (fun o => bi (S 0 o 2 < S 0 b 2)) o.toNat) + 0) (o + 1) (by omega) (by omega) (by omega) (by rw [sm_step q1, bi_f h28])
      · refine seg_ok 1 (?_ : EvI X E_X8_rank (45, [some (.inr (.inr (some (8, 0, 0)))), some (.inl b), some (.inl (sm (fun o => bi (S 0 o 2 < S 0 b 2)) o.toNat)), some (.inl o)], [.inl (sm (fun o => bi (S 0 o 2 < S 0 b 2)) o.toNat)], M) _)
        refine ev_rt (r := some (.inl (sm (fun o => bi (S 0 o 2 < S 0 b 2)) o.toNat))) rfl (?_)
        exact ⟨rint (by rw [show o = S 1 0 3 by omega]; rfl), rfl⟩
  refine L4 ((S 1 0 3 - 0) + 1 : Int).toNat 0 0 (by omega) (by omega) (by omega) rfl
end
end
section
/-! 13: the reference: counts, upgrades, groups -/
section
variable {X : XI}
set_option maxRecDepth 2490 in
theorem c_counted {m : Int} {M : NM} {S : Sl} (hW : RW m M S) {b w : Int} (h1 : 0 ≤ b ∧ b < S 1 0 3) : HT X z_X8_counted [.inr (.inr (some (8, 0, 0))), .inl b, .inl w] M (fun r M' => r = some (.inl (ct S b (fun c => w = 0 ∨ isN S c = w))) ∧ M' = M) := by
  have hs := hW.1.1
  have hi := hW.2.1
  unfold Iv0 at hi
  have hb := hW.2.2.1 b h1.1 h1.2
  refine ht_of (e := E_X8_counted) rfl (?_ : EvI X E_X8_counted (0, [some (.inr (.inr (some (8, 0, 0)))), some (.inl b), some (.inl w), none, none, none, none, none], [], M) _)
  refine seg_ok 4 (?_ : EvI X E_X8_counted (5, [some (.inr (.inr (some (8, 0, 0)))), some (.inl b), some (.inl w), some (.inl 0), some (.inl 0), none, none, none], [], M) _)
  have L5 : ∀ (m5 : Nat) (n r : Int) (d5_5 d5_6 d5_7 : Option U), S 0 b 0 - r < (m5 : Int) → (0 ≤ r) → (r ≤ S 0 b 0) → (n = sm (fun r => ctR (fun c => w = 0 ∨ isN S c = w) (100 * b + 10 * r) (S 0 b 1).toNat) r.toNat) → EvI X E_X8_counted (5, [some (.inr (.inr (some (8, 0, 0)))), some (.inl b), some (.inl w), some (.inl n), some (.inl r), d5_5, d5_6, d5_7], [], M) (fun r M' => r = some (.inl (ct S b (fun c => w = 0 ∨ isN S c = w))) ∧ M' = M) := by
    intro m5
    induction m5 with
    | zero => intro n r d5_5 d5_6 d5_7 hm5 q1 q2 q3; exact absurd hm5 (by omega)
    | succ m5 ih5 =>
      intro n r d5_5 d5_6 d5_7 hm5 q1 q2 q3
      subst q3
      have g1 := ctS_bnd (fun c => w = 0 ∨ isN S c = w) b (C := (S 0 b 1).toNat) (by omega) r.toNat
      refine seg_ok 4 (?_ : EvI X E_X8_counted (10, [some (.inr (.inr (some (8, 0, 0)))), some (.inl b), some (.inl w), some (.inl (sm (fun r => ctR (fun c => w = 0 ∨ isN S c = w) (100 * b + 10 * r) (S 0 b 1).toNat) r.toNat)), some (.inl r), d5_5, d5_6, d5_7], [.inl 0, .inl b, .inr (.inr (some (8, 0, 0))), .inl r], M) _)
      refine ev_clp (v := .inl (S 0 b 0)) (z := z_X8_of) (as := [.inr (.inr (some (8, 0, 0))), .inl b, .inl 0]) (rest := [.inl r]) rfl (c_of hW (by omega) (by omega)) (?_ : EvI X E_X8_counted (13, [some (.inr (.inr (some (8, 0, 0)))), some (.inl b), some (.inl w), some (.inl (sm (fun r => ctR (fun c => w = 0 ∨ isN S c = w) (100 * b + 10 * r) (S 0 b 1).toNat) r.toNat)), some (.inl r), d5_5, d5_6, d5_7], [.inl (S 0 b 0), .inl r], M) _)
      refine seg_ok 1 (?_ : EvI X E_X8_counted (if r < (S 0 b 0) then 16 else 111, [some (.inr (.inr (some (8, 0, 0)))), some (.inl b), some (.inl w), some (.inl (sm (fun r => ctR (fun c => w = 0 ∨ isN S c = w) (100 * b + 10 * r) (S 0 b 1).toNat) r.toNat)), some (.inl r), d5_5, d5_6, d5_7], [], M) _)
      refine ev_if (fun h13 => ?_) (fun h13 => ?_)
      · refine seg_ok 2 (?_ : EvI X E_X8_counted (19, [some (.inr (.inr (some (8, 0, 0)))), some (.inl b), some (.inl w), some (.inl (sm (fun r => ctR (fun c => w = 0 ∨ isN S c = w) (100 * b + 10 * r) (S 0 b 1).toNat) r.toNat)), some (.inl r), some (.inl 0), d5_6, d5_7], [], M) _)
        have L19 : ∀ (m19 : Nat) (n2 c : Int) (d19_6 d19_7 : Option U), S 0 b 1 - c < (m19 : Int) → (0 ≤ c) → (c ≤ S 0 b 1) → (n2 = sm (fun r => ctR (fun c => w = 0 ∨ isN S c = w) (100 * b + 10 * r) (S 0 b 1).toNat) r.toNat + sm (fun c => bi ((fun c => w = 0 ∨ isN S c = w) (100 * b + 10 * r + c))) c.toNat) → EvI X E_X8_counted (19, [some (.inr (.inr (some (8, 0, 0)))), some (.inl b), some (.inl w), some (.inl n2), some (.inl r), some (.inl c), d19_6, d19_7], [], M) (fun r M' => r = some (.inl (ct S b (fun c => w = 0 ∨ isN S c = w))) ∧ M' = M) := by
          intro m19
          induction m19 with
          | zero => intro n2 c d19_6 d19_7 hm19 p1 p2 p3; exact absurd hm19 (by omega)
          | succ m19 ih19 =>
            intro n2 c d19_6 d19_7 hm19 p1 p2 p3
            subst p3
            have g2 := smb_bnd (fun c => (fun c => w = 0 ∨ isN S c = w) (100 * b + 10 * r + c)) c.toNat
            have g3 := hW.2.2.2.1 (100 * b + 10 * r + c) (by omega) (by omega)
            refine seg_ok 4 (?_ : EvI X E_X8_counted (24, [some (.inr (.inr (some (8, 0, 0)))), some (.inl b), some (.inl w), some (.inl (sm (fun r => ctR (fun c => w = 0 ∨ isN S c = w) (100 * b + 10 * r) (S 0 b 1).toNat) r.toNat + sm (fun c => bi ((fun c => w = 0 ∨ isN S c = w) (100 * b + 10 * r + c))) c.toNat)), some (.inl r), some (.inl c), d19_6, d19_7], [.inl 1, .inl b, .inr (.inr (some (8, 0, 0))), .inl c], M) _)
            refine ev_clp (v := .inl (S 0 b 1)) (z := z_X8_of) (as := [.inr (.inr (some (8, 0, 0))), .inl b, .inl 1]) (rest := [.inl c]) rfl (c_of hW (by omega) (by omega)) (?_ : EvI X E_X8_counted (27, [some (.inr (.inr (some (8, 0, 0)))), some (.inl b), some (.inl w), some (.inl (sm (fun r => ctR (fun c => w = 0 ∨ isN S c = w) (100 * b + 10 * r) (S 0 b 1).toNat) r.toNat + sm (fun c => bi ((fun c => w = 0 ∨ isN S c = w) (100 * b + 10 * r + c))) c.toNat)), some (.inl r), some (.inl c), d19_6, d19_7], [.inl (S 0 b 1), .inl c], M) _)
            refine seg_ok 1 (?_ : EvI X E_X8_counted (if c < (S 0 b 1) then 30 else 105, [some (.inr (.inr (some (8, 0, 0)))), some (.inl b), some (.inl w), some (.inl (sm (fun r => ctR (fun c => w = 0 ∨ isN S c = w) (100 * b + 10 * r) (S 0 b 1).toNat) r.toNat + sm (fun c => bi ((fun c => w = 0 ∨ isN S c = w) (100 * b + 10 * r + c))) c.toNat)), some (.inl r), some (.inl c), d19_6, d19_7], [], M) _)
            refine ev_if (fun h27 => ?_) (fun h27 => ?_)
            · refine seg_ok 12 (⟨by omega, by omega, by omega, by omega, ?_⟩ : ((-2147483648 : Int) ≤ (100 * b) ∧ (100 * b) < 2147483648) ∧ ((-2147483648 : Int) ≤ (10 * r) ∧ (10 * r) < 2147483648) ∧ ((-2147483648 : Int) ≤ ((100 * b) + (10 * r)) ∧ ((100 * b) + (10 * r)) < 2147483648) ∧ ((-2147483648 : Int) ≤ (((100 * b) + (10 * r)) + c) ∧ (((100 * b) + (10 * r)) + c) < 2147483648) ∧ EvI X E_X8_counted (48, [some (.inr (.inr (some (8, 0, 0)))), some (.inl b), some (.inl w), some (.inl (sm (fun r => ctR (fun c => w = 0 ∨ isN S c = w) (100 * b + 10 * r) (S 0 b 1).toNat) r.toNat + sm (fun c => bi ((fun c => w = 0 ∨ isN S c = w) (100 * b + 10 * r + c))) c.toNat)), some (.inl r), some (.inl c), some (.inl (((100 * b) + (10 * r)) + c)), d19_7], [.inl (((100 * b) + (10 * r)) + c), .inr (.inr (some (8, 0, 0)))], M) _)
              refine ev_clp (v := .inl (S 13 0 (((100 * b) + (10 * r)) + c))) (z := z_X8_isWhat) (as := [.inr (.inr (some (8, 0, 0))), .inl (((100 * b) + (10 * r)) + c)]) (rest := []) rfl (c_isWhat hW (by omega)) (?_ : EvI X E_X8_counted (51, [some (.inr (.inr (some (8, 0, 0)))), some (.inl b), some (.inl w), some (.inl (sm (fun r => ctR (fun c => w = 0 ∨ isN S c = w) (100 * b + 10 * r) (S 0 b 1).toNat) r.toNat + sm (fun c => bi ((fun c => w = 0 ∨ isN S c = w) (100 * b + 10 * r + c))) c.toNat)), some (.inl r), some (.inl c), some (.inl (((100 * b) + (10 * r)) + c)), d19_7], [.inl (S 13 0 (((100 * b) + (10 * r)) + c))], M) _)
              refine seg_ok 1 (?_ : EvI X E_X8_counted (if 0 < (S 13 0 (((100 * b) + (10 * r)) + c)) then 54 else 65, [some (.inr (.inr (some (8, 0, 0)))), some (.inl b), some (.inl w), some (.inl (sm (fun r => ctR (fun c => w = 0 ∨ isN S c = w) (100 * b + 10 * r) (S 0 b 1).toNat) r.toNat + sm (fun c => bi ((fun c => w = 0 ∨ isN S c = w) (100 * b + 10 * r + c))) c.toNat)), some (.inl r), some (.inl c), some (.inl (((100 * b) + (10 * r)) + c)), d19_7], [], M) _)
              refine ev_if (fun h51 => ?_) (fun h51 => ?_)
              · refine seg_ok 3 (?_ : EvI X E_X8_counted (58, [some (.inr (.inr (some (8, 0, 0)))), some (.inl b), some (.inl w), some (.inl (sm (fun r => ctR (fun c => w = 0 ∨ isN S c = w) (100 * b + 10 * r) (S 0 b 1).toNat) r.toNat + sm (fun c => bi ((fun c => w = 0 ∨ isN S c = w) (100 * b + 10 * r + c))) c.toNat)), some (.inl r), some (.inl c), some (.inl (((100 * b) + (10 * r)) + c)), d19_7], [.inl (((100 * b) + (10 * r)) + c), .inr (.inr (some (8, 0, 0))), .inl 1], M) _)
                refine ev_clp (v := .inl (S 13 0 (((100 * b) + (10 * r)) + c))) (z := z_X8_isWhat) (as := [.inr (.inr (some (8, 0, 0))), .inl (((100 * b) + (10 * r)) + c)]) (rest := [.inl 1]) rfl (c_isWhat hW (by omega)) (?_ : EvI X E_X8_counted (61, [some (.inr (.inr (some (8, 0, 0)))), some (.inl b), some (.inl w), some (.inl (sm (fun r => ctR (fun c => w = 0 ∨ isN S c = w) (100 * b + 10 * r) (S 0 b 1).toNat) r.toNat + sm (fun c => bi ((fun c => w = 0 ∨ isN S c = w) (100 * b + 10 * r + c))) c.toNat)), some (.inl r), some (.inl c), some (.inl (((100 * b) + (10 * r)) + c)), d19_7], [.inl (S 13 0 (((100 * b) + (10 * r)) + c)), .inl 1], M) _)
                refine seg_ok 6 (⟨by omega, ?_⟩ : ((-2147483648 : Int) ≤ (1 + (S 13 0 (((100 * b) + (10 * r)) + c))) ∧ (1 + (S 13 0 (((100 * b) + (10 * r)) + c))) < 2147483648) ∧ EvI X E_X8_counted (if w = 0 then 92 else 86, [some (.inr (.inr (some (8, 0, 0)))), some (.inl b), some (.inl w), some (.inl (sm (fun r => ctR (fun c => w = 0 ∨ isN S c = w) (100 * b + 10 * r) (S 0 b 1).toNat) r.toNat + sm (fun c => bi ((fun c => w = 0 ∨ isN S c = w) (100 * b + 10 * r + c))) c.toNat)), some (.inl r), some (.inl c), some (.inl (((100 * b) + (10 * r)) + c)), some (.inl (1 + (S 13 0 (((100 * b) + (10 * r)) + c))))], [.inl (sm (fun r => ctR (fun c => w = 0 ∨ isN S c = w) (100 * b + 10 * r) (S 0 b 1).toNat) r.toNat + sm (fun c => bi ((fun c => w = 0 ∨ isN S c = w) (100 * b + 10 * r + c))) c.toNat)], M) _)
                refine ev_if (fun h83 => ?_) (fun h83 => ?_)
                · refine seg_ok 6 (⟨by omega, by omega, ?_⟩ : ((-2147483648 : Int) ≤ ((sm (fun r => ctR (fun c => w = 0 ∨ isN S c = w) (100 * b + 10 * r) (S 0 b 1).toNat) r.toNat + sm (fun c => bi ((fun c => w = 0 ∨ isN S c = w) (100 * b + 10 * r + c))) c.toNat) + 1) ∧ ((sm (fun r => ctR (fun c => w = 0 ∨ isN S c = w) (100 * b + 10 * r) (S 0 b 1).toNat) r.toNat + sm (fun c => bi ((fun c => w = 0 ∨ isN S c = w) (100 * b + 10 * r + c))) c.toNat) + 1) < 2147483648) ∧ ((-2147483648 : Int) ≤ (c + 1) ∧ (c + 1) < 2147483648) ∧ EvI X E_X8_counted (19, [some (.inr (.inr (some (8, 0, 0)))), some (.inl b), some (.inl w), some (.inl ((sm (fun r => ctR (fun c => w = 0 ∨ isN S c = w) (100 * b + 10 * r) (S 0 b 1).toNat) r.toNat + sm (fun c => bi ((fun c => w = 0 ∨ isN S c = w) (100 * b + 10 * r + c))) c.toNat) + 1)), some (.inl r), some (.inl (c + 1)), some (.inl (((100 * b) + (10 * r)) + c)), some (.inl (1 + (S 13 0 (((100 * b) + (10 * r)) + c))))], [], M) _)
                  refine ih19 ((sm (fun r => ctR (fun c => w = 0 ∨ isN S c = w) (100 * b + 10 * r) (S 0 b 1).toNat) r.toNat + sm (fun c => bi ((fun c => w = 0 ∨ isN S c = w) (100 * b + 10 * r + c))) c.toNat) + 1) (c + 1) (some (.inl (((100 * b) + (10 * r)) + c))) (some (.inl (1 + (S 13 0 (((100 * b) + (10 * r)) + c))))) (by omega) (by omega) (by omega) (by rw [sm_step p1]; exact acc (is1 (Or.inl h83)))
                · refine seg_ok 3 (?_ : EvI X E_X8_counted (if (1 + (S 13 0 (((100 * b) + (10 * r)) + c))) = w then 92 else 96, [some (.inr (.inr (some (8, 0, 0)))), some (.inl b), some (.inl w), some (.inl (sm (fun r => ctR (fun c => w = 0 ∨ isN S c = w) (100 * b + 10 * r) (S 0 b 1).toNat) r.toNat + sm (fun c => bi ((fun c => w = 0 ∨ isN S c = w) (100 * b + 10 * r + c))) c.toNat)), some (.inl r), some (.inl c), some (.inl (((100 * b) + (10 * r)) + c)), some (.inl (1 + (S 13 0 (((100 * b) + (10 * r)) + c))))], [.inl (sm (fun r => ctR (fun c => w = 0 ∨ isN S c = w) (100 * b + 10 * r) (S 0 b 1).toNat) r.toNat + sm (fun c => bi ((fun c => w = 0 ∨ isN S c = w) (100 * b + 10 * r + c))) c.toNat)], M) _)
                  refine ev_if (fun h89 => ?_) (fun h89 => ?_)
                  · refine seg_ok 6 (⟨by omega, by omega, ?_⟩ : ((-2147483648 : Int) ≤ ((sm (fun r => ctR (fun c => w = 0 ∨ isN S c = w) (100 * b + 10 * r) (S 0 b 1).toNat) r.toNat + sm (fun c => bi ((fun c => w = 0 ∨ isN S c = w) (100 * b + 10 * r + c))) c.toNat) + 1) ∧ ((sm (fun r => ctR (fun c => w = 0 ∨ isN S c = w) (100 * b + 10 * r) (S 0 b 1).toNat) r.toNat + sm (fun c => bi ((fun c => w = 0 ∨ isN S c = w) (100 * b + 10 * r + c))) c.toNat) + 1) < 2147483648) ∧ ((-2147483648 : Int) ≤ (c + 1) ∧ (c + 1) < 2147483648) ∧ EvI X E_X8_counted (19, [some (.inr (.inr (some (8, 0, 0)))), some (.inl b), some (.inl w), some (.inl ((sm (fun r => ctR (fun c => w = 0 ∨ isN S c = w) (100 * b + 10 * r) (S 0 b 1).toNat) r.toNat + sm (fun c => bi ((fun c => w = 0 ∨ isN S c = w) (100 * b + 10 * r + c))) c.toNat) + 1)), some (.inl r), some (.inl (c + 1)), some (.inl (((100 * b) + (10 * r)) + c)), some (.inl (1 + (S 13 0 (((100 * b) + (10 * r)) + c))))], [], M) _)
                    refine ih19 ((sm (fun r => ctR (fun c => w = 0 ∨ isN S c = w) (100 * b + 10 * r) (S 0 b 1).toNat) r.toNat + sm (fun c => bi ((fun c => w = 0 ∨ isN S c = w) (100 * b + 10 * r + c))) c.toNat) + 1) (c + 1) (some (.inl (((100 * b) + (10 * r)) + c))) (some (.inl (1 + (S 13 0 (((100 * b) + (10 * r)) + c))))) (by omega) (by omega) (by omega) (by rw [sm_step p1]; exact acc (is1 (Or.inr ((isN_1 h51).trans h89))))
                  · refine seg_ok 5 (⟨by omega, by omega, ?_⟩ : ((-2147483648 : Int) ≤ ((sm (fun r => ctR (fun c => w = 0 ∨ isN S c = w) (100 * b + 10 * r) (S 0 b 1).toNat) r.toNat + sm (fun c => bi ((fun c => w = 0 ∨ isN S c = w) (100 * b + 10 * r + c))) c.toNat) + 0) ∧ ((sm (fun r => ctR (fun c => w = 0 ∨ isN S c = w) (100 * b + 10 * r) (S 0 b 1).toNat) r.toNat + sm (fun c => bi ((fun c => w = 0 ∨ isN S c = w) (100 * b + 10 * r + c))) c.toNat) + 0) < 2147483648) ∧ ((-2147483648 : Int) ≤ (c + 1) ∧ (c + 1) < 2147483648) ∧ EvI X E_X8_counted (19, [some (.inr (.inr (some (8, 0, 0)))), some (.inl b), some (.inl w), some (.inl ((sm (fun r => ctR (fun c => w = 0 ∨ isN S c = w) (100 * b + 10 * r) (S 0 b 1).toNat) r.toNat + sm (fun c => bi ((fun c => w = 0 ∨ isN S c = w) (100 * b + 10 * r + c))) c.toNat) + 0)), some (.inl r), some (.inl (c + 1)), some (.inl (((100 * b) + (10 * r)) + c)), some (.inl (1 + (S 13 0 (((100 * b) + (10 * r)) + c))))], [], M) _)
                    refine ih19 ((sm (fun r => ctR (fun c => w = 0 ∨ isN S c = w) (100 * b + 10 * r) (S 0 b 1).toNat) r.toNat + sm (fun c => bi ((fun c => w = 0 ∨ isN S c = w) (100 * b + 10 * r + c))) c.toNat) + 0) (c + 1) (some (.inl (((100 * b) + (10 * r)) + c))) (some (.inl (1 + (S 13 0 (((100 * b) + (10 * r)) + c))))) (by omega) (by omega) (by omega) (by rw [sm_step p1]; exact acc (is0 (fun z => z.elim h83 (fun z => h89 ((isN_1 h51).symm.trans z)))))
              · refine seg_ok 2 (?_ : EvI X E_X8_counted (68, [some (.inr (.inr (some (8, 0, 0)))), some (.inl b), some (.inl w), some (.inl (sm (fun r => ctR (fun c => w = 0 ∨ isN S c = w) (100 * b + 10 * r) (S 0 b 1).toNat) r.toNat + sm (fun c => bi ((fun c => w = 0 ∨ isN S c = w) (100 * b + 10 * r + c))) c.toNat)), some (.inl r), some (.inl c), some (.inl (((100 * b) + (10 * r)) + c)), d19_7], [.inl (((100 * b) + (10 * r)) + c), .inr (.inr (some (8, 0, 0)))], M) _)
                refine ev_clp (v := .inl (bi (kl S (((100 * b) + (10 * r)) + c)))) (z := z_X8_isKilled) (as := [.inr (.inr (some (8, 0, 0))), .inl (((100 * b) + (10 * r)) + c)]) (rest := []) rfl (c_isKilled hW (by omega)) (?_ : EvI X E_X8_counted (71, [some (.inr (.inr (some (8, 0, 0)))), some (.inl b), some (.inl w), some (.inl (sm (fun r => ctR (fun c => w = 0 ∨ isN S c = w) (100 * b + 10 * r) (S 0 b 1).toNat) r.toNat + sm (fun c => bi ((fun c => w = 0 ∨ isN S c = w) (100 * b + 10 * r + c))) c.toNat)), some (.inl r), some (.inl c), some (.inl (((100 * b) + (10 * r)) + c)), d19_7], [.inl (bi (kl S (((100 * b) + (10 * r)) + c)))], M) _)
                refine seg_ok 1 (?_ : EvI X E_X8_counted (if (bi (kl S (((100 * b) + (10 * r)) + c))) = 0 then 78 else 74, [some (.inr (.inr (some (8, 0, 0)))), some (.inl b), some (.inl w), some (.inl (sm (fun r => ctR (fun c => w = 0 ∨ isN S c = w) (100 * b + 10 * r) (S 0 b 1).toNat) r.toNat + sm (fun c => bi ((fun c => w = 0 ∨ isN S c = w) (100 * b + 10 * r + c))) c.toNat)), some (.inl r), some (.inl c), some (.inl (((100 * b) + (10 * r)) + c)), d19_7], [], M) _)
                refine ev_ifb (fun h71 => ?_) (fun h71 => ?_)
                · refine seg_ok 5 (?_ : EvI X E_X8_counted (if w = 0 then 92 else 86, [some (.inr (.inr (some (8, 0, 0)))), some (.inl b), some (.inl w), some (.inl (sm (fun r => ctR (fun c => w = 0 ∨ isN S c = w) (100 * b + 10 * r) (S 0 b 1).toNat) r.toNat + sm (fun c => bi ((fun c => w = 0 ∨ isN S c = w) (100 * b + 10 * r + c))) c.toNat)), some (.inl r), some (.inl c), some (.inl (((100 * b) + (10 * r)) + c)), some (.inl 5)], [.inl (sm (fun r => ctR (fun c => w = 0 ∨ isN S c = w) (100 * b + 10 * r) (S 0 b 1).toNat) r.toNat + sm (fun c => bi ((fun c => w = 0 ∨ isN S c = w) (100 * b + 10 * r + c))) c.toNat)], M) _)
                  refine ev_if (fun h83 => ?_) (fun h83 => ?_)
                  · refine seg_ok 6 (⟨by omega, by omega, ?_⟩ : ((-2147483648 : Int) ≤ ((sm (fun r => ctR (fun c => w = 0 ∨ isN S c = w) (100 * b + 10 * r) (S 0 b 1).toNat) r.toNat + sm (fun c => bi ((fun c => w = 0 ∨ isN S c = w) (100 * b + 10 * r + c))) c.toNat) + 1) ∧ ((sm (fun r => ctR (fun c => w = 0 ∨ isN S c = w) (100 * b + 10 * r) (S 0 b 1).toNat) r.toNat + sm (fun c => bi ((fun c => w = 0 ∨ isN S c = w) (100 * b + 10 * r + c))) c.toNat) + 1) < 2147483648) ∧ ((-2147483648 : Int) ≤ (c + 1) ∧ (c + 1) < 2147483648) ∧ EvI X E_X8_counted (19, [some (.inr (.inr (some (8, 0, 0)))), some (.inl b), some (.inl w), some (.inl ((sm (fun r => ctR (fun c => w = 0 ∨ isN S c = w) (100 * b + 10 * r) (S 0 b 1).toNat) r.toNat + sm (fun c => bi ((fun c => w = 0 ∨ isN S c = w) (100 * b + 10 * r + c))) c.toNat) + 1)), some (.inl r), some (.inl (c + 1)), some (.inl (((100 * b) + (10 * r)) + c)), some (.inl 5)], [], M) _)
                    refine ih19 ((sm (fun r => ctR (fun c => w = 0 ∨ isN S c = w) (100 * b + 10 * r) (S 0 b 1).toNat) r.toNat + sm (fun c => bi ((fun c => w = 0 ∨ isN S c = w) (100 * b + 10 * r + c))) c.toNat) + 1) (c + 1) (some (.inl (((100 * b) + (10 * r)) + c))) (some (.inl 5)) (by omega) (by omega) (by omega) (by rw [sm_step p1]; exact acc (is1 (Or.inl h83)))
                  · refine seg_ok 3 (?_ : EvI X E_X8_counted (if 5 = w then 92 else 96, [some (.inr (.inr (some (8, 0, 0)))), some (.inl b), some (.inl w), some (.inl (sm (fun r => ctR (fun c => w = 0 ∨ isN S c = w) (100 * b + 10 * r) (S 0 b 1).toNat) r.toNat + sm (fun c => bi ((fun c => w = 0 ∨ isN S c = w) (100 * b + 10 * r + c))) c.toNat)), some (.inl r), some (.inl c), some (.inl (((100 * b) + (10 * r)) + c)), some (.inl 5)], [.inl (sm (fun r => ctR (fun c => w = 0 ∨ isN S c = w) (100 * b + 10 * r) (S 0 b 1).toNat) r.toNat + sm (fun c => bi ((fun c => w = 0 ∨ isN S c = w) (100 * b + 10 * r + c))) c.toNat)], M) _)
                    refine ev_if (fun h89 => ?_) (fun h89 => ?_)
                    · refine seg_ok 6 (⟨by omega, by omega, ?_⟩ : ((-2147483648 : Int) ≤ ((sm (fun r => ctR (fun c => w = 0 ∨ isN S c = w) (100 * b + 10 * r) (S 0 b 1).toNat) r.toNat + sm (fun c => bi ((fun c => w = 0 ∨ isN S c = w) (100 * b + 10 * r + c))) c.toNat) + 1) ∧ ((sm (fun r => ctR (fun c => w = 0 ∨ isN S c = w) (100 * b + 10 * r) (S 0 b 1).toNat) r.toNat + sm (fun c => bi ((fun c => w = 0 ∨ isN S c = w) (100 * b + 10 * r + c))) c.toNat) + 1) < 2147483648) ∧ ((-2147483648 : Int) ≤ (c + 1) ∧ (c + 1) < 2147483648) ∧ EvI X E_X8_counted (19, [some (.inr (.inr (some (8, 0, 0)))), some (.inl b), some (.inl w), some (.inl ((sm (fun r => ctR (fun c => w = 0 ∨ isN S c = w) (100 * b + 10 * r) (S 0 b 1).toNat) r.toNat + sm (fun c => bi ((fun c => w = 0 ∨ isN S c = w) (100 * b + 10 * r + c))) c.toNat) + 1)), some (.inl r), some (.inl (c + 1)), some (.inl (((100 * b) + (10 * r)) + c)), some (.inl 5)], [], M) _)
                      refine ih19 ((sm (fun r => ctR (fun c => w = 0 ∨ isN S c = w) (100 * b + 10 * r) (S 0 b 1).toNat) r.toNat + sm (fun c => bi ((fun c => w = 0 ∨ isN S c = w) (100 * b + 10 * r + c))) c.toNat) + 1) (c + 1) (some (.inl (((100 * b) + (10 * r)) + c))) (some (.inl 5)) (by omega) (by omega) (by omega) (by rw [sm_step p1]; exact acc (is1 (Or.inr ((isN_3 h51 h71).trans h89))))
                    · refine seg_ok 5 (⟨by omega, by omega, ?_⟩ : ((-2147483648 : Int) ≤ ((sm (fun r => ctR (fun c => w = 0 ∨ isN S c = w) (100 * b + 10 * r) (S 0 b 1).toNat) r.toNat + sm (fun c => bi ((fun c => w = 0 ∨ isN S c = w) (100 * b + 10 * r + c))) c.toNat) + 0) ∧ ((sm (fun r => ctR (fun c => w = 0 ∨ isN S c = w) (100 * b + 10 * r) (S 0 b 1).toNat) r.toNat + sm (fun c => bi ((fun c => w = 0 ∨ isN S c = w) (100 * b + 10 * r + c))) c.toNat) + 0) < 2147483648) ∧ ((-2147483648 : Int) ≤ (c + 1) ∧ (c + 1) < 2147483648) ∧ EvI X E_X8_counted (19, [some (.inr (.inr (some (8, 0, 0)))), some (.inl b), some (.inl w), some (.inl ((sm (fun r => ctR (fun c => w = 0 ∨ isN S c = w) (100 * b + 10 * r) (S 0 b 1).toNat) r.toNat + sm (fun c => bi ((fun c => w = 0 ∨ isN S c = w) (100 * b + 10 * r + c))) c.toNat) + 0)), some (.inl r), some (.inl (c + 1)), some (.inl (((100 * b) + (10 * r)) + c)), some (.inl 5)], [], M) _)
                      refine ih19 ((sm (fun r => ctR (fun c => w = 0 ∨ isN S c = w) (100 * b + 10 * r) (S 0 b 1).toNat) r.toNat + sm (fun c => bi ((fun c => w = 0 ∨ isN S c = w) (100 * b + 10 * r + c))) c.toNat) + 0) (c + 1) (some (.inl (((100 * b) + (10 * r)) + c))) (some (.inl 5)) (by omega) (by omega) (by omega) (by rw [sm_step p1]; exact acc (is0 (fun z => z.elim h83 (fun z => h89 ((isN_3 h51 h71).symm.trans z)))))
                · refine seg_ok 6 (?_ : EvI X E_X8_counted (if w = 0 then 92 else 86, [some (.inr (.inr (some (8, 0, 0)))), some (.inl b), some (.inl w), some (.inl (sm (fun r => ctR (fun c => w = 0 ∨ isN S c = w) (100 * b + 10 * r) (S 0 b 1).toNat) r.toNat + sm (fun c => bi ((fun c => w = 0 ∨ isN S c = w) (100 * b + 10 * r + c))) c.toNat)), some (.inl r), some (.inl c), some (.inl (((100 * b) + (10 * r)) + c)), some (.inl 1)], [.inl (sm (fun r => ctR (fun c => w = 0 ∨ isN S c = w) (100 * b + 10 * r) (S 0 b 1).toNat) r.toNat + sm (fun c => bi ((fun c => w = 0 ∨ isN S c = w) (100 * b + 10 * r + c))) c.toNat)], M) _)
                  refine ev_if (fun h83 => ?_) (fun h83 => ?_)
                  · refine seg_ok 6 (⟨by omega, by omega, ?_⟩ : ((-2147483648 : Int) ≤ ((sm (fun r => ctR (fun c => w = 0 ∨ isN S c = w) (100 * b + 10 * r) (S 0 b 1).toNat) r.toNat + sm (fun c => bi ((fun c => w = 0 ∨ isN S c = w) (100 * b + 10 * r + c))) c.toNat) + 1) ∧ ((sm (fun r => ctR (fun c => w = 0 ∨ isN S c = w) (100 * b + 10 * r) (S 0 b 1).toNat) r.toNat + sm (fun c => bi ((fun c => w = 0 ∨ isN S c = w) (100 * b + 10 * r + c))) c.toNat) + 1) < 2147483648) ∧ ((-2147483648 : Int) ≤ (c + 1) ∧ (c + 1) < 2147483648) ∧ EvI X E_X8_counted (19, [some (.inr (.inr (some (8, 0, 0)))), some (.inl b), some (.inl w), some (.inl ((sm (fun r => ctR (fun c => w = 0 ∨ isN S c = w) (100 * b + 10 * r) (S 0 b 1).toNat) r.toNat + sm (fun c => bi ((fun c => w = 0 ∨ isN S c = w) (100 * b + 10 * r + c))) c.toNat) + 1)), some (.inl r), some (.inl (c + 1)), some (.inl (((100 * b) + (10 * r)) + c)), some (.inl 1)], [], M) _)
                    refine ih19 ((sm (fun r => ctR (fun c => w = 0 ∨ isN S c = w) (100 * b + 10 * r) (S 0 b 1).toNat) r.toNat + sm (fun c => bi ((fun c => w = 0 ∨ isN S c = w) (100 * b + 10 * r + c))) c.toNat) + 1) (c + 1) (some (.inl (((100 * b) + (10 * r)) + c))) (some (.inl 1)) (by omega) (by omega) (by omega) (by rw [sm_step p1]; exact acc (is1 (Or.inl h83)))
                  · refine seg_ok 3 (?_ : EvI X E_X8_counted (if 1 = w then 92 else 96, [some (.inr (.inr (some (8, 0, 0)))), some (.inl b), some (.inl w), some (.inl (sm (fun r => ctR (fun c => w = 0 ∨ isN S c = w) (100 * b + 10 * r) (S 0 b 1).toNat) r.toNat + sm (fun c => bi ((fun c => w = 0 ∨ isN S c = w) (100 * b + 10 * r + c))) c.toNat)), some (.inl r), some (.inl c), some (.inl (((100 * b) + (10 * r)) + c)), some (.inl 1)], [.inl (sm (fun r => ctR (fun c => w = 0 ∨ isN S c = w) (100 * b + 10 * r) (S 0 b 1).toNat) r.toNat + sm (fun c => bi ((fun c => w = 0 ∨ isN S c = w) (100 * b + 10 * r + c))) c.toNat)], M) _)
                    refine ev_if (fun h89 => ?_) (fun h89 => ?_)
                    · refine seg_ok 6 (⟨by omega, by omega, ?_⟩ : ((-2147483648 : Int) ≤ ((sm (fun r => ctR (fun c => w = 0 ∨ isN S c = w) (100 * b + 10 * r) (S 0 b 1).toNat) r.toNat + sm (fun c => bi ((fun c => w = 0 ∨ isN S c = w) (100 * b + 10 * r + c))) c.toNat) + 1) ∧ ((sm (fun r => ctR (fun c => w = 0 ∨ isN S c = w) (100 * b + 10 * r) (S 0 b 1).toNat) r.toNat + sm (fun c => bi ((fun c => w = 0 ∨ isN S c = w) (100 * b + 10 * r + c))) c.toNat) + 1) < 2147483648) ∧ ((-2147483648 : Int) ≤ (c + 1) ∧ (c + 1) < 2147483648) ∧ EvI X E_X8_counted (19, [some (.inr (.inr (some (8, 0, 0)))), some (.inl b), some (.inl w), some (.inl ((sm (fun r => ctR (fun c => w = 0 ∨ isN S c = w) (100 * b + 10 * r) (S 0 b 1).toNat) r.toNat + sm (fun c => bi ((fun c => w = 0 ∨ isN S c = w) (100 * b + 10 * r + c))) c.toNat) + 1)), some (.inl r), some (.inl (c + 1)), some (.inl (((100 * b) + (10 * r)) + c)), some (.inl 1)], [], M) _)
                      refine ih19 ((sm (fun r => ctR (fun c => w = 0 ∨ isN S c = w) (100 * b + 10 * r) (S 0 b 1).toNat) r.toNat + sm (fun c => bi ((fun c => w = 0 ∨ isN S c = w) (100 * b + 10 * r + c))) c.toNat) + 1) (c + 1) (some (.inl (((100 * b) + (10 * r)) + c))) (some (.inl 1)) (by omega) (by omega) (by omega) (by rw [sm_step p1]; exact acc (is1 (Or.inr ((isN_2 h51 h71).trans h89))))
                    · refine seg_ok 5 (⟨by omega, by omega, ?_⟩ : ((-2147483648 : Int) ≤ ((sm (fun r => ctR (fun c => w = 0 ∨ isN S c = w) (100 * b + 10 * r) (S 0 b 1).toNat) r.toNat + sm (fun c => bi ((fun c => w = 0 ∨ isN S c = w) (100 * b + 10 * r + c))) c.toNat) + 0) ∧ ((sm (fun r => ctR (fun c => w = 0 ∨ isN S c = w) (100 * b + 10 * r) (S 0 b 1).toNat) r.toNat + sm (fun c => bi ((fun c => w = 0 ∨ isN S c = w) (100 * b + 10 * r + c))) c.toNat) + 0) < 2147483648) ∧ ((-2147483648 : Int) ≤ (c + 1) ∧ (c + 1) < 2147483648) ∧ EvI X E_X8_counted (19, [some (.inr (.inr (some (8, 0, 0)))), some (.inl b), some (.inl w), some (.inl ((sm (fun r => ctR (fun c => w = 0 ∨ isN S c = w) (100 * b + 10 * r) (S 0 b 1).toNat) r.toNat + sm (fun c => bi ((fun c => w = 0 ∨ isN S c = w) (100 * b + 10 * r + c))) c.toNat) + 0)), some (.inl r), some (.inl (c + 1)), some (.inl (((100 * b) + (10 * r)) + c)), some (.inl 1)], [], M) _)
                      refine ih19 ((sm (fun r => ctR (fun c => w = 0 ∨ isN S c = w) (100 * b + 10 * r) (S 0 b 1).toNat) r.toNat + sm (fun c => bi ((fun c => w = 0 ∨ isN S c = w) (100 * b + 10 * r + c))) c.toNat) + 0) (c + 1) (some (.inl (((100 * b) + (10 * r)) + c))) (some (.inl 1)) (by omega) (by omega) (by omega) (by rw [sm_step p1]; exact acc (is0 (fun z => z.elim h83 (fun z => h89 ((isN_2 h51 h71).symm.trans z)))))
            · refine seg_ok 2 (⟨by omega, ?_⟩ : ((-2147483648 : Int) ≤ (r + 1) ∧ (r + 1) < 2147483648) ∧ EvI X E_X8_counted (5, [some (.inr (.inr (some (8, 0, 0)))), some (.inl b), some (.inl w), some (.inl (sm (fun r => ctR (fun c => w = 0 ∨ isN S c = w) (100 * b + 10 * r) (S 0 b 1).toNat) r.toNat + sm (fun c => bi ((fun c => w = 0 ∨ isN S c = w) (100 * b + 10 * r + c))) c.toNat)), some (.inl (r + 1)), some (.inl c), d19_6, d19_7], [], M) _)
              refine ih5 (sm (fun r => ctR (fun c => w = 0 ∨ isN S c = w) (100 * b + 10 * r) (S 0 b 1).toNat) r.toNat + sm (fun c => bi ((fun c => w = 0 ∨ isN S c = w) (100 * b + 10 * r + c))) c.toNat) (r + 1) (some (.inl c)) d19_6 d19_7 (by omega) (by omega) (by omega) (by rw [sm_step q1, show c = S 0 b 1 by omega]; rfl)
        refine L19 ((S 0 b 1 - 0) + 1 : Int).toNat (sm (fun r => ctR (fun c => w = 0 ∨ isN S c = w) (100 * b + 10 * r) (S 0 b 1).toNat) r.toNat) 0 d5_6 d5_7 (by omega) (by omega) (by omega) (Int.add_zero _).symm
      · refine seg_ok 1 (?_ : EvI X E_X8_counted (112, [some (.inr (.inr (some (8, 0, 0)))), some (.inl b), some (.inl w), some (.inl (sm (fun r => ctR (fun c => w = 0 ∨ isN S c = w) (100 * b + 10 * r) (S 0 b 1).toNat) r.toNat)), some (.inl r), d5_5, d5_6, d5_7], [.inl (sm (fun r => ctR (fun c => w = 0 ∨ isN S c = w) (100 * b + 10 * r) (S 0 b 1).toNat) r.toNat)], M) _)
        refine ev_rt (r := some (.inl (sm (fun r => ctR (fun c => w = 0 ∨ isN S c = w) (100 * b + 10 * r) (S 0 b 1).toNat) r.toNat))) rfl (?_)
        exact ⟨rint (by rw [show r = S 0 b 0 by omega]; rfl), rfl⟩
  refine L5 ((S 0 b 0 - 0) + 1 : Int).toNat 0 0 none none none (by omega) (by omega) (by omega) rfl
theorem c_countedAll {m : Int} {M : NM} {S : Sl} (hW : RW m M S) {w : Int} : HT X z_X8_countedAll [.inr (.inr (some (8, 0, 0))), .inl w] M (fun r M' => r = some (.inl (ctA S (fun c => w = 0 ∨ isN S c = w))) ∧ M' = M) := by
  have hs := hW.1.1
  have hi := hW.2.1
  unfold Iv0 at hi
  refine ht_of (e := E_X8_countedAll) rfl (?_ : EvI X E_X8_countedAll (0, [some (.inr (.inr (some (8, 0, 0)))), some (.inl w), none, none], [], M) _)
  refine seg_ok 4 (?_ : EvI X E_X8_countedAll (4, [some (.inr (.inr (some (8, 0, 0)))), some (.inl w), some (.inl 0), some (.inl 0)], [], M) _)
  have L4 : ∀ (m4 : Nat) (n b : Int), S 1 0 3 - b < (m4 : Int) → (0 ≤ b) → (b ≤ S 1 0 3) → (n = sm (fun b => ct S b (fun c => w = 0 ∨ isN S c = w)) b.toNat) → EvI X E_X8_countedAll (4, [some (.inr (.inr (some (8, 0, 0)))), some (.inl w), some (.inl n), some (.inl b)], [], M) (fun r M' => r = some (.inl (ctA S (fun c => w = 0 ∨ isN S c = w))) ∧ M' = M) := by
    intro m4
    induction m4 with
    | zero => intro n b hm4 q1 q2 q3; exact absurd hm4 (by omega)
    | succ m4 ih4 =>
      intro n b hm4 q1 q2 q3
      subst q3
      have g1 := ctA_bnd hW.2 (fun c => w = 0 ∨ isN S c = w) (n := b.toNat) (by omega)
      have g2 : b < S 1 0 3 → 0 ≤ ct S b (fun c => w = 0 ∨ isN S c = w) ∧ ct S b (fun c => w = 0 ∨ isN S c = w) ≤ 60 := fun z => ct_bnd hW.2 _ ⟨q1, z⟩
      refine seg_ok 6 (⟨by omega, ?_⟩ : ((0 : Int) ≤ 6 ∧ (6 : Int) < 589) ∧ EvI X E_X8_countedAll (if b < (M 17 0 0 6) then 15 else 30, [some (.inr (.inr (some (8, 0, 0)))), some (.inl w), some (.inl (sm (fun b => ct S b (fun c => w = 0 ∨ isN S c = w)) b.toNat)), some (.inl b)], [], M) _)
      refine ev_if (fun h12 => ?_) (fun h12 => ?_)
      · refine seg_ok 4 (?_ : EvI X E_X8_countedAll (19, [some (.inr (.inr (some (8, 0, 0)))), some (.inl w), some (.inl (sm (fun b => ct S b (fun c => w = 0 ∨ isN S c = w)) b.toNat)), some (.inl b)], [.inl w, .inl b, .inr (.inr (some (8, 0, 0))), .inl (sm (fun b => ct S b (fun c => w = 0 ∨ isN S c = w)) b.toNat)], M) _)
        refine ev_clp (v := .inl (ct S b (fun c => w = 0 ∨ isN S c = w))) (z := z_X8_counted) (as := [.inr (.inr (some (8, 0, 0))), .inl b, .inl w]) (rest := [.inl (sm (fun b => ct S b (fun c => w = 0 ∨ isN S c = w)) b.toNat)]) rfl (c_counted hW (by omega)) (?_ : EvI X E_X8_countedAll (22, [some (.inr (.inr (some (8, 0, 0)))), some (.inl w), some (.inl (sm (fun b => ct S b (fun c => w = 0 ∨ isN S c = w)) b.toNat)), some (.inl b)], [.inl (ct S b (fun c => w = 0 ∨ isN S c = w)), .inl (sm (fun b => ct S b (fun c => w = 0 ∨ isN S c = w)) b.toNat)], M) _)
        refine seg_ok 4 (⟨by omega, by omega, ?_⟩ : ((-2147483648 : Int) ≤ ((sm (fun b => ct S b (fun c => w = 0 ∨ isN S c = w)) b.toNat) + (ct S b (fun c => w = 0 ∨ isN S c = w))) ∧ ((sm (fun b => ct S b (fun c => w = 0 ∨ isN S c = w)) b.toNat) + (ct S b (fun c => w = 0 ∨ isN S c = w))) < 2147483648) ∧ ((-2147483648 : Int) ≤ (b + 1) ∧ (b + 1) < 2147483648) ∧ EvI X E_X8_countedAll (4, [some (.inr (.inr (some (8, 0, 0)))), some (.inl w), some (.inl ((sm (fun b => ct S b (fun c => w = 0 ∨ isN S c = w)) b.toNat) + (ct S b (fun c => w = 0 ∨ isN S c = w)))), some (.inl (b + 1))], [], M) _)
        refine ih4 ((sm (fun b => ct S b (fun c => w = 0 ∨ isN S c = w)) b.toNat) + (ct S b (fun c => w = 0 ∨ isN S c = w))) (b + 1) (by omega) (by omega) (by omega) (by rw [sm_step q1])
      · refine seg_ok 1 (?_ : EvI X E_X8_countedAll (31, [some (.inr (.inr (some (8, 0, 0)))), some (.inl w), some (.inl (sm (fun b => ct S b (fun c => w = 0 ∨ isN S c = w)) b.toNat)), some (.inl b)], [.inl (sm (fun b => ct S b (fun c => w = 0 ∨ isN S c = w)) b.toNat)], M) _)
        refine ev_rt (r := some (.inl (sm (fun b => ct S b (fun c => w = 0 ∨ isN S c = w)) b.toNat))) rfl (?_)
        exact ⟨rint (by rw [show b = S 1 0 3 by omega]; rfl), rfl⟩
  refine L4 ((S 1 0 3 - 0) + 1 : Int).toNat 0 0 (by omega) (by omega) (by omega) rfl
theorem i32s {b : Int} (h0 : 0 ≤ b) (h : b < 1000) : (-2147483648 : Int) ≤ b + 1 ∧ b + 1 < 2147483648 := by omega
theorem acc3 {a s x : Int} : a + s + x = a + (s + x) := by omega
set_option maxRecDepth 2610 in
theorem c_killedBy {m : Int} {M : NM} {S : Sl} (hW : RW m M S) {g fr tk : Int} (hg : 0 ≤ g ∧ g < 4) : HT X z_X8_killedBy [.inr (.inr (some (8, 0, 0))), .inl g, .inl fr, .inl tk] M (fun r M' => r = some (.inl (ctA S (fun c => fo S g c ∧ ¬ (fr ≠ 0 ∧ kl S c) ∧ ¬ (tk ≠ 0 ∧ S 13 0 c = 0)))) ∧ M' = M) := by
  have hs := hW.1.1
  have hi := hW.2.1
  unfold Iv0 at hi
  refine ht_of (e := E_X8_killedBy) rfl (?_ : EvI X E_X8_killedBy (0, [some (.inr (.inr (some (8, 0, 0)))), some (.inl g), some (.inl fr), some (.inl tk), none, none, none, none, none], [], M) _)
  refine seg_ok 4 (?_ : EvI X E_X8_killedBy (6, [some (.inr (.inr (some (8, 0, 0)))), some (.inl g), some (.inl fr), some (.inl tk), some (.inl 0), some (.inl 0), none, none, none], [], M) _)
  have L6 : ∀ (m6 : Nat) (n0 b : Int) (d6_6 d6_7 d6_8 : Option U), S 1 0 3 - b < (m6 : Int) → (0 ≤ b) → (b ≤ S 1 0 3) → (n0 = sm (fun b => ct S b (fun c => fo S g c ∧ ¬ (fr ≠ 0 ∧ kl S c) ∧ ¬ (tk ≠ 0 ∧ S 13 0 c = 0))) b.toNat) → EvI X E_X8_killedBy (6, [some (.inr (.inr (some (8, 0, 0)))), some (.inl g), some (.inl fr), some (.inl tk), some (.inl n0), some (.inl b), d6_6, d6_7, d6_8], [], M) (fun r M' => r = some (.inl (ctA S (fun c => fo S g c ∧ ¬ (fr ≠ 0 ∧ kl S c) ∧ ¬ (tk ≠ 0 ∧ S 13 0 c = 0)))) ∧ M' = M) := by
    intro m6
    induction m6 with
    | zero => intro n0 b d6_6 d6_7 d6_8 hm6 o1 o2 o3; exact absurd hm6 (by omega)
    | succ m6 ih6 =>
      intro n0 b d6_6 d6_7 d6_8 hm6 o1 o2 o3
      subst o3
      have g0 := ctA_bnd hW.2 (fun c => fo S g c ∧ ¬ (fr ≠ 0 ∧ kl S c) ∧ ¬ (tk ≠ 0 ∧ S 13 0 c = 0)) (n := b.toNat) (by omega)
      refine seg_ok 6 (⟨by omega, ?_⟩ : ((0 : Int) ≤ 6 ∧ (6 : Int) < 589) ∧ EvI X E_X8_killedBy (if b < (M 17 0 0 6) then 18 else 128, [some (.inr (.inr (some (8, 0, 0)))), some (.inl g), some (.inl fr), some (.inl tk), some (.inl (sm (fun b => ct S b (fun c => fo S g c ∧ ¬ (fr ≠ 0 ∧ kl S c) ∧ ¬ (tk ≠ 0 ∧ S 13 0 c = 0))) b.toNat)), some (.inl b), d6_6, d6_7, d6_8], [], M) _)
      refine ev_if (fun h15 => ?_) (fun h15 => ?_)
      · have hb6 : b < S 1 0 3 := by omega
        have hb7 : b < 1000 := by omega
        have hb := hW.2.2.1 b o1 hb6
        refine seg_ok 2 (?_ : EvI X E_X8_killedBy (21, [some (.inr (.inr (some (8, 0, 0)))), some (.inl g), some (.inl fr), some (.inl tk), some (.inl (sm (fun b => ct S b (fun c => fo S g c ∧ ¬ (fr ≠ 0 ∧ kl S c) ∧ ¬ (tk ≠ 0 ∧ S 13 0 c = 0))) b.toNat)), some (.inl b), some (.inl 0), d6_7, d6_8], [], M) _)
        have L21 : ∀ (m21 : Nat) (n r : Int) (d21_7 d21_8 : Option U), S 0 b 0 - r < (m21 : Int) → (0 ≤ r) → (r ≤ S 0 b 0) → (n = sm (fun b => ct S b (fun c => fo S g c ∧ ¬ (fr ≠ 0 ∧ kl S c) ∧ ¬ (tk ≠ 0 ∧ S 13 0 c = 0))) b.toNat + sm (fun r => ctR (fun c => fo S g c ∧ ¬ (fr ≠ 0 ∧ kl S c) ∧ ¬ (tk ≠ 0 ∧ S 13 0 c = 0)) (100 * b + 10 * r) (S 0 b 1).toNat) r.toNat) → EvI X E_X8_killedBy (21, [some (.inr (.inr (some (8, 0, 0)))), some (.inl g), some (.inl fr), some (.inl tk), some (.inl n), some (.inl b), some (.inl r), d21_7, d21_8], [], M) (fun r M' => r = some (.inl (ctA S (fun c => fo S g c ∧ ¬ (fr ≠ 0 ∧ kl S c) ∧ ¬ (tk ≠ 0 ∧ S 13 0 c = 0)))) ∧ M' = M) := by
          intro m21
          induction m21 with
          | zero => intro n r d21_7 d21_8 hm21 q1 q2 q3; exact absurd hm21 (by omega)
          | succ m21 ih21 =>
            intro n r d21_7 d21_8 hm21 q1 q2 q3
            subst q3
            have g1 := ctS_bnd (fun c => fo S g c ∧ ¬ (fr ≠ 0 ∧ kl S c) ∧ ¬ (tk ≠ 0 ∧ S 13 0 c = 0)) b (C := (S 0 b 1).toNat) (by omega) r.toNat
            refine seg_ok 4 (?_ : EvI X E_X8_killedBy (27, [some (.inr (.inr (some (8, 0, 0)))), some (.inl g), some (.inl fr), some (.inl tk), some (.inl (sm (fun b => ct S b (fun c => fo S g c ∧ ¬ (fr ≠ 0 ∧ kl S c) ∧ ¬ (tk ≠ 0 ∧ S 13 0 c = 0))) b.toNat + sm (fun r => ctR (fun c => fo S g c ∧ ¬ (fr ≠ 0 ∧ kl S c) ∧ ¬ (tk ≠ 0 ∧ S 13 0 c = 0)) (100 * b + 10 * r) (S 0 b 1).toNat) r.toNat)), some (.inl b), some (.inl r), d21_7, d21_8], [.inl 0, .inl b, .inr (.inr (some (8, 0, 0))), .inl r], M) _)
            refine ev_clp (v := .inl (S 0 b 0)) (z := z_X8_of) (as := [.inr (.inr (some (8, 0, 0))), .inl b, .inl 0]) (rest := [.inl r]) rfl (c_of hW (by omega) (by omega)) (?_ : EvI X E_X8_killedBy (30, [some (.inr (.inr (some (8, 0, 0)))), some (.inl g), some (.inl fr), some (.inl tk), some (.inl (sm (fun b => ct S b (fun c => fo S g c ∧ ¬ (fr ≠ 0 ∧ kl S c) ∧ ¬ (tk ≠ 0 ∧ S 13 0 c = 0))) b.toNat + sm (fun r => ctR (fun c => fo S g c ∧ ¬ (fr ≠ 0 ∧ kl S c) ∧ ¬ (tk ≠ 0 ∧ S 13 0 c = 0)) (100 * b + 10 * r) (S 0 b 1).toNat) r.toNat)), some (.inl b), some (.inl r), d21_7, d21_8], [.inl (S 0 b 0), .inl r], M) _)
            refine seg_ok 1 (?_ : EvI X E_X8_killedBy (if r < (S 0 b 0) then 33 else 122, [some (.inr (.inr (some (8, 0, 0)))), some (.inl g), some (.inl fr), some (.inl tk), some (.inl (sm (fun b => ct S b (fun c => fo S g c ∧ ¬ (fr ≠ 0 ∧ kl S c) ∧ ¬ (tk ≠ 0 ∧ S 13 0 c = 0))) b.toNat + sm (fun r => ctR (fun c => fo S g c ∧ ¬ (fr ≠ 0 ∧ kl S c) ∧ ¬ (tk ≠ 0 ∧ S 13 0 c = 0)) (100 * b + 10 * r) (S 0 b 1).toNat) r.toNat)), some (.inl b), some (.inl r), d21_7, d21_8], [], M) _)
            refine ev_if (fun h30 => ?_) (fun h30 => ?_)
            · refine seg_ok 2 (?_ : EvI X E_X8_killedBy (36, [some (.inr (.inr (some (8, 0, 0)))), some (.inl g), some (.inl fr), some (.inl tk), some (.inl (sm (fun b => ct S b (fun c => fo S g c ∧ ¬ (fr ≠ 0 ∧ kl S c) ∧ ¬ (tk ≠ 0 ∧ S 13 0 c = 0))) b.toNat + sm (fun r => ctR (fun c => fo S g c ∧ ¬ (fr ≠ 0 ∧ kl S c) ∧ ¬ (tk ≠ 0 ∧ S 13 0 c = 0)) (100 * b + 10 * r) (S 0 b 1).toNat) r.toNat)), some (.inl b), some (.inl r), some (.inl 0), d21_8], [], M) _)
              have L36 : ∀ (m36 : Nat) (n2 c : Int) (d36_8 : Option U), S 0 b 1 - c < (m36 : Int) → (0 ≤ c) → (c ≤ S 0 b 1) → (n2 = sm (fun b => ct S b (fun c => fo S g c ∧ ¬ (fr ≠ 0 ∧ kl S c) ∧ ¬ (tk ≠ 0 ∧ S 13 0 c = 0))) b.toNat + sm (fun r => ctR (fun c => fo S g c ∧ ¬ (fr ≠ 0 ∧ kl S c) ∧ ¬ (tk ≠ 0 ∧ S 13 0 c = 0)) (100 * b + 10 * r) (S 0 b 1).toNat) r.toNat + sm (fun c => bi ((fun c => fo S g c ∧ ¬ (fr ≠ 0 ∧ kl S c) ∧ ¬ (tk ≠ 0 ∧ S 13 0 c = 0)) (100 * b + 10 * r + c))) c.toNat) → EvI X E_X8_killedBy (36, [some (.inr (.inr (some (8, 0, 0)))), some (.inl g), some (.inl fr), some (.inl tk), some (.inl n2), some (.inl b), some (.inl r), some (.inl c), d36_8], [], M) (fun r M' => r = some (.inl (ctA S (fun c => fo S g c ∧ ¬ (fr ≠ 0 ∧ kl S c) ∧ ¬ (tk ≠ 0 ∧ S 13 0 c = 0)))) ∧ M' = M) := by
                intro m36
                induction m36 with
                | zero => intro n2 c d36_8 hm36 p1 p2 p3; exact absurd hm36 (by omega)
                | succ m36 ih36 =>
                  intro n2 c d36_8 hm36 p1 p2 p3
                  subst p3
                  have g2 := smb_bnd (fun c => (fun c => fo S g c ∧ ¬ (fr ≠ 0 ∧ kl S c) ∧ ¬ (tk ≠ 0 ∧ S 13 0 c = 0)) (100 * b + 10 * r + c)) c.toNat
                  refine seg_ok 4 (?_ : EvI X E_X8_killedBy (42, [some (.inr (.inr (some (8, 0, 0)))), some (.inl g), some (.inl fr), some (.inl tk), some (.inl (sm (fun b => ct S b (fun c => fo S g c ∧ ¬ (fr ≠ 0 ∧ kl S c) ∧ ¬ (tk ≠ 0 ∧ S 13 0 c = 0))) b.toNat + sm (fun r => ctR (fun c => fo S g c ∧ ¬ (fr ≠ 0 ∧ kl S c) ∧ ¬ (tk ≠ 0 ∧ S 13 0 c = 0)) (100 * b + 10 * r) (S 0 b 1).toNat) r.toNat + sm (fun c => bi ((fun c => fo S g c ∧ ¬ (fr ≠ 0 ∧ kl S c) ∧ ¬ (tk ≠ 0 ∧ S 13 0 c = 0)) (100 * b + 10 * r + c))) c.toNat)), some (.inl b), some (.inl r), some (.inl c), d36_8], [.inl 1, .inl b, .inr (.inr (some (8, 0, 0))), .inl c], M) _)
                  refine ev_clp (v := .inl (S 0 b 1)) (z := z_X8_of) (as := [.inr (.inr (some (8, 0, 0))), .inl b, .inl 1]) (rest := [.inl c]) rfl (c_of hW (by omega) (by omega)) (?_ : EvI X E_X8_killedBy (45, [some (.inr (.inr (some (8, 0, 0)))), some (.inl g), some (.inl fr), some (.inl tk), some (.inl (sm (fun b => ct S b (fun c => fo S g c ∧ ¬ (fr ≠ 0 ∧ kl S c) ∧ ¬ (tk ≠ 0 ∧ S 13 0 c = 0))) b.toNat + sm (fun r => ctR (fun c => fo S g c ∧ ¬ (fr ≠ 0 ∧ kl S c) ∧ ¬ (tk ≠ 0 ∧ S 13 0 c = 0)) (100 * b + 10 * r) (S 0 b 1).toNat) r.toNat + sm (fun c => bi ((fun c => fo S g c ∧ ¬ (fr ≠ 0 ∧ kl S c) ∧ ¬ (tk ≠ 0 ∧ S 13 0 c = 0)) (100 * b + 10 * r + c))) c.toNat)), some (.inl b), some (.inl r), some (.inl c), d36_8], [.inl (S 0 b 1), .inl c], M) _)
                  refine seg_ok 1 (?_ : EvI X E_X8_killedBy (if c < (S 0 b 1) then 48 else 116, [some (.inr (.inr (some (8, 0, 0)))), some (.inl g), some (.inl fr), some (.inl tk), some (.inl (sm (fun b => ct S b (fun c => fo S g c ∧ ¬ (fr ≠ 0 ∧ kl S c) ∧ ¬ (tk ≠ 0 ∧ S 13 0 c = 0))) b.toNat + sm (fun r => ctR (fun c => fo S g c ∧ ¬ (fr ≠ 0 ∧ kl S c) ∧ ¬ (tk ≠ 0 ∧ S 13 0 c = 0)) (100 * b + 10 * r) (S 0 b 1).toNat) r.toNat + sm (fun c => bi ((fun c => fo S g c ∧ ¬ (fr ≠ 0 ∧ kl S c) ∧ ¬ (tk ≠ 0 ∧ S 13 0 c = 0)) (100 * b + 10 * r + c))) c.toNat)), some (.inl b), some (.inl r), some (.inl c), d36_8], [], M) _)
                  refine ev_if (fun h45 => ?_) (fun h45 => ?_)
                  · refine seg_ok 14 (⟨by omega, by omega, by omega, by omega, ?_⟩ : ((-2147483648 : Int) ≤ (100 * b) ∧ (100 * b) < 2147483648) ∧ ((-2147483648 : Int) ≤ (10 * r) ∧ (10 * r) < 2147483648) ∧ ((-2147483648 : Int) ≤ ((100 * b) + (10 * r)) ∧ ((100 * b) + (10 * r)) < 2147483648) ∧ ((-2147483648 : Int) ≤ (((100 * b) + (10 * r)) + c) ∧ (((100 * b) + (10 * r)) + c) < 2147483648) ∧ EvI X E_X8_killedBy (70, [some (.inr (.inr (some (8, 0, 0)))), some (.inl g), some (.inl fr), some (.inl tk), some (.inl (sm (fun b => ct S b (fun c => fo S g c ∧ ¬ (fr ≠ 0 ∧ kl S c) ∧ ¬ (tk ≠ 0 ∧ S 13 0 c = 0))) b.toNat + sm (fun r => ctR (fun c => fo S g c ∧ ¬ (fr ≠ 0 ∧ kl S c) ∧ ¬ (tk ≠ 0 ∧ S 13 0 c = 0)) (100 * b + 10 * r) (S 0 b 1).toNat) r.toNat + sm (fun c => bi ((fun c => fo S g c ∧ ¬ (fr ≠ 0 ∧ kl S c) ∧ ¬ (tk ≠ 0 ∧ S 13 0 c = 0)) (100 * b + 10 * r + c))) c.toNat)), some (.inl b), some (.inl r), some (.inl c), some (.inl (((100 * b) + (10 * r)) + c))], [.inl (((100 * b) + (10 * r)) + c), .inl g, .inr (.inr (some (8, 0, 0))), .inl (sm (fun b => ct S b (fun c => fo S g c ∧ ¬ (fr ≠ 0 ∧ kl S c) ∧ ¬ (tk ≠ 0 ∧ S 13 0 c = 0))) b.toNat + sm (fun r => ctR (fun c => fo S g c ∧ ¬ (fr ≠ 0 ∧ kl S c) ∧ ¬ (tk ≠ 0 ∧ S 13 0 c = 0)) (100 * b + 10 * r) (S 0 b 1).toNat) r.toNat + sm (fun c => bi ((fun c => fo S g c ∧ ¬ (fr ≠ 0 ∧ kl S c) ∧ ¬ (tk ≠ 0 ∧ S 13 0 c = 0)) (100 * b + 10 * r + c))) c.toNat)], M) _)
                    refine ev_clp (v := .inl (bi (fo S g (((100 * b) + (10 * r)) + c)))) (z := z_X8_isFor) (as := [.inr (.inr (some (8, 0, 0))), .inl g, .inl (((100 * b) + (10 * r)) + c)]) (rest := [.inl (sm (fun b => ct S b (fun c => fo S g c ∧ ¬ (fr ≠ 0 ∧ kl S c) ∧ ¬ (tk ≠ 0 ∧ S 13 0 c = 0))) b.toNat + sm (fun r => ctR (fun c => fo S g c ∧ ¬ (fr ≠ 0 ∧ kl S c) ∧ ¬ (tk ≠ 0 ∧ S 13 0 c = 0)) (100 * b + 10 * r) (S 0 b 1).toNat) r.toNat + sm (fun c => bi ((fun c => fo S g c ∧ ¬ (fr ≠ 0 ∧ kl S c) ∧ ¬ (tk ≠ 0 ∧ S 13 0 c = 0)) (100 * b + 10 * r + c))) c.toNat)]) rfl (c_isFor hW (by omega) (by omega)) (?_ : EvI X E_X8_killedBy (73, [some (.inr (.inr (some (8, 0, 0)))), some (.inl g), some (.inl fr), some (.inl tk), some (.inl (sm (fun b => ct S b (fun c => fo S g c ∧ ¬ (fr ≠ 0 ∧ kl S c) ∧ ¬ (tk ≠ 0 ∧ S 13 0 c = 0))) b.toNat + sm (fun r => ctR (fun c => fo S g c ∧ ¬ (fr ≠ 0 ∧ kl S c) ∧ ¬ (tk ≠ 0 ∧ S 13 0 c = 0)) (100 * b + 10 * r) (S 0 b 1).toNat) r.toNat + sm (fun c => bi ((fun c => fo S g c ∧ ¬ (fr ≠ 0 ∧ kl S c) ∧ ¬ (tk ≠ 0 ∧ S 13 0 c = 0)) (100 * b + 10 * r + c))) c.toNat)), some (.inl b), some (.inl r), some (.inl c), some (.inl (((100 * b) + (10 * r)) + c))], [.inl (bi (fo S g (((100 * b) + (10 * r)) + c))), .inl (sm (fun b => ct S b (fun c => fo S g c ∧ ¬ (fr ≠ 0 ∧ kl S c) ∧ ¬ (tk ≠ 0 ∧ S 13 0 c = 0))) b.toNat + sm (fun r => ctR (fun c => fo S g c ∧ ¬ (fr ≠ 0 ∧ kl S c) ∧ ¬ (tk ≠ 0 ∧ S 13 0 c = 0)) (100 * b + 10 * r) (S 0 b 1).toNat) r.toNat + sm (fun c => bi ((fun c => fo S g c ∧ ¬ (fr ≠ 0 ∧ kl S c) ∧ ¬ (tk ≠ 0 ∧ S 13 0 c = 0)) (100 * b + 10 * r + c))) c.toNat)], M) _)
                    refine seg_ok 1 (?_ : EvI X E_X8_killedBy (if (bi (fo S g (((100 * b) + (10 * r)) + c))) = 0 then 106 else 76, [some (.inr (.inr (some (8, 0, 0)))), some (.inl g), some (.inl fr), some (.inl tk), some (.inl (sm (fun b => ct S b (fun c => fo S g c ∧ ¬ (fr ≠ 0 ∧ kl S c) ∧ ¬ (tk ≠ 0 ∧ S 13 0 c = 0))) b.toNat + sm (fun r => ctR (fun c => fo S g c ∧ ¬ (fr ≠ 0 ∧ kl S c) ∧ ¬ (tk ≠ 0 ∧ S 13 0 c = 0)) (100 * b + 10 * r) (S 0 b 1).toNat) r.toNat + sm (fun c => bi ((fun c => fo S g c ∧ ¬ (fr ≠ 0 ∧ kl S c) ∧ ¬ (tk ≠ 0 ∧ S 13 0 c = 0)) (100 * b + 10 * r + c))) c.toNat)), some (.inl b), some (.inl r), some (.inl c), some (.inl (((100 * b) + (10 * r)) + c))], [.inl (sm (fun b => ct S b (fun c => fo S g c ∧ ¬ (fr ≠ 0 ∧ kl S c) ∧ ¬ (tk ≠ 0 ∧ S 13 0 c = 0))) b.toNat + sm (fun r => ctR (fun c => fo S g c ∧ ¬ (fr ≠ 0 ∧ kl S c) ∧ ¬ (tk ≠ 0 ∧ S 13 0 c = 0)) (100 * b + 10 * r) (S 0 b 1).toNat) r.toNat + sm (fun c => bi ((fun c => fo S g c ∧ ¬ (fr ≠ 0 ∧ kl S c) ∧ ¬ (tk ≠ 0 ∧ S 13 0 c = 0)) (100 * b + 10 * r + c))) c.toNat)], M) _)
                    refine ev_ifb (fun h73 => ?_) (fun h73 => ?_)
                    · refine seg_ok 5 (⟨by omega, by omega, ?_⟩ : ((-2147483648 : Int) ≤ ((sm (fun b => ct S b (fun c => fo S g c ∧ ¬ (fr ≠ 0 ∧ kl S c) ∧ ¬ (tk ≠ 0 ∧ S 13 0 c = 0))) b.toNat + sm (fun r => ctR (fun c => fo S g c ∧ ¬ (fr ≠ 0 ∧ kl S c) ∧ ¬ (tk ≠ 0 ∧ S 13 0 c = 0)) (100 * b + 10 * r) (S 0 b 1).toNat) r.toNat + sm (fun c => bi ((fun c => fo S g c ∧ ¬ (fr ≠ 0 ∧ kl S c) ∧ ¬ (tk ≠ 0 ∧ S 13 0 c = 0)) (100 * b + 10 * r + c))) c.toNat) + 0) ∧ ((sm (fun b => ct S b (fun c => fo S g c ∧ ¬ (fr ≠ 0 ∧ kl S c) ∧ ¬ (tk ≠ 0 ∧ S 13 0 c = 0))) b.toNat + sm (fun r => ctR (fun c => fo S g c ∧ ¬ (fr ≠ 0 ∧ kl S c) ∧ ¬ (tk ≠ 0 ∧ S 13 0 c = 0)) (100 * b + 10 * r) (S 0 b 1).toNat) r.toNat + sm (fun c => bi ((fun c => fo S g c ∧ ¬ (fr ≠ 0 ∧ kl S c) ∧ ¬ (tk ≠ 0 ∧ S 13 0 c = 0)) (100 * b + 10 * r + c))) c.toNat) + 0) < 2147483648) ∧ ((-2147483648 : Int) ≤ (c + 1) ∧ (c + 1) < 2147483648) ∧ EvI X E_X8_killedBy (36, [some (.inr (.inr (some (8, 0, 0)))), some (.inl g), some (.inl fr), some (.inl tk), some (.inl ((sm (fun b => ct S b (fun c => fo S g c ∧ ¬ (fr ≠ 0 ∧ kl S c) ∧ ¬ (tk ≠ 0 ∧ S 13 0 c = 0))) b.toNat + sm (fun r => ctR (fun c => fo S g c ∧ ¬ (fr ≠ 0 ∧ kl S c) ∧ ¬ (tk ≠ 0 ∧ S 13 0 c = 0)) (100 * b + 10 * r) (S 0 b 1).toNat) r.toNat + sm (fun c => bi ((fun c => fo S g c ∧ ¬ (fr ≠ 0 ∧ kl S c) ∧ ¬ (tk ≠ 0 ∧ S 13 0 c = 0)) (100 * b + 10 * r + c))) c.toNat) + 0)), some (.inl b), some (.inl r), some (.inl (c + 1)), some (.inl (((100 * b) + (10 * r)) + c))], [], M) _)
                      refine ih36 ((sm (fun b => ct S b (fun c => fo S g c ∧ ¬ (fr ≠ 0 ∧ kl S c) ∧ ¬ (tk ≠ 0 ∧ S 13 0 c = 0))) b.toNat + sm (fun r => ctR (fun c => fo S g c ∧ ¬ (fr ≠ 0 ∧ kl S c) ∧ ¬ (tk ≠ 0 ∧ S 13 0 c = 0)) (100 * b + 10 * r) (S 0 b 1).toNat) r.toNat + sm (fun c => bi ((fun c => fo S g c ∧ ¬ (fr ≠ 0 ∧ kl S c) ∧ ¬ (tk ≠ 0 ∧ S 13 0 c = 0)) (100 * b + 10 * r + c))) c.toNat) + 0) (c + 1) (some (.inl (((100 * b) + (10 * r)) + c))) (by omega) (by omega) (by omega) (by rw [sm_step p1]; exact acc (is0 (fun z => h73 z.1)))
                    · refine seg_ok 2 (?_ : EvI X E_X8_killedBy (if fr = 0 then 89 else 80, [some (.inr (.inr (some (8, 0, 0)))), some (.inl g), some (.inl fr), some (.inl tk), some (.inl (sm (fun b => ct S b (fun c => fo S g c ∧ ¬ (fr ≠ 0 ∧ kl S c) ∧ ¬ (tk ≠ 0 ∧ S 13 0 c = 0))) b.toNat + sm (fun r => ctR (fun c => fo S g c ∧ ¬ (fr ≠ 0 ∧ kl S c) ∧ ¬ (tk ≠ 0 ∧ S 13 0 c = 0)) (100 * b + 10 * r) (S 0 b 1).toNat) r.toNat + sm (fun c => bi ((fun c => fo S g c ∧ ¬ (fr ≠ 0 ∧ kl S c) ∧ ¬ (tk ≠ 0 ∧ S 13 0 c = 0)) (100 * b + 10 * r + c))) c.toNat)), some (.inl b), some (.inl r), some (.inl c), some (.inl (((100 * b) + (10 * r)) + c))], [.inl (sm (fun b => ct S b (fun c => fo S g c ∧ ¬ (fr ≠ 0 ∧ kl S c) ∧ ¬ (tk ≠ 0 ∧ S 13 0 c = 0))) b.toNat + sm (fun r => ctR (fun c => fo S g c ∧ ¬ (fr ≠ 0 ∧ kl S c) ∧ ¬ (tk ≠ 0 ∧ S 13 0 c = 0)) (100 * b + 10 * r) (S 0 b 1).toNat) r.toNat + sm (fun c => bi ((fun c => fo S g c ∧ ¬ (fr ≠ 0 ∧ kl S c) ∧ ¬ (tk ≠ 0 ∧ S 13 0 c = 0)) (100 * b + 10 * r + c))) c.toNat)], M) _)
                      refine ev_if (fun h77 => ?_) (fun h77 => ?_)
                      · refine seg_ok 2 (?_ : EvI X E_X8_killedBy (if tk = 0 then 102 else 93, [some (.inr (.inr (some (8, 0, 0)))), some (.inl g), some (.inl fr), some (.inl tk), some (.inl (sm (fun b => ct S b (fun c => fo S g c ∧ ¬ (fr ≠ 0 ∧ kl S c) ∧ ¬ (tk ≠ 0 ∧ S 13 0 c = 0))) b.toNat + sm (fun r => ctR (fun c => fo S g c ∧ ¬ (fr ≠ 0 ∧ kl S c) ∧ ¬ (tk ≠ 0 ∧ S 13 0 c = 0)) (100 * b + 10 * r) (S 0 b 1).toNat) r.toNat + sm (fun c => bi ((fun c => fo S g c ∧ ¬ (fr ≠ 0 ∧ kl S c) ∧ ¬ (tk ≠ 0 ∧ S 13 0 c = 0)) (100 * b + 10 * r + c))) c.toNat)), some (.inl b), some (.inl r), some (.inl c), some (.inl (((100 * b) + (10 * r)) + c))], [.inl (sm (fun b => ct S b (fun c => fo S g c ∧ ¬ (fr ≠ 0 ∧ kl S c) ∧ ¬ (tk ≠ 0 ∧ S 13 0 c = 0))) b.toNat + sm (fun r => ctR (fun c => fo S g c ∧ ¬ (fr ≠ 0 ∧ kl S c) ∧ ¬ (tk ≠ 0 ∧ S 13 0 c = 0)) (100 * b + 10 * r) (S 0 b 1).toNat) r.toNat + sm (fun c => bi ((fun c => fo S g c ∧ ¬ (fr ≠ 0 ∧ kl S c) ∧ ¬ (tk ≠ 0 ∧ S 13 0 c = 0)) (100 * b + 10 * r + c))) c.toNat)], M) _)
                        refine ev_if (fun h90 => ?_) (fun h90 => ?_)
                        · refine seg_ok 6 (⟨by omega, by omega, ?_⟩ : ((-2147483648 : Int) ≤ ((sm (fun b => ct S b (fun c => fo S g c ∧ ¬ (fr ≠ 0 ∧ kl S c) ∧ ¬ (tk ≠ 0 ∧ S 13 0 c = 0))) b.toNat + sm (fun r => ctR (fun c => fo S g c ∧ ¬ (fr ≠ 0 ∧ kl S c) ∧ ¬ (tk ≠ 0 ∧ S 13 0 c = 0)) (100 * b + 10 * r) (S 0 b 1).toNat) r.toNat + sm (fun c => bi ((fun c => fo S g c ∧ ¬ (fr ≠ 0 ∧ kl S c) ∧ ¬ (tk ≠ 0 ∧ S 13 0 c = 0)) (100 * b + 10 * r + c))) c.toNat) + 1) ∧ ((sm (fun b => ct S b (fun c => fo S g c ∧ ¬ (fr ≠ 0 ∧ kl S c) ∧ ¬ (tk ≠ 0 ∧ S 13 0 c = 0))) b.toNat + sm (fun r => ctR (fun c => fo S g c ∧ ¬ (fr ≠ 0 ∧ kl S c) ∧ ¬ (tk ≠ 0 ∧ S 13 0 c = 0)) (100 * b + 10 * r) (S 0 b 1).toNat) r.toNat + sm (fun c => bi ((fun c => fo S g c ∧ ¬ (fr ≠ 0 ∧ kl S c) ∧ ¬ (tk ≠ 0 ∧ S 13 0 c = 0)) (100 * b + 10 * r + c))) c.toNat) + 1) < 2147483648) ∧ ((-2147483648 : Int) ≤ (c + 1) ∧ (c + 1) < 2147483648) ∧ EvI X E_X8_killedBy (36, [some (.inr (.inr (some (8, 0, 0)))), some (.inl g), some (.inl fr), some (.inl tk), some (.inl ((sm (fun b => ct S b (fun c => fo S g c ∧ ¬ (fr ≠ 0 ∧ kl S c) ∧ ¬ (tk ≠ 0 ∧ S 13 0 c = 0))) b.toNat + sm (fun r => ctR (fun c => fo S g c ∧ ¬ (fr ≠ 0 ∧ kl S c) ∧ ¬ (tk ≠ 0 ∧ S 13 0 c = 0)) (100 * b + 10 * r) (S 0 b 1).toNat) r.toNat + sm (fun c => bi ((fun c => fo S g c ∧ ¬ (fr ≠ 0 ∧ kl S c) ∧ ¬ (tk ≠ 0 ∧ S 13 0 c = 0)) (100 * b + 10 * r + c))) c.toNat) + 1)), some (.inl b), some (.inl r), some (.inl (c + 1)), some (.inl (((100 * b) + (10 * r)) + c))], [], M) _)
                          refine ih36 ((sm (fun b => ct S b (fun c => fo S g c ∧ ¬ (fr ≠ 0 ∧ kl S c) ∧ ¬ (tk ≠ 0 ∧ S 13 0 c = 0))) b.toNat + sm (fun r => ctR (fun c => fo S g c ∧ ¬ (fr ≠ 0 ∧ kl S c) ∧ ¬ (tk ≠ 0 ∧ S 13 0 c = 0)) (100 * b + 10 * r) (S 0 b 1).toNat) r.toNat + sm (fun c => bi ((fun c => fo S g c ∧ ¬ (fr ≠ 0 ∧ kl S c) ∧ ¬ (tk ≠ 0 ∧ S 13 0 c = 0)) (100 * b + 10 * r + c))) c.toNat) + 1) (c + 1) (some (.inl (((100 * b) + (10 * r)) + c))) (by omega) (by omega) (by omega) (by rw [sm_step p1]; exact acc (is1 ⟨h73, fun z => z.1 h77, fun z => z.1 h90⟩))
                        · refine seg_ok 2 (?_ : EvI X E_X8_killedBy (96, [some (.inr (.inr (some (8, 0, 0)))), some (.inl g), some (.inl fr), some (.inl tk), some (.inl (sm (fun b => ct S b (fun c => fo S g c ∧ ¬ (fr ≠ 0 ∧ kl S c) ∧ ¬ (tk ≠ 0 ∧ S 13 0 c = 0))) b.toNat + sm (fun r => ctR (fun c => fo S g c ∧ ¬ (fr ≠ 0 ∧ kl S c) ∧ ¬ (tk ≠ 0 ∧ S 13 0 c = 0)) (100 * b + 10 * r) (S 0 b 1).toNat) r.toNat + sm (fun c => bi ((fun c => fo S g c ∧ ¬ (fr ≠ 0 ∧ kl S c) ∧ ¬ (tk ≠ 0 ∧ S 13 0 c = 0)) (100 * b + 10 * r + c))) c.toNat)), some (.inl b), some (.inl r), some (.inl c), some (.inl (((100 * b) + (10 * r)) + c))], [.inl (((100 * b) + (10 * r)) + c), .inr (.inr (some (8, 0, 0))), .inl (sm (fun b => ct S b (fun c => fo S g c ∧ ¬ (fr ≠ 0 ∧ kl S c) ∧ ¬ (tk ≠ 0 ∧ S 13 0 c = 0))) b.toNat + sm (fun r => ctR (fun c => fo S g c ∧ ¬ (fr ≠ 0 ∧ kl S c) ∧ ¬ (tk ≠ 0 ∧ S 13 0 c = 0)) (100 * b + 10 * r) (S 0 b 1).toNat) r.toNat + sm (fun c => bi ((fun c => fo S g c ∧ ¬ (fr ≠ 0 ∧ kl S c) ∧ ¬ (tk ≠ 0 ∧ S 13 0 c = 0)) (100 * b + 10 * r + c))) c.toNat)], M) _)
                          refine ev_clp (v := .inl (S 13 0 (((100 * b) + (10 * r)) + c))) (z := z_X8_isWhat) (as := [.inr (.inr (some (8, 0, 0))), .inl (((100 * b) + (10 * r)) + c)]) (rest := [.inl (sm (fun b => ct S b (fun c => fo S g c ∧ ¬ (fr ≠ 0 ∧ kl S c) ∧ ¬ (tk ≠ 0 ∧ S 13 0 c = 0))) b.toNat + sm (fun r => ctR (fun c => fo S g c ∧ ¬ (fr ≠ 0 ∧ kl S c) ∧ ¬ (tk ≠ 0 ∧ S 13 0 c = 0)) (100 * b + 10 * r) (S 0 b 1).toNat) r.toNat + sm (fun c => bi ((fun c => fo S g c ∧ ¬ (fr ≠ 0 ∧ kl S c) ∧ ¬ (tk ≠ 0 ∧ S 13 0 c = 0)) (100 * b + 10 * r + c))) c.toNat)]) rfl (c_isWhat hW (by omega)) (?_ : EvI X E_X8_killedBy (99, [some (.inr (.inr (some (8, 0, 0)))), some (.inl g), some (.inl fr), some (.inl tk), some (.inl (sm (fun b => ct S b (fun c => fo S g c ∧ ¬ (fr ≠ 0 ∧ kl S c) ∧ ¬ (tk ≠ 0 ∧ S 13 0 c = 0))) b.toNat + sm (fun r => ctR (fun c => fo S g c ∧ ¬ (fr ≠ 0 ∧ kl S c) ∧ ¬ (tk ≠ 0 ∧ S 13 0 c = 0)) (100 * b + 10 * r) (S 0 b 1).toNat) r.toNat + sm (fun c => bi ((fun c => fo S g c ∧ ¬ (fr ≠ 0 ∧ kl S c) ∧ ¬ (tk ≠ 0 ∧ S 13 0 c = 0)) (100 * b + 10 * r + c))) c.toNat)), some (.inl b), some (.inl r), some (.inl c), some (.inl (((100 * b) + (10 * r)) + c))], [.inl (S 13 0 (((100 * b) + (10 * r)) + c)), .inl (sm (fun b => ct S b (fun c => fo S g c ∧ ¬ (fr ≠ 0 ∧ kl S c) ∧ ¬ (tk ≠ 0 ∧ S 13 0 c = 0))) b.toNat + sm (fun r => ctR (fun c => fo S g c ∧ ¬ (fr ≠ 0 ∧ kl S c) ∧ ¬ (tk ≠ 0 ∧ S 13 0 c = 0)) (100 * b + 10 * r) (S 0 b 1).toNat) r.toNat + sm (fun c => bi ((fun c => fo S g c ∧ ¬ (fr ≠ 0 ∧ kl S c) ∧ ¬ (tk ≠ 0 ∧ S 13 0 c = 0)) (100 * b + 10 * r + c))) c.toNat)], M) _)
                          refine seg_ok 1 (?_ : EvI X E_X8_killedBy (if (S 13 0 (((100 * b) + (10 * r)) + c)) = 0 then 106 else 102, [some (.inr (.inr (some (8, 0, 0)))), some (.inl g), some (.inl fr), some (.inl tk), some (.inl (sm (fun b => ct S b (fun c => fo S g c ∧ ¬ (fr ≠ 0 ∧ kl S c) ∧ ¬ (tk ≠ 0 ∧ S 13 0 c = 0))) b.toNat + sm (fun r => ctR (fun c => fo S g c ∧ ¬ (fr ≠ 0 ∧ kl S c) ∧ ¬ (tk ≠ 0 ∧ S 13 0 c = 0)) (100 * b + 10 * r) (S 0 b 1).toNat) r.toNat + sm (fun c => bi ((fun c => fo S g c ∧ ¬ (fr ≠ 0 ∧ kl S c) ∧ ¬ (tk ≠ 0 ∧ S 13 0 c = 0)) (100 * b + 10 * r + c))) c.toNat)), some (.inl b), some (.inl r), some (.inl c), some (.inl (((100 * b) + (10 * r)) + c))], [.inl (sm (fun b => ct S b (fun c => fo S g c ∧ ¬ (fr ≠ 0 ∧ kl S c) ∧ ¬ (tk ≠ 0 ∧ S 13 0 c = 0))) b.toNat + sm (fun r => ctR (fun c => fo S g c ∧ ¬ (fr ≠ 0 ∧ kl S c) ∧ ¬ (tk ≠ 0 ∧ S 13 0 c = 0)) (100 * b + 10 * r) (S 0 b 1).toNat) r.toNat + sm (fun c => bi ((fun c => fo S g c ∧ ¬ (fr ≠ 0 ∧ kl S c) ∧ ¬ (tk ≠ 0 ∧ S 13 0 c = 0)) (100 * b + 10 * r + c))) c.toNat)], M) _)
                          refine ev_if (fun h99 => ?_) (fun h99 => ?_)
                          · refine seg_ok 5 (⟨by omega, by omega, ?_⟩ : ((-2147483648 : Int) ≤ ((sm (fun b => ct S b (fun c => fo S g c ∧ ¬ (fr ≠ 0 ∧ kl S c) ∧ ¬ (tk ≠ 0 ∧ S 13 0 c = 0))) b.toNat + sm (fun r => ctR (fun c => fo S g c ∧ ¬ (fr ≠ 0 ∧ kl S c) ∧ ¬ (tk ≠ 0 ∧ S 13 0 c = 0)) (100 * b + 10 * r) (S 0 b 1).toNat) r.toNat + sm (fun c => bi ((fun c => fo S g c ∧ ¬ (fr ≠ 0 ∧ kl S c) ∧ ¬ (tk ≠ 0 ∧ S 13 0 c = 0)) (100 * b + 10 * r + c))) c.toNat) + 0) ∧ ((sm (fun b => ct S b (fun c => fo S g c ∧ ¬ (fr ≠ 0 ∧ kl S c) ∧ ¬ (tk ≠ 0 ∧ S 13 0 c = 0))) b.toNat + sm (fun r => ctR (fun c => fo S g c ∧ ¬ (fr ≠ 0 ∧ kl S c) ∧ ¬ (tk ≠ 0 ∧ S 13 0 c = 0)) (100 * b + 10 * r) (S 0 b 1).toNat) r.toNat + sm (fun c => bi ((fun c => fo S g c ∧ ¬ (fr ≠ 0 ∧ kl S c) ∧ ¬ (tk ≠ 0 ∧ S 13 0 c = 0)) (100 * b + 10 * r + c))) c.toNat) + 0) < 2147483648) ∧ ((-2147483648 : Int) ≤ (c + 1) ∧ (c + 1) < 2147483648) ∧ EvI X E_X8_killedBy (36, [some (.inr (.inr (some (8, 0, 0)))), some (.inl g), some (.inl fr), some (.inl tk), some (.inl ((sm (fun b => ct S b (fun c => fo S g c ∧ ¬ (fr ≠ 0 ∧ kl S c) ∧ ¬ (tk ≠ 0 ∧ S 13 0 c = 0))) b.toNat + sm (fun r => ctR (fun c => fo S g c ∧ ¬ (fr ≠ 0 ∧ kl S c) ∧ ¬ (tk ≠ 0 ∧ S 13 0 c = 0)) (100 * b + 10 * r) (S 0 b 1).toNat) r.toNat + sm (fun c => bi ((fun c => fo S g c ∧ ¬ (fr ≠ 0 ∧ kl S c) ∧ ¬ (tk ≠ 0 ∧ S 13 0 c = 0)) (100 * b + 10 * r + c))) c.toNat) + 0)), some (.inl b), some (.inl r), some (.inl (c + 1)), some (.inl (((100 * b) + (10 * r)) + c))], [], M) _)
                            refine ih36 ((sm (fun b => ct S b (fun c => fo S g c ∧ ¬ (fr ≠ 0 ∧ kl S c) ∧ ¬ (tk ≠ 0 ∧ S 13 0 c = 0))) b.toNat + sm (fun r => ctR (fun c => fo S g c ∧ ¬ (fr ≠ 0 ∧ kl S c) ∧ ¬ (tk ≠ 0 ∧ S 13 0 c = 0)) (100 * b + 10 * r) (S 0 b 1).toNat) r.toNat + sm (fun c => bi ((fun c => fo S g c ∧ ¬ (fr ≠ 0 ∧ kl S c) ∧ ¬ (tk ≠ 0 ∧ S 13 0 c = 0)) (100 * b + 10 * r + c))) c.toNat) + 0) (c + 1) (some (.inl (((100 * b) + (10 * r)) + c))) (by omega) (by omega) (by omega) (by rw [sm_step p1]; exact acc (is0 (fun z => z.2.2 ⟨h90, h99⟩)))
                          · refine seg_ok 6 (⟨by omega, by omega, ?_⟩ : ((-2147483648 : Int) ≤ ((sm (fun b => ct S b (fun c => fo S g c ∧ ¬ (fr ≠ 0 ∧ kl S c) ∧ ¬ (tk ≠ 0 ∧ S 13 0 c = 0))) b.toNat + sm (fun r => ctR (fun c => fo S g c ∧ ¬ (fr ≠ 0 ∧ kl S c) ∧ ¬ (tk ≠ 0 ∧ S 13 0 c = 0)) (100 * b + 10 * r) (S 0 b 1).toNat) r.toNat + sm (fun c => bi ((fun c => fo S g c ∧ ¬ (fr ≠ 0 ∧ kl S c) ∧ ¬ (tk ≠ 0 ∧ S 13 0 c = 0)) (100 * b + 10 * r + c))) c.toNat) + 1) ∧ ((sm (fun b => ct S b (fun c => fo S g c ∧ ¬ (fr ≠ 0 ∧ kl S c) ∧ ¬ (tk ≠ 0 ∧ S 13 0 c = 0))) b.toNat + sm (fun r => ctR (fun c => fo S g c ∧ ¬ (fr ≠ 0 ∧ kl S c) ∧ ¬ (tk ≠ 0 ∧ S 13 0 c = 0)) (100 * b + 10 * r) (S 0 b 1).toNat) r.toNat + sm (fun c => bi ((fun c => fo S g c ∧ ¬ (fr ≠ 0 ∧ kl S c) ∧ ¬ (tk ≠ 0 ∧ S 13 0 c = 0)) (100 * b + 10 * r + c))) c.toNat) + 1) < 2147483648) ∧ ((-2147483648 : Int) ≤ (c + 1) ∧ (c + 1) < 2147483648) ∧ EvI X E_X8_killedBy (36, [some (.inr (.inr (some (8, 0, 0)))), some (.inl g), some (.inl fr), some (.inl tk), some (.inl ((sm (fun b => ct S b (fun c => fo S g c ∧ ¬ (fr ≠ 0 ∧ kl S c) ∧ ¬ (tk ≠ 0 ∧ S 13 0 c = 0))) b.toNat + sm (fun r => ctR (fun c => fo S g c ∧ ¬ (fr ≠ 0 ∧ kl S c) ∧ ¬ (tk ≠ 0 ∧ S 13 0 c = 0)) (100 * b + 10 * r) (S 0 b 1).toNat) r.toNat + sm (fun c => bi ((fun c => fo S g c ∧ ¬ (fr ≠ 0 ∧ kl S c) ∧ ¬ (tk ≠ 0 ∧ S 13 0 c = 0)) (100 * b + 10 * r + c))) c.toNat) + 1)), some (.inl b), some (.inl r), some (.inl (c + 1)), some (.inl (((100 * b) + (10 * r)) + c))], [], M) _)
                            refine ih36 ((sm (fun b => ct S b (fun c => fo S g c ∧ ¬ (fr ≠ 0 ∧ kl S c) ∧ ¬ (tk ≠ 0 ∧ S 13 0 c = 0))) b.toNat + sm (fun r => ctR (fun c => fo S g c ∧ ¬ (fr ≠ 0 ∧ kl S c) ∧ ¬ (tk ≠ 0 ∧ S 13 0 c = 0)) (100 * b + 10 * r) (S 0 b 1).toNat) r.toNat + sm (fun c => bi ((fun c => fo S g c ∧ ¬ (fr ≠ 0 ∧ kl S c) ∧ ¬ (tk ≠ 0 ∧ S 13 0 c = 0)) (100 * b + 10 * r + c))) c.toNat) + 1) (c + 1) (some (.inl (((100 * b) + (10 * r)) + c))) (by omega) (by omega) (by omega) (by rw [sm_step p1]; exact acc (is1 ⟨h73, fun z => z.1 h77, fun z => h99 z.2⟩))
                      · refine seg_ok 2 (?_ : EvI X E_X8_killedBy (83, [some (.inr (.inr (some (8, 0, 0)))), some (.inl g), some (.inl fr), some (.inl tk), some (.inl (sm (fun b => ct S b (fun c => fo S g c ∧ ¬ (fr ≠ 0 ∧ kl S c) ∧ ¬ (tk ≠ 0 ∧ S 13 0 c = 0))) b.toNat + sm (fun r => ctR (fun c => fo S g c ∧ ¬ (fr ≠ 0 ∧ kl S c) ∧ ¬ (tk ≠ 0 ∧ S 13 0 c = 0)) (100 * b + 10 * r) (S 0 b 1).toNat) r.toNat + sm (fun c => bi ((fun c => fo S g c ∧ ¬ (fr ≠ 0 ∧ kl S c) ∧ ¬ (tk ≠ 0 ∧ S 13 0 c = 0)) (100 * b + 10 * r + c))) c.toNat)), some (.inl b), some (.inl r), some (.inl c), some (.inl (((100 * b) + (10 * r)) + c))], [.inl (((100 * b) + (10 * r)) + c), .inr (.inr (some (8, 0, 0))), .inl (sm (fun b => ct S b (fun c => fo S g c ∧ ¬ (fr ≠ 0 ∧ kl S c) ∧ ¬ (tk ≠ 0 ∧ S 13 0 c = 0))) b.toNat + sm (fun r => ctR (fun c => fo S g c ∧ ¬ (fr ≠ 0 ∧ kl S c) ∧ ¬ (tk ≠ 0 ∧ S 13 0 c = 0)) (100 * b + 10 * r) (S 0 b 1).toNat) r.toNat + sm (fun c => bi ((fun c => fo S g c ∧ ¬ (fr ≠ 0 ∧ kl S c) ∧ ¬ (tk ≠ 0 ∧ S 13 0 c = 0)) (100 * b + 10 * r + c))) c.toNat)], M) _)
                        refine ev_clp (v := .inl (bi (kl S (((100 * b) + (10 * r)) + c)))) (z := z_X8_isKilled) (as := [.inr (.inr (some (8, 0, 0))), .inl (((100 * b) + (10 * r)) + c)]) (rest := [.inl (sm (fun b => ct S b (fun c => fo S g c ∧ ¬ (fr ≠ 0 ∧ kl S c) ∧ ¬ (tk ≠ 0 ∧ S 13 0 c = 0))) b.toNat + sm (fun r => ctR (fun c => fo S g c ∧ ¬ (fr ≠ 0 ∧ kl S c) ∧ ¬ (tk ≠ 0 ∧ S 13 0 c = 0)) (100 * b + 10 * r) (S 0 b 1).toNat) r.toNat + sm (fun c => bi ((fun c => fo S g c ∧ ¬ (fr ≠ 0 ∧ kl S c) ∧ ¬ (tk ≠ 0 ∧ S 13 0 c = 0)) (100 * b + 10 * r + c))) c.toNat)]) rfl (c_isKilled hW (by omega)) (?_ : EvI X E_X8_killedBy (86, [some (.inr (.inr (some (8, 0, 0)))), some (.inl g), some (.inl fr), some (.inl tk), some (.inl (sm (fun b => ct S b (fun c => fo S g c ∧ ¬ (fr ≠ 0 ∧ kl S c) ∧ ¬ (tk ≠ 0 ∧ S 13 0 c = 0))) b.toNat + sm (fun r => ctR (fun c => fo S g c ∧ ¬ (fr ≠ 0 ∧ kl S c) ∧ ¬ (tk ≠ 0 ∧ S 13 0 c = 0)) (100 * b + 10 * r) (S 0 b 1).toNat) r.toNat + sm (fun c => bi ((fun c => fo S g c ∧ ¬ (fr ≠ 0 ∧ kl S c) ∧ ¬ (tk ≠ 0 ∧ S 13 0 c = 0)) (100 * b + 10 * r + c))) c.toNat)), some (.inl b), some (.inl r), some (.inl c), some (.inl (((100 * b) + (10 * r)) + c))], [.inl (bi (kl S (((100 * b) + (10 * r)) + c))), .inl (sm (fun b => ct S b (fun c => fo S g c ∧ ¬ (fr ≠ 0 ∧ kl S c) ∧ ¬ (tk ≠ 0 ∧ S 13 0 c = 0))) b.toNat + sm (fun r => ctR (fun c => fo S g c ∧ ¬ (fr ≠ 0 ∧ kl S c) ∧ ¬ (tk ≠ 0 ∧ S 13 0 c = 0)) (100 * b + 10 * r) (S 0 b 1).toNat) r.toNat + sm (fun c => bi ((fun c => fo S g c ∧ ¬ (fr ≠ 0 ∧ kl S c) ∧ ¬ (tk ≠ 0 ∧ S 13 0 c = 0)) (100 * b + 10 * r + c))) c.toNat)], M) _)
                        refine seg_ok 1 (?_ : EvI X E_X8_killedBy (if (bi (kl S (((100 * b) + (10 * r)) + c))) = 0 then 89 else 106, [some (.inr (.inr (some (8, 0, 0)))), some (.inl g), some (.inl fr), some (.inl tk), some (.inl (sm (fun b => ct S b (fun c => fo S g c ∧ ¬ (fr ≠ 0 ∧ kl S c) ∧ ¬ (tk ≠ 0 ∧ S 13 0 c = 0))) b.toNat + sm (fun r => ctR (fun c => fo S g c ∧ ¬ (fr ≠ 0 ∧ kl S c) ∧ ¬ (tk ≠ 0 ∧ S 13 0 c = 0)) (100 * b + 10 * r) (S 0 b 1).toNat) r.toNat + sm (fun c => bi ((fun c => fo S g c ∧ ¬ (fr ≠ 0 ∧ kl S c) ∧ ¬ (tk ≠ 0 ∧ S 13 0 c = 0)) (100 * b + 10 * r + c))) c.toNat)), some (.inl b), some (.inl r), some (.inl c), some (.inl (((100 * b) + (10 * r)) + c))], [.inl (sm (fun b => ct S b (fun c => fo S g c ∧ ¬ (fr ≠ 0 ∧ kl S c) ∧ ¬ (tk ≠ 0 ∧ S 13 0 c = 0))) b.toNat + sm (fun r => ctR (fun c => fo S g c ∧ ¬ (fr ≠ 0 ∧ kl S c) ∧ ¬ (tk ≠ 0 ∧ S 13 0 c = 0)) (100 * b + 10 * r) (S 0 b 1).toNat) r.toNat + sm (fun c => bi ((fun c => fo S g c ∧ ¬ (fr ≠ 0 ∧ kl S c) ∧ ¬ (tk ≠ 0 ∧ S 13 0 c = 0)) (100 * b + 10 * r + c))) c.toNat)], M) _)
                        refine ev_ifb (fun h86 => ?_) (fun h86 => ?_)
                        · refine seg_ok 2 (?_ : EvI X E_X8_killedBy (if tk = 0 then 102 else 93, [some (.inr (.inr (some (8, 0, 0)))), some (.inl g), some (.inl fr), some (.inl tk), some (.inl (sm (fun b => ct S b (fun c => fo S g c ∧ ¬ (fr ≠ 0 ∧ kl S c) ∧ ¬ (tk ≠ 0 ∧ S 13 0 c = 0))) b.toNat + sm (fun r => ctR (fun c => fo S g c ∧ ¬ (fr ≠ 0 ∧ kl S c) ∧ ¬ (tk ≠ 0 ∧ S 13 0 c = 0)) (100 * b + 10 * r) (S 0 b 1).toNat) r.toNat + sm (fun c => bi ((fun c => fo S g c ∧ ¬ (fr ≠ 0 ∧ kl S c) ∧ ¬ (tk ≠ 0 ∧ S 13 0 c = 0)) (100 * b + 10 * r + c))) c.toNat)), some (.inl b), some (.inl r), some (.inl c), some (.inl (((100 * b) + (10 * r)) + c))], [.inl (sm (fun b => ct S b (fun c => fo S g c ∧ ¬ (fr ≠ 0 ∧ kl S c) ∧ ¬ (tk ≠ 0 ∧ S 13 0 c = 0))) b.toNat + sm (fun r => ctR (fun c => fo S g c ∧ ¬ (fr ≠ 0 ∧ kl S c) ∧ ¬ (tk ≠ 0 ∧ S 13 0 c = 0)) (100 * b + 10 * r) (S 0 b 1).toNat) r.toNat + sm (fun c => bi ((fun c => fo S g c ∧ ¬ (fr ≠ 0 ∧ kl S c) ∧ ¬ (tk ≠ 0 ∧ S 13 0 c = 0)) (100 * b + 10 * r + c))) c.toNat)], M) _)
                          refine ev_if (fun h90 => ?_) (fun h90 => ?_)
                          · refine seg_ok 6 (⟨by omega, by omega, ?_⟩ : ((-2147483648 : Int) ≤ ((sm (fun b => ct S b (fun c => fo S g c ∧ ¬ (fr ≠ 0 ∧ kl S c) ∧ ¬ (tk ≠ 0 ∧ S 13 0 c = 0))) b.toNat + sm (fun r => ctR (fun c => fo S g c ∧ ¬ (fr ≠ 0 ∧ kl S c) ∧ ¬ (tk ≠ 0 ∧ S 13 0 c = 0)) (100 * b + 10 * r) (S 0 b 1).toNat) r.toNat + sm (fun c => bi ((fun c => fo S g c ∧ ¬ (fr ≠ 0 ∧ kl S c) ∧ ¬ (tk ≠ 0 ∧ S 13 0 c = 0)) (100 * b + 10 * r + c))) c.toNat) + 1) ∧ ((sm (fun b => ct S b (fun c => fo S g c ∧ ¬ (fr ≠ 0 ∧ kl S c) ∧ ¬ (tk ≠ 0 ∧ S 13 0 c = 0))) b.toNat + sm (fun r => ctR (fun c => fo S g c ∧ ¬ (fr ≠ 0 ∧ kl S c) ∧ ¬ (tk ≠ 0 ∧ S 13 0 c = 0)) (100 * b + 10 * r) (S 0 b 1).toNat) r.toNat + sm (fun c => bi ((fun c => fo S g c ∧ ¬ (fr ≠ 0 ∧ kl S c) ∧ ¬ (tk ≠ 0 ∧ S 13 0 c = 0)) (100 * b + 10 * r + c))) c.toNat) + 1) < 2147483648) ∧ ((-2147483648 : Int) ≤ (c + 1) ∧ (c + 1) < 2147483648) ∧ EvI X E_X8_killedBy (36, [some (.inr (.inr (some (8, 0, 0)))), some (.inl g), some (.inl fr), some (.inl tk), some (.inl ((sm (fun b => ct S b (fun c => fo S g c ∧ ¬ (fr ≠ 0 ∧ kl S c) ∧ ¬ (tk ≠ 0 ∧ S 13 0 c = 0))) b.toNat + sm (fun r => ctR (fun c => fo S g c ∧ ¬ (fr ≠ 0 ∧ kl S c) ∧ ¬ (tk ≠ 0 ∧ S 13 0 c = 0)) (100 * b + 10 * r) (S 0 b 1).toNat) r.toNat + sm (fun c => bi ((fun c => fo S g c ∧ ¬ (fr ≠ 0 ∧ kl S c) ∧ ¬ (tk ≠ 0 ∧ S 13 0 c = 0)) (100 * b + 10 * r + c))) c.toNat) + 1)), some (.inl b), some (.inl r), some (.inl (c + 1)), some (.inl (((100 * b) + (10 * r)) + c))], [], M) _)
                            refine ih36 ((sm (fun b => ct S b (fun c => fo S g c ∧ ¬ (fr ≠ 0 ∧ kl S c) ∧ ¬ (tk ≠ 0 ∧ S 13 0 c = 0))) b.toNat + sm (fun r => ctR (fun c => fo S g c ∧ ¬ (fr ≠ 0 ∧ kl S c) ∧ ¬ (tk ≠ 0 ∧ S 13 0 c = 0)) (100 * b + 10 * r) (S 0 b 1).toNat) r.toNat + sm (fun c => bi ((fun c => fo S g c ∧ ¬ (fr ≠ 0 ∧ kl S c) ∧ ¬ (tk ≠ 0 ∧ S 13 0 c = 0)) (100 * b + 10 * r + c))) c.toNat) + 1) (c + 1) (some (.inl (((100 * b) + (10 * r)) + c))) (by omega) (by omega) (by omega) (by rw [sm_step p1]; exact acc (is1 ⟨h73, fun z => h86 z.2, fun z => z.1 h90⟩))
                          · refine seg_ok 2 (?_ : EvI X E_X8_killedBy (96, [some (.inr (.inr (some (8, 0, 0)))), some (.inl g), some (.inl fr), some (.inl tk), some (.inl (sm (fun b => ct S b (fun c => fo S g c ∧ ¬ (fr ≠ 0 ∧ kl S c) ∧ ¬ (tk ≠ 0 ∧ S 13 0 c = 0))) b.toNat + sm (fun r => ctR (fun c => fo S g c ∧ ¬ (fr ≠ 0 ∧ kl S c) ∧ ¬ (tk ≠ 0 ∧ S 13 0 c = 0)) (100 * b + 10 * r) (S 0 b 1).toNat) r.toNat + sm (fun c => bi ((fun c => fo S g c ∧ ¬ (fr ≠ 0 ∧ kl S c) ∧ ¬ (tk ≠ 0 ∧ S 13 0 c = 0)) (100 * b + 10 * r + c))) c.toNat)), some (.inl b), some (.inl r), some (.inl c), some (.inl (((100 * b) + (10 * r)) + c))], [.inl (((100 * b) + (10 * r)) + c), .inr (.inr (some (8, 0, 0))), .inl (sm (fun b => ct S b (fun c => fo S g c ∧ ¬ (fr ≠ 0 ∧ kl S c) ∧ ¬ (tk ≠ 0 ∧ S 13 0 c = 0))) b.toNat + sm (fun r => ctR (fun c => fo S g c ∧ ¬ (fr ≠ 0 ∧ kl S c) ∧ ¬ (tk ≠ 0 ∧ S 13 0 c = 0)) (100 * b + 10 * r) (S 0 b 1).toNat) r.toNat + sm (fun c => bi ((fun c => fo S g c ∧ ¬ (fr ≠ 0 ∧ kl S c) ∧ ¬ (tk ≠ 0 ∧ S 13 0 c = 0)) (100 * b + 10 * r + c))) c.toNat)], M) _)
                            refine ev_clp (v := .inl (S 13 0 (((100 * b) + (10 * r)) + c))) (z := z_X8_isWhat) (as := [.inr (.inr (some (8, 0, 0))), .inl (((100 * b) + (10 * r)) + c)]) (rest := [.inl (sm (fun b => ct S b (fun c => fo S g c ∧ ¬ (fr ≠ 0 ∧ kl S c) ∧ ¬ (tk ≠ 0 ∧ S 13 0 c = 0))) b.toNat + sm (fun r => ctR (fun c => fo S g c ∧ ¬ (fr ≠ 0 ∧ kl S c) ∧ ¬ (tk ≠ 0 ∧ S 13 0 c = 0)) (100 * b + 10 * r) (S 0 b 1).toNat) r.toNat + sm (fun c => bi ((fun c => fo S g c ∧ ¬ (fr ≠ 0 ∧ kl S c) ∧ ¬ (tk ≠ 0 ∧ S 13 0 c = 0)) (100 * b + 10 * r + c))) c.toNat)]) rfl (c_isWhat hW (by omega)) (?_ : EvI X E_X8_killedBy (99, [some (.inr (.inr (some (8, 0, 0)))), some (.inl g), some (.inl fr), some (.inl tk), some (.inl (sm (fun b => ct S b (fun c => fo S g c ∧ ¬ (fr ≠ 0 ∧ kl S c) ∧ ¬ (tk ≠ 0 ∧ S 13 0 c = 0))) b.toNat + sm (fun r => ctR (fun c => fo S g c ∧ ¬ (fr ≠ 0 ∧ kl S c) ∧ ¬ (tk ≠ 0 ∧ S 13 0 c = 0)) (100 * b + 10 * r) (S 0 b 1).toNat) r.toNat + sm (fun c => bi ((fun c => fo S g c ∧ ¬ (fr ≠ 0 ∧ kl S c) ∧ ¬ (tk ≠ 0 ∧ S 13 0 c = 0)) (100 * b + 10 * r + c))) c.toNat)), some (.inl b), some (.inl r), some (.inl c), some (.inl (((100 * b) + (10 * r)) + c))], [.inl (S 13 0 (((100 * b) + (10 * r)) + c)), .inl (sm (fun b => ct S b (fun c => fo S g c ∧ ¬ (fr ≠ 0 ∧ kl S c) ∧ ¬ (tk ≠ 0 ∧ S 13 0 c = 0))) b.toNat + sm (fun r => ctR (fun c => fo S g c ∧ ¬ (fr ≠ 0 ∧ kl S c) ∧ ¬ (tk ≠ 0 ∧ S 13 0 c = 0)) (100 * b + 10 * r) (S 0 b 1).toNat) r.toNat + sm (fun c => bi ((fun c => fo S g c ∧ ¬ (fr ≠ 0 ∧ kl S c) ∧ ¬ (tk ≠ 0 ∧ S 13 0 c = 0)) (100 * b + 10 * r + c))) c.toNat)], M) _)
                            refine seg_ok 1 (?_ : EvI X E_X8_killedBy (if (S 13 0 (((100 * b) + (10 * r)) + c)) = 0 then 106 else 102, [some (.inr (.inr (some (8, 0, 0)))), some (.inl g), some (.inl fr), some (.inl tk), some (.inl (sm (fun b => ct S b (fun c => fo S g c ∧ ¬ (fr ≠ 0 ∧ kl S c) ∧ ¬ (tk ≠ 0 ∧ S 13 0 c = 0))) b.toNat + sm (fun r => ctR (fun c => fo S g c ∧ ¬ (fr ≠ 0 ∧ kl S c) ∧ ¬ (tk ≠ 0 ∧ S 13 0 c = 0)) (100 * b + 10 * r) (S 0 b 1).toNat) r.toNat + sm (fun c => bi ((fun c => fo S g c ∧ ¬ (fr ≠ 0 ∧ kl S c) ∧ ¬ (tk ≠ 0 ∧ S 13 0 c = 0)) (100 * b + 10 * r + c))) c.toNat)), some (.inl b), some (.inl r), some (.inl c), some (.inl (((100 * b) + (10 * r)) + c))], [.inl (sm (fun b => ct S b (fun c => fo S g c ∧ ¬ (fr ≠ 0 ∧ kl S c) ∧ ¬ (tk ≠ 0 ∧ S 13 0 c = 0))) b.toNat + sm (fun r => ctR (fun c => fo S g c ∧ ¬ (fr ≠ 0 ∧ kl S c) ∧ ¬ (tk ≠ 0 ∧ S 13 0 c = 0)) (100 * b + 10 * r) (S 0 b 1).toNat) r.toNat + sm (fun c => bi ((fun c => fo S g c ∧ ¬ (fr ≠ 0 ∧ kl S c) ∧ ¬ (tk ≠ 0 ∧ S 13 0 c = 0)) (100 * b + 10 * r + c))) c.toNat)], M) _)
                            refine ev_if (fun h99 => ?_) (fun h99 => ?_)
                            · refine seg_ok 5 (⟨by omega, by omega, ?_⟩ : ((-2147483648 : Int) ≤ ((sm (fun b => ct S b (fun c => fo S g c ∧ ¬ (fr ≠ 0 ∧ kl S c) ∧ ¬ (tk ≠ 0 ∧ S 13 0 c = 0))) b.toNat + sm (fun r => ctR (fun c => fo S g c ∧ ¬ (fr ≠ 0 ∧ kl S c) ∧ ¬ (tk ≠ 0 ∧ S 13 0 c = 0)) (100 * b + 10 * r) (S 0 b 1).toNat) r.toNat + sm (fun c => bi ((fun c => fo S g c ∧ ¬ (fr ≠ 0 ∧ kl S c) ∧ ¬ (tk ≠ 0 ∧ S 13 0 c = 0)) (100 * b + 10 * r + c))) c.toNat) + 0) ∧ ((sm (fun b => ct S b (fun c => fo S g c ∧ ¬ (fr ≠ 0 ∧ kl S c) ∧ ¬ (tk ≠ 0 ∧ S 13 0 c = 0))) b.toNat + sm (fun r => ctR (fun c => fo S g c ∧ ¬ (fr ≠ 0 ∧ kl S c) ∧ ¬ (tk ≠ 0 ∧ S 13 0 c = 0)) (100 * b + 10 * r) (S 0 b 1).toNat) r.toNat + sm (fun c => bi ((fun c => fo S g c ∧ ¬ (fr ≠ 0 ∧ kl S c) ∧ ¬ (tk ≠ 0 ∧ S 13 0 c = 0)) (100 * b + 10 * r + c))) c.toNat) + 0) < 2147483648) ∧ ((-2147483648 : Int) ≤ (c + 1) ∧ (c + 1) < 2147483648) ∧ EvI X E_X8_killedBy (36, [some (.inr (.inr (some (8, 0, 0)))), some (.inl g), some (.inl fr), some (.inl tk), some (.inl ((sm (fun b => ct S b (fun c => fo S g c ∧ ¬ (fr ≠ 0 ∧ kl S c) ∧ ¬ (tk ≠ 0 ∧ S 13 0 c = 0))) b.toNat + sm (fun r => ctR (fun c => fo S g c ∧ ¬ (fr ≠ 0 ∧ kl S c) ∧ ¬ (tk ≠ 0 ∧ S 13 0 c = 0)) (100 * b + 10 * r) (S 0 b 1).toNat) r.toNat + sm (fun c => bi ((fun c => fo S g c ∧ ¬ (fr ≠ 0 ∧ kl S c) ∧ ¬ (tk ≠ 0 ∧ S 13 0 c = 0)) (100 * b + 10 * r + c))) c.toNat) + 0)), some (.inl b), some (.inl r), some (.inl (c + 1)), some (.inl (((100 * b) + (10 * r)) + c))], [], M) _)
                              refine ih36 ((sm (fun b => ct S b (fun c => fo S g c ∧ ¬ (fr ≠ 0 ∧ kl S c) ∧ ¬ (tk ≠ 0 ∧ S 13 0 c = 0))) b.toNat + sm (fun r => ctR (fun c => fo S g c ∧ ¬ (fr ≠ 0 ∧ kl S c) ∧ ¬ (tk ≠ 0 ∧ S 13 0 c = 0)) (100 * b + 10 * r) (S 0 b 1).toNat) r.toNat + sm (fun c => bi ((fun c => fo S g c ∧ ¬ (fr ≠ 0 ∧ kl S c) ∧ ¬ (tk ≠ 0 ∧ S 13 0 c = 0)) (100 * b + 10 * r + c))) c.toNat) + 0) (c + 1) (some (.inl (((100 * b) + (10 * r)) + c))) (by omega) (by omega) (by omega) (by rw [sm_step p1]; exact acc (is0 (fun z => z.2.2 ⟨h90, h99⟩)))
                            · refine seg_ok 6 (⟨by omega, by omega, ?_⟩ : ((-2147483648 : Int) ≤ ((sm (fun b => ct S b (fun c => fo S g c ∧ ¬ (fr ≠ 0 ∧ kl S c) ∧ ¬ (tk ≠ 0 ∧ S 13 0 c = 0))) b.toNat + sm (fun r => ctR (fun c => fo S g c ∧ ¬ (fr ≠ 0 ∧ kl S c) ∧ ¬ (tk ≠ 0 ∧ S 13 0 c = 0)) (100 * b + 10 * r) (S 0 b 1).toNat) r.toNat + sm (fun c => bi ((fun c => fo S g c ∧ ¬ (fr ≠ 0 ∧ kl S c) ∧ ¬ (tk ≠ 0 ∧ S 13 0 c = 0)) (100 * b + 10 * r + c))) c.toNat) + 1) ∧ ((sm (fun b => ct S b (fun c => fo S g c ∧ ¬ (fr ≠ 0 ∧ kl S c) ∧ ¬ (tk ≠ 0 ∧ S 13 0 c = 0))) b.toNat + sm (fun r => ctR (fun c => fo S g c ∧ ¬ (fr ≠ 0 ∧ kl S c) ∧ ¬ (tk ≠ 0 ∧ S 13 0 c = 0)) (100 * b + 10 * r) (S 0 b 1).toNat) r.toNat + sm (fun c => bi ((fun c => fo S g c ∧ ¬ (fr ≠ 0 ∧ kl S c) ∧ ¬ (tk ≠ 0 ∧ S 13 0 c = 0)) (100 * b + 10 * r + c))) c.toNat) + 1) < 2147483648) ∧ ((-2147483648 : Int) ≤ (c + 1) ∧ (c + 1) < 2147483648) ∧ EvI X E_X8_killedBy (36, [some (.inr (.inr (some (8, 0, 0)))), some (.inl g), some (.inl fr), some (.inl tk), some (.inl ((sm (fun b => ct S b (fun c => fo S g c ∧ ¬ (fr ≠ 0 ∧ kl S c) ∧ ¬ (tk ≠ 0 ∧ S 13 0 c = 0))) b.toNat + sm (fun r => ctR (fun c => fo S g c ∧ ¬ (fr ≠ 0 ∧ kl S c) ∧ ¬ (tk ≠ 0 ∧ S 13 0 c = 0)) (100 * b + 10 * r) (S 0 b 1).toNat) r.toNat + sm (fun c => bi ((fun c => fo S g c ∧ ¬ (fr ≠ 0 ∧ kl S c) ∧ ¬ (tk ≠ 0 ∧ S 13 0 c = 0)) (100 * b + 10 * r + c))) c.toNat) + 1)), some (.inl b), some (.inl r), some (.inl (c + 1)), some (.inl (((100 * b) + (10 * r)) + c))], [], M) _)
                              refine ih36 ((sm (fun b => ct S b (fun c => fo S g c ∧ ¬ (fr ≠ 0 ∧ kl S c) ∧ ¬ (tk ≠ 0 ∧ S 13 0 c = 0))) b.toNat + sm (fun r => ctR (fun c => fo S g c ∧ ¬ (fr ≠ 0 ∧ kl S c) ∧ ¬ (tk ≠ 0 ∧ S 13 0 c = 0)) (100 * b + 10 * r) (S 0 b 1).toNat) r.toNat + sm (fun c => bi ((fun c => fo S g c ∧ ¬ (fr ≠ 0 ∧ kl S c) ∧ ¬ (tk ≠ 0 ∧ S 13 0 c = 0)) (100 * b + 10 * r + c))) c.toNat) + 1) (c + 1) (some (.inl (((100 * b) + (10 * r)) + c))) (by omega) (by omega) (by omega) (by rw [sm_step p1]; exact acc (is1 ⟨h73, fun z => h86 z.2, fun z => h99 z.2⟩))
                        · refine seg_ok 5 (⟨by omega, by omega, ?_⟩ : ((-2147483648 : Int) ≤ ((sm (fun b => ct S b (fun c => fo S g c ∧ ¬ (fr ≠ 0 ∧ kl S c) ∧ ¬ (tk ≠ 0 ∧ S 13 0 c = 0))) b.toNat + sm (fun r => ctR (fun c => fo S g c ∧ ¬ (fr ≠ 0 ∧ kl S c) ∧ ¬ (tk ≠ 0 ∧ S 13 0 c = 0)) (100 * b + 10 * r) (S 0 b 1).toNat) r.toNat + sm (fun c => bi ((fun c => fo S g c ∧ ¬ (fr ≠ 0 ∧ kl S c) ∧ ¬ (tk ≠ 0 ∧ S 13 0 c = 0)) (100 * b + 10 * r + c))) c.toNat) + 0) ∧ ((sm (fun b => ct S b (fun c => fo S g c ∧ ¬ (fr ≠ 0 ∧ kl S c) ∧ ¬ (tk ≠ 0 ∧ S 13 0 c = 0))) b.toNat + sm (fun r => ctR (fun c => fo S g c ∧ ¬ (fr ≠ 0 ∧ kl S c) ∧ ¬ (tk ≠ 0 ∧ S 13 0 c = 0)) (100 * b + 10 * r) (S 0 b 1).toNat) r.toNat + sm (fun c => bi ((fun c => fo S g c ∧ ¬ (fr ≠ 0 ∧ kl S c) ∧ ¬ (tk ≠ 0 ∧ S 13 0 c = 0)) (100 * b + 10 * r + c))) c.toNat) + 0) < 2147483648) ∧ ((-2147483648 : Int) ≤ (c + 1) ∧ (c + 1) < 2147483648) ∧ EvI X E_X8_killedBy (36, [some (.inr (.inr (some (8, 0, 0)))), some (.inl g), some (.inl fr), some (.inl tk), some (.inl ((sm (fun b => ct S b (fun c => fo S g c ∧ ¬ (fr ≠ 0 ∧ kl S c) ∧ ¬ (tk ≠ 0 ∧ S 13 0 c = 0))) b.toNat + sm (fun r => ctR (fun c => fo S g c ∧ ¬ (fr ≠ 0 ∧ kl S c) ∧ ¬ (tk ≠ 0 ∧ S 13 0 c = 0)) (100 * b + 10 * r) (S 0 b 1).toNat) r.toNat + sm (fun c => bi ((fun c => fo S g c ∧ ¬ (fr ≠ 0 ∧ kl S c) ∧ ¬ (tk ≠ 0 ∧ S 13 0 c = 0)) (100 * b + 10 * r + c))) c.toNat) + 0)), some (.inl b), some (.inl r), some (.inl (c + 1)), some (.inl (((100 * b) + (10 * r)) + c))], [], M) _)
                          refine ih36 ((sm (fun b => ct S b (fun c => fo S g c ∧ ¬ (fr ≠ 0 ∧ kl S c) ∧ ¬ (tk ≠ 0 ∧ S 13 0 c = 0))) b.toNat + sm (fun r => ctR (fun c => fo S g c ∧ ¬ (fr ≠ 0 ∧ kl S c) ∧ ¬ (tk ≠ 0 ∧ S 13 0 c = 0)) (100 * b + 10 * r) (S 0 b 1).toNat) r.toNat + sm (fun c => bi ((fun c => fo S g c ∧ ¬ (fr ≠ 0 ∧ kl S c) ∧ ¬ (tk ≠ 0 ∧ S 13 0 c = 0)) (100 * b + 10 * r + c))) c.toNat) + 0) (c + 1) (some (.inl (((100 * b) + (10 * r)) + c))) (by omega) (by omega) (by omega) (by rw [sm_step p1]; exact acc (is0 (fun z => z.2.1 ⟨h77, h86⟩)))
                  · refine seg_ok 2 (⟨by omega, ?_⟩ : ((-2147483648 : Int) ≤ (r + 1) ∧ (r + 1) < 2147483648) ∧ EvI X E_X8_killedBy (21, [some (.inr (.inr (some (8, 0, 0)))), some (.inl g), some (.inl fr), some (.inl tk), some (.inl (sm (fun b => ct S b (fun c => fo S g c ∧ ¬ (fr ≠ 0 ∧ kl S c) ∧ ¬ (tk ≠ 0 ∧ S 13 0 c = 0))) b.toNat + sm (fun r => ctR (fun c => fo S g c ∧ ¬ (fr ≠ 0 ∧ kl S c) ∧ ¬ (tk ≠ 0 ∧ S 13 0 c = 0)) (100 * b + 10 * r) (S 0 b 1).toNat) r.toNat + sm (fun c => bi ((fun c => fo S g c ∧ ¬ (fr ≠ 0 ∧ kl S c) ∧ ¬ (tk ≠ 0 ∧ S 13 0 c = 0)) (100 * b + 10 * r + c))) c.toNat)), some (.inl b), some (.inl (r + 1)), some (.inl c), d36_8], [], M) _)
                    refine ih21 (sm (fun b => ct S b (fun c => fo S g c ∧ ¬ (fr ≠ 0 ∧ kl S c) ∧ ¬ (tk ≠ 0 ∧ S 13 0 c = 0))) b.toNat + sm (fun r => ctR (fun c => fo S g c ∧ ¬ (fr ≠ 0 ∧ kl S c) ∧ ¬ (tk ≠ 0 ∧ S 13 0 c = 0)) (100 * b + 10 * r) (S 0 b 1).toNat) r.toNat + sm (fun c => bi ((fun c => fo S g c ∧ ¬ (fr ≠ 0 ∧ kl S c) ∧ ¬ (tk ≠ 0 ∧ S 13 0 c = 0)) (100 * b + 10 * r + c))) c.toNat) (r + 1) (some (.inl c)) d36_8 (by omega) (by omega) (by omega) (by rw [sm_step q1, show c = S 0 b 1 by omega]; exact acc3)
              refine L36 ((S 0 b 1 - 0) + 1 : Int).toNat (sm (fun b => ct S b (fun c => fo S g c ∧ ¬ (fr ≠ 0 ∧ kl S c) ∧ ¬ (tk ≠ 0 ∧ S 13 0 c = 0))) b.toNat + sm (fun r => ctR (fun c => fo S g c ∧ ¬ (fr ≠ 0 ∧ kl S c) ∧ ¬ (tk ≠ 0 ∧ S 13 0 c = 0)) (100 * b + 10 * r) (S 0 b 1).toNat) r.toNat) 0 d21_8 (by omega) (by omega) (by omega) (Int.add_zero _).symm
            · refine seg_ok 2 (⟨i32s o1 hb7, ?_⟩ : ((-2147483648 : Int) ≤ (b + 1) ∧ (b + 1) < 2147483648) ∧ EvI X E_X8_killedBy (6, [some (.inr (.inr (some (8, 0, 0)))), some (.inl g), some (.inl fr), some (.inl tk), some (.inl (sm (fun b => ct S b (fun c => fo S g c ∧ ¬ (fr ≠ 0 ∧ kl S c) ∧ ¬ (tk ≠ 0 ∧ S 13 0 c = 0))) b.toNat + sm (fun r => ctR (fun c => fo S g c ∧ ¬ (fr ≠ 0 ∧ kl S c) ∧ ¬ (tk ≠ 0 ∧ S 13 0 c = 0)) (100 * b + 10 * r) (S 0 b 1).toNat) r.toNat)), some (.inl (b + 1)), some (.inl r), d21_7, d21_8], [], M) _)
              refine ih6 (sm (fun b => ct S b (fun c => fo S g c ∧ ¬ (fr ≠ 0 ∧ kl S c) ∧ ¬ (tk ≠ 0 ∧ S 13 0 c = 0))) b.toNat + sm (fun r => ctR (fun c => fo S g c ∧ ¬ (fr ≠ 0 ∧ kl S c) ∧ ¬ (tk ≠ 0 ∧ S 13 0 c = 0)) (100 * b + 10 * r) (S 0 b 1).toNat) r.toNat) (b + 1) (some (.inl r)) d21_7 d21_8 (by omega) (by omega) (by omega) (by rw [sm_step o1, show r = S 0 b 0 by omega]; rfl)
        refine L21 ((S 0 b 0 - 0) + 1 : Int).toNat (sm (fun b => ct S b (fun c => fo S g c ∧ ¬ (fr ≠ 0 ∧ kl S c) ∧ ¬ (tk ≠ 0 ∧ S 13 0 c = 0))) b.toNat) 0 d6_7 d6_8 (by omega) (by omega) (by omega) (Int.add_zero _).symm
      · refine seg_ok 1 (?_ : EvI X E_X8_killedBy (130, [some (.inr (.inr (some (8, 0, 0)))), some (.inl g), some (.inl fr), some (.inl tk), some (.inl (sm (fun b => ct S b (fun c => fo S g c ∧ ¬ (fr ≠ 0 ∧ kl S c) ∧ ¬ (tk ≠ 0 ∧ S 13 0 c = 0))) b.toNat)), some (.inl b), d6_6, d6_7, d6_8], [.inl (sm (fun b => ct S b (fun c => fo S g c ∧ ¬ (fr ≠ 0 ∧ kl S c) ∧ ¬ (tk ≠ 0 ∧ S 13 0 c = 0))) b.toNat)], M) _)
        refine ev_rt (r := some (.inl (sm (fun b => ct S b (fun c => fo S g c ∧ ¬ (fr ≠ 0 ∧ kl S c) ∧ ¬ (tk ≠ 0 ∧ S 13 0 c = 0))) b.toNat))) rfl (?_)
        exact ⟨rint (by rw [show b = S 1 0 3 by omega]; rfl), rfl⟩
  refine L6 ((S 1 0 3 - 0) + 1 : Int).toNat 0 0 none none none (by omega) (by omega) (by omega) rfl
theorem c_isPiece {m : Int} {M : NM} {S : Sl} (hW : RW m M S) {f t : Int} : HT X z_X8_isPiece [.inr (.inr (some (8, 0, 0))), .inl f, .inl t] M (fun r M' => r = some (.inl (bi (isPc S f t))) ∧ M' = M) := by
  have hs := hW.1.1
  have hi := hW.2.1
  unfold Iv0 at hi
  refine ht_of (e := E_X8_isPiece) rfl (?_ : EvI X E_X8_isPiece (0, [some (.inr (.inr (some (8, 0, 0)))), some (.inl f), some (.inl t)], [], M) _)
  refine seg_ok 2 (?_ : EvI X E_X8_isPiece (2, [some (.inr (.inr (some (8, 0, 0)))), some (.inl f), some (.inl t)], [.inl f, .inr (.inr (some (8, 0, 0)))], M) _)
  refine ev_clp (v := .inl (bi (isCh S f))) (z := z_X8_isChair) (as := [.inr (.inr (some (8, 0, 0))), .inl f]) (rest := []) rfl (c_isChair hW) (?_ : EvI X E_X8_isPiece (5, [some (.inr (.inr (some (8, 0, 0)))), some (.inl f), some (.inl t)], [.inl (bi (isCh S f))], M) _)
  refine seg_ok 1 (?_ : EvI X E_X8_isPiece (if (bi (isCh S f)) = 0 then 53 else 8, [some (.inr (.inr (some (8, 0, 0)))), some (.inl f), some (.inl t)], [], M) _)
  refine ev_ifb (fun h5 => ?_) (fun h5 => ?_)
  · refine seg_ok 1 (?_ : EvI X E_X8_isPiece (54, [some (.inr (.inr (some (8, 0, 0)))), some (.inl f), some (.inl t)], [.inl 0], M) _)
    refine ev_rt (r := some (.inl 0)) rfl (⟨by decide, ?_⟩)
    exact ⟨rint (is0 (fun z => by obtain ⟨z1, z2, z3, z4, z5⟩ := z; exact h5 z1)), rfl⟩
  · have k5 : 0 ≤ f ∧ f < 600 ∧ f % 100 < 60 := isCh_r hW.2 h5
    refine seg_ok 2 (?_ : EvI X E_X8_isPiece (10, [some (.inr (.inr (some (8, 0, 0)))), some (.inl f), some (.inl t)], [.inl t, .inr (.inr (some (8, 0, 0)))], M) _)
    refine ev_clp (v := .inl (bi (isCh S t))) (z := z_X8_isChair) (as := [.inr (.inr (some (8, 0, 0))), .inl t]) (rest := []) rfl (c_isChair hW) (?_ : EvI X E_X8_isPiece (13, [some (.inr (.inr (some (8, 0, 0)))), some (.inl f), some (.inl t)], [.inl (bi (isCh S t))], M) _)
    refine seg_ok 1 (?_ : EvI X E_X8_isPiece (if (bi (isCh S t)) = 0 then 53 else 16, [some (.inr (.inr (some (8, 0, 0)))), some (.inl f), some (.inl t)], [], M) _)
    refine ev_ifb (fun h13 => ?_) (fun h13 => ?_)
    · refine seg_ok 1 (?_ : EvI X E_X8_isPiece (54, [some (.inr (.inr (some (8, 0, 0)))), some (.inl f), some (.inl t)], [.inl 0], M) _)
      refine ev_rt (r := some (.inl 0)) rfl (⟨by decide, ?_⟩)
      exact ⟨rint (is0 (fun z => by obtain ⟨z1, z2, z3, z4, z5⟩ := z; exact h13 z2)), rfl⟩
    · have k13 : 0 ≤ t ∧ t < 600 ∧ t % 100 < 60 := isCh_r hW.2 h13
      refine seg_ok 7 (⟨by omega, by omega, ?_⟩ : ((0 : Int) ≤ f ∧ (0 : Int) < 100) ∧ ((0 : Int) ≤ t ∧ (0 : Int) < 100) ∧ EvI X E_X8_isPiece (if (f / 100) = (t / 100) then 27 else 53, [some (.inr (.inr (some (8, 0, 0)))), some (.inl f), some (.inl t)], [], M) _)
      refine ev_if (fun h24 => ?_) (fun h24 => ?_)
      · refine seg_ok 7 (⟨by omega, by omega, ?_⟩ : ((0 : Int) ≤ t ∧ (0 : Int) < 10) ∧ ((0 : Int) ≤ f ∧ (0 : Int) < 10) ∧ EvI X E_X8_isPiece (if (t / 10) < (f / 10) then 53 else 38, [some (.inr (.inr (some (8, 0, 0)))), some (.inl f), some (.inl t)], [], M) _)
        refine ev_if (fun h35 => ?_) (fun h35 => ?_)
        · refine seg_ok 1 (?_ : EvI X E_X8_isPiece (54, [some (.inr (.inr (some (8, 0, 0)))), some (.inl f), some (.inl t)], [.inl 0], M) _)
          refine ev_rt (r := some (.inl 0)) rfl (⟨by decide, ?_⟩)
          exact ⟨rint (is0 (fun z => by obtain ⟨z1, z2, z3, z4, z5⟩ := z; omega)), rfl⟩
        · refine seg_ok 7 (⟨by omega, by omega, ?_⟩ : ((0 : Int) ≤ t ∧ (0 : Int) < 10) ∧ ((0 : Int) ≤ f ∧ (0 : Int) < 10) ∧ EvI X E_X8_isPiece (if (t % 10) < (f % 10) then 53 else 49, [some (.inr (.inr (some (8, 0, 0)))), some (.inl f), some (.inl t)], [], M) _)
          refine ev_if (fun h46 => ?_) (fun h46 => ?_)
          · refine seg_ok 1 (?_ : EvI X E_X8_isPiece (54, [some (.inr (.inr (some (8, 0, 0)))), some (.inl f), some (.inl t)], [.inl 0], M) _)
            refine ev_rt (r := some (.inl 0)) rfl (⟨by decide, ?_⟩)
            exact ⟨rint (is0 (fun z => by obtain ⟨z1, z2, z3, z4, z5⟩ := z; omega)), rfl⟩
          · refine seg_ok 2 (?_ : EvI X E_X8_isPiece (54, [some (.inr (.inr (some (8, 0, 0)))), some (.inl f), some (.inl t)], [.inl 1], M) _)
            refine ev_rt (r := some (.inl 1)) rfl (⟨by decide, ?_⟩)
            exact ⟨rint (is1 ⟨h5, h13, h24, by omega, by omega⟩), rfl⟩
      · refine seg_ok 1 (?_ : EvI X E_X8_isPiece (54, [some (.inr (.inr (some (8, 0, 0)))), some (.inl f), some (.inl t)], [.inl 0], M) _)
        refine ev_rt (r := some (.inl 0)) rfl (⟨by decide, ?_⟩)
        exact ⟨rint (is0 (fun z => by obtain ⟨z1, z2, z3, z4, z5⟩ := z; omega)), rfl⟩
theorem c_whyNot {m : Int} {M : NM} {S : Sl} (hW : RW m M S) {t : Int} : HT X z_X8_whyNot [.inr (.inr (some (8, 0, 0))), .inl t] M (fun r M' => r = some (.inl (whN S t)) ∧ M' = M) := by
  have hs := hW.1.1
  have hi := hW.2.1
  unfold Iv0 at hi
  refine ht_of (e := E_X8_whyNot) rfl (?_ : EvI X E_X8_whyNot (0, [some (.inr (.inr (some (8, 0, 0)))), some (.inl t)], [], M) _)
  refine seg_ok 2 (?_ : EvI X E_X8_whyNot (2, [some (.inr (.inr (some (8, 0, 0)))), some (.inl t)], [.inl t, .inr (.inr (some (8, 0, 0)))], M) _)
  refine ev_clp (v := .inl (bi (0 ≤ t ∧ t < S 5 0 4))) (z := z_X8_isTicket) (as := [.inr (.inr (some (8, 0, 0))), .inl t]) (rest := []) rfl (c_isTicket hW) (?_ : EvI X E_X8_whyNot (5, [some (.inr (.inr (some (8, 0, 0)))), some (.inl t)], [.inl (bi (0 ≤ t ∧ t < S 5 0 4))], M) _)
  refine seg_ok 1 (?_ : EvI X E_X8_whyNot (if (bi (0 ≤ t ∧ t < S 5 0 4)) = 0 then 8 else 12, [some (.inr (.inr (some (8, 0, 0)))), some (.inl t)], [], M) _)
  refine ev_ifb (fun h5 => ?_) (fun h5 => ?_)
  · refine seg_ok 2 (?_ : EvI X E_X8_whyNot (27, [some (.inr (.inr (some (8, 0, 0)))), some (.inl t)], [.inl (-1)], M) _)
    refine ev_rt (r := some (.inl (-1))) rfl (?_)
    exact ⟨rint (by unfold whN; rw [cif_t h5]), rfl⟩
  · refine seg_ok 3 (?_ : EvI X E_X8_whyNot (15, [some (.inr (.inr (some (8, 0, 0)))), some (.inl t)], [.inl 0, .inl t, .inr (.inr (some (8, 0, 0)))], M) _)
    refine ev_clp (v := .inl (S 6 t 0)) (z := z_X8_ofTicket) (as := [.inr (.inr (some (8, 0, 0))), .inl t, .inl 0]) (rest := []) rfl (c_ofTicket hW (by omega) (by omega)) (?_ : EvI X E_X8_whyNot (18, [some (.inr (.inr (some (8, 0, 0)))), some (.inl t)], [.inl (S 6 t 0)], M) _)
    refine seg_ok 1 (?_ : EvI X E_X8_whyNot (if (S 6 t 0) = 0 then 26 else 21, [some (.inr (.inr (some (8, 0, 0)))), some (.inl t)], [], M) _)
    refine ev_if (fun h18 => ?_) (fun h18 => ?_)
    · refine seg_ok 1 (?_ : EvI X E_X8_whyNot (27, [some (.inr (.inr (some (8, 0, 0)))), some (.inl t)], [.inl 0], M) _)
      refine ev_rt (r := some (.inl 0)) rfl (?_)
      exact ⟨rint (by unfold whN; rw [cif_f (fun z => z h5), cif_f (fun z => z h18)]), rfl⟩
    · refine seg_ok 2 (?_ : EvI X E_X8_whyNot (27, [some (.inr (.inr (some (8, 0, 0)))), some (.inl t)], [.inl (-2)], M) _)
      refine ev_rt (r := some (.inl (-2))) rfl (?_)
      exact ⟨rint (by unfold whN; rw [cif_f (fun z => z h5), cif_t h18]), rfl⟩
set_option maxRecDepth 2250 in
theorem c_better {m : Int} {M : NM} {S : Sl} (hW : RW m M S) {t : Int} (h1 : 0 ≤ t ∧ t < S 5 0 4) : HT X z_X8_better [.inr (.inr (some (8, 0, 0))), .inl t] M (fun r M' => r = some (.inl (upF S (S 6 t 1 / 100) (S 6 t 2) (S 1 0 3).toNat)) ∧ M' = M) := by
  have hs := hW.1.1
  have hi := hW.2.1
  unfold Iv0 at hi
  have ht := hW.2.2.2.2.2.1 t h1.1 h1.2
  obtain ⟨hf0, hf1, hf2, hf3, -, -⟩ := ht.1
  refine ht_of (e := E_X8_better) rfl (?_ : EvI X E_X8_better (0, [some (.inr (.inr (some (8, 0, 0)))), some (.inl t), none, none, none], [], M) _)
  refine seg_ok 4 (?_ : EvI X E_X8_better (5, [some (.inr (.inr (some (8, 0, 0)))), some (.inl t), some (.inl (-9)), some (.inl 0), none], [], M) _)
  have L5 : ∀ (m5 : Nat) (u b : Int) (d5_4 : Option U), S 1 0 3 - b < (m5 : Int) → (0 ≤ b) → (b ≤ S 1 0 3) → (u = upF S (S 6 t 1 / 100) (S 6 t 2) b.toNat) → EvI X E_X8_better (5, [some (.inr (.inr (some (8, 0, 0)))), some (.inl t), some (.inl u), some (.inl b), d5_4], [], M) (fun r M' => r = some (.inl (upF S (S 6 t 1 / 100) (S 6 t 2) (S 1 0 3).toNat)) ∧ M' = M) := by
    intro m5
    induction m5 with
    | zero => intro u b d5_4 hm5 q1 q2 q3; exact absurd hm5 (by omega)
    | succ m5 ih5 =>
      intro u b d5_4 hm5 q1 q2 q3
      subst q3
      have g := upF_r S (S 6 t 1 / 100) (S 6 t 2) b.toNat
      refine seg_ok 6 (⟨by omega, ?_⟩ : ((0 : Int) ≤ 6 ∧ (6 : Int) < 589) ∧ EvI X E_X8_better (if b < (M 17 0 0 6) then 16 else 96, [some (.inr (.inr (some (8, 0, 0)))), some (.inl t), some (.inl (upF S (S 6 t 1 / 100) (S 6 t 2) b.toNat)), some (.inl b), d5_4], [], M) _)
      refine ev_if (fun h13 => ?_) (fun h13 => ?_)
      · refine seg_ok 2 (?_ : EvI X E_X8_better (18, [some (.inr (.inr (some (8, 0, 0)))), some (.inl t), some (.inl (upF S (S 6 t 1 / 100) (S 6 t 2) b.toNat)), some (.inl b), d5_4], [.inl b, .inr (.inr (some (8, 0, 0)))], M) _)
        refine ev_clp (v := .inl (rk S b)) (z := z_X8_rank) (as := [.inr (.inr (some (8, 0, 0))), .inl b]) (rest := []) rfl (c_rank hW (by omega)) (?_ : EvI X E_X8_better (21, [some (.inr (.inr (some (8, 0, 0)))), some (.inl t), some (.inl (upF S (S 6 t 1 / 100) (S 6 t 2) b.toNat)), some (.inl b), d5_4], [.inl (rk S b)], M) _)
        refine seg_ok 4 (?_ : EvI X E_X8_better (25, [some (.inr (.inr (some (8, 0, 0)))), some (.inl t), some (.inl (upF S (S 6 t 1 / 100) (S 6 t 2) b.toNat)), some (.inl b), d5_4], [.inl 1, .inl t, .inr (.inr (some (8, 0, 0))), .inr (.inr (some (8, 0, 0))), .inl (rk S b)], M) _)
        refine ev_clp (v := .inl (S 6 t 1)) (z := z_X8_ofTicket) (as := [.inr (.inr (some (8, 0, 0))), .inl t, .inl 1]) (rest := [.inr (.inr (some (8, 0, 0))), .inl (rk S b)]) rfl (c_ofTicket hW (by omega) (by omega)) (?_ : EvI X E_X8_better (28, [some (.inr (.inr (some (8, 0, 0)))), some (.inl t), some (.inl (upF S (S 6 t 1 / 100) (S 6 t 2) b.toNat)), some (.inl b), d5_4], [.inl (S 6 t 1), .inr (.inr (some (8, 0, 0))), .inl (rk S b)], M) _)
        refine seg_ok 2 (⟨by omega, ?_⟩ : ((0 : Int) ≤ (S 6 t 1) ∧ (0 : Int) < 100) ∧ EvI X E_X8_better (31, [some (.inr (.inr (some (8, 0, 0)))), some (.inl t), some (.inl (upF S (S 6 t 1 / 100) (S 6 t 2) b.toNat)), some (.inl b), d5_4], [.inl ((S 6 t 1) / 100), .inr (.inr (some (8, 0, 0))), .inl (rk S b)], M) _)
        refine ev_clp (v := .inl (rk S ((S 6 t 1) / 100))) (z := z_X8_rank) (as := [.inr (.inr (some (8, 0, 0))), .inl ((S 6 t 1) / 100)]) (rest := [.inl (rk S b)]) rfl (c_rank hW (by omega)) (?_ : EvI X E_X8_better (34, [some (.inr (.inr (some (8, 0, 0)))), some (.inl t), some (.inl (upF S (S 6 t 1 / 100) (S 6 t 2) b.toNat)), some (.inl b), d5_4], [.inl (rk S ((S 6 t 1) / 100)), .inl (rk S b)], M) _)
        refine seg_ok 1 (?_ : EvI X E_X8_better (if (rk S ((S 6 t 1) / 100)) < (rk S b) then 37 else 57, [some (.inr (.inr (some (8, 0, 0)))), some (.inl t), some (.inl (upF S (S 6 t 1 / 100) (S 6 t 2) b.toNat)), some (.inl b), d5_4], [], M) _)
        refine ev_if (fun h34 => ?_) (fun h34 => ?_)
        · refine seg_ok 5 (?_ : EvI X E_X8_better (42, [some (.inr (.inr (some (8, 0, 0)))), some (.inl t), some (.inl (upF S (S 6 t 1 / 100) (S 6 t 2) b.toNat)), some (.inl b), d5_4], [.inl 2, .inl t, .inr (.inr (some (8, 0, 0))), .inl b, .inr (.inr (some (8, 0, 0)))], M) _)
          refine ev_clp (v := .inl (S 6 t 2)) (z := z_X8_ofTicket) (as := [.inr (.inr (some (8, 0, 0))), .inl t, .inl 2]) (rest := [.inl b, .inr (.inr (some (8, 0, 0)))]) rfl (c_ofTicket hW (by omega) (by omega)) (?_ : EvI X E_X8_better (45, [some (.inr (.inr (some (8, 0, 0)))), some (.inl t), some (.inl (upF S (S 6 t 1 / 100) (S 6 t 2) b.toNat)), some (.inl b), d5_4], [.inl (S 6 t 2), .inl b, .inr (.inr (some (8, 0, 0)))], M) _)
          refine ev_clp (v := .inl (pl S b (S 6 t 2))) (z := z_X8_placeIn) (as := [.inr (.inr (some (8, 0, 0))), .inl b, .inl (S 6 t 2)]) (rest := []) rfl (c_placeIn hW (by omega) (by omega)) (?_ : EvI X E_X8_better (48, [some (.inr (.inr (some (8, 0, 0)))), some (.inl t), some (.inl (upF S (S 6 t 1 / 100) (S 6 t 2) b.toNat)), some (.inl b), d5_4], [.inl (pl S b (S 6 t 2))], M) _)
          refine seg_ok 2 (?_ : EvI X E_X8_better (if (pl S b (S 6 t 2)) = (-9) then 57 else 53, [some (.inr (.inr (some (8, 0, 0)))), some (.inl t), some (.inl (upF S (S 6 t 1 / 100) (S 6 t 2) b.toNat)), some (.inl b), d5_4], [], M) _)
          refine ev_if (fun h50 => ?_) (fun h50 => ?_)
          · refine seg_ok 8 (⟨by omega, ?_⟩ : ((-2147483648 : Int) ≤ (b + 1) ∧ (b + 1) < 2147483648) ∧ EvI X E_X8_better (5, [some (.inr (.inr (some (8, 0, 0)))), some (.inl t), some (.inl (upF S (S 6 t 1 / 100) (S 6 t 2) b.toNat)), some (.inl (b + 1)), some (.inl 0)], [], M) _)
            refine ih5 (upF S (S 6 t 1 / 100) (S 6 t 2) b.toNat) (b + 1) (some (.inl 0)) (by omega) (by omega) (by omega) (by rw [upF_step q1]; exact (cA_1 (fun z => z.2 h50)).symm)
          · refine seg_ok 8 (?_ : EvI X E_X8_better (if (upF S (S 6 t 1 / 100) (S 6 t 2) b.toNat) = (-9) then 84 else 71, [some (.inr (.inr (some (8, 0, 0)))), some (.inl t), some (.inl (upF S (S 6 t 1 / 100) (S 6 t 2) b.toNat)), some (.inl b), some (.inl 1)], [], M) _)
            refine ev_if (fun h68 => ?_) (fun h68 => ?_)
            · refine seg_ok 5 (⟨by omega, ?_⟩ : ((-2147483648 : Int) ≤ (b + 1) ∧ (b + 1) < 2147483648) ∧ EvI X E_X8_better (5, [some (.inr (.inr (some (8, 0, 0)))), some (.inl t), some (.inl b), some (.inl (b + 1)), some (.inl 1)], [], M) _)
              refine ih5 b (b + 1) (some (.inl 1)) (by omega) (by omega) (by omega) (by rw [upF_step q1]; exact (cA_t ⟨h34, h50⟩ (Or.inl h68)).symm)
            · refine seg_ok 2 (?_ : EvI X E_X8_better (73, [some (.inr (.inr (some (8, 0, 0)))), some (.inl t), some (.inl (upF S (S 6 t 1 / 100) (S 6 t 2) b.toNat)), some (.inl b), some (.inl 1)], [.inl b, .inr (.inr (some (8, 0, 0)))], M) _)
              refine ev_clp (v := .inl (rk S b)) (z := z_X8_rank) (as := [.inr (.inr (some (8, 0, 0))), .inl b]) (rest := []) rfl (c_rank hW (by omega)) (?_ : EvI X E_X8_better (76, [some (.inr (.inr (some (8, 0, 0)))), some (.inl t), some (.inl (upF S (S 6 t 1 / 100) (S 6 t 2) b.toNat)), some (.inl b), some (.inl 1)], [.inl (rk S b)], M) _)
              refine seg_ok 2 (?_ : EvI X E_X8_better (78, [some (.inr (.inr (some (8, 0, 0)))), some (.inl t), some (.inl (upF S (S 6 t 1 / 100) (S 6 t 2) b.toNat)), some (.inl b), some (.inl 1)], [.inl (upF S (S 6 t 1 / 100) (S 6 t 2) b.toNat), .inr (.inr (some (8, 0, 0))), .inl (rk S b)], M) _)
              refine ev_clp (v := .inl (rk S (upF S (S 6 t 1 / 100) (S 6 t 2) b.toNat))) (z := z_X8_rank) (as := [.inr (.inr (some (8, 0, 0))), .inl (upF S (S 6 t 1 / 100) (S 6 t 2) b.toNat)]) (rest := [.inl (rk S b)]) rfl (c_rank hW (by omega)) (?_ : EvI X E_X8_better (81, [some (.inr (.inr (some (8, 0, 0)))), some (.inl t), some (.inl (upF S (S 6 t 1 / 100) (S 6 t 2) b.toNat)), some (.inl b), some (.inl 1)], [.inl (rk S (upF S (S 6 t 1 / 100) (S 6 t 2) b.toNat)), .inl (rk S b)], M) _)
              refine seg_ok 1 (?_ : EvI X E_X8_better (if (rk S (upF S (S 6 t 1 / 100) (S 6 t 2) b.toNat)) < (rk S b) then 84 else 88, [some (.inr (.inr (some (8, 0, 0)))), some (.inl t), some (.inl (upF S (S 6 t 1 / 100) (S 6 t 2) b.toNat)), some (.inl b), some (.inl 1)], [], M) _)
              refine ev_if (fun h81 => ?_) (fun h81 => ?_)
              · refine seg_ok 5 (⟨by omega, ?_⟩ : ((-2147483648 : Int) ≤ (b + 1) ∧ (b + 1) < 2147483648) ∧ EvI X E_X8_better (5, [some (.inr (.inr (some (8, 0, 0)))), some (.inl t), some (.inl b), some (.inl (b + 1)), some (.inl 1)], [], M) _)
                refine ih5 b (b + 1) (some (.inl 1)) (by omega) (by omega) (by omega) (by rw [upF_step q1]; exact (cA_t ⟨h34, h50⟩ (Or.inr h81)).symm)
              · refine seg_ok 4 (⟨by omega, ?_⟩ : ((-2147483648 : Int) ≤ (b + 1) ∧ (b + 1) < 2147483648) ∧ EvI X E_X8_better (5, [some (.inr (.inr (some (8, 0, 0)))), some (.inl t), some (.inl (upF S (S 6 t 1 / 100) (S 6 t 2) b.toNat)), some (.inl (b + 1)), some (.inl 1)], [], M) _)
                refine ih5 (upF S (S 6 t 1 / 100) (S 6 t 2) b.toNat) (b + 1) (some (.inl 1)) (by omega) (by omega) (by omega) (by rw [upF_step q1]; exact (cA_2 (fun z => z.elim h68 h81)).symm)
        · refine seg_ok 8 (⟨by omega, ?_⟩ : ((-2147483648 : Int) ≤ (b + 1) ∧ (b + 1) < 2147483648) ∧ EvI X E_X8_better (5, [some (.inr (.inr (some (8, 0, 0)))), some (.inl t), some (.inl (upF S (S 6 t 1 / 100) (S 6 t 2) b.toNat)), some (.inl (b + 1)), some (.inl 0)], [], M) _)
          refine ih5 (upF S (S 6 t 1 / 100) (S 6 t 2) b.toNat) (b + 1) (some (.inl 0)) (by omega) (by omega) (by omega) (by rw [upF_step q1]; exact (cA_1 (fun z => h34 z.1)).symm)
      · refine seg_ok 1 (?_ : EvI X E_X8_better (97, [some (.inr (.inr (some (8, 0, 0)))), some (.inl t), some (.inl (upF S (S 6 t 1 / 100) (S 6 t 2) b.toNat)), some (.inl b), d5_4], [.inl (upF S (S 6 t 1 / 100) (S 6 t 2) b.toNat)], M) _)
        refine ev_rt (r := some (.inl (upF S (S 6 t 1 / 100) (S 6 t 2) b.toNat))) rfl (?_)
        exact ⟨rint (by rw [show b = S 1 0 3 by omega]), rfl⟩
  refine L5 ((S 1 0 3 - 0) + 1 : Int).toNat (-9) 0 none (by omega) (by omega) (by omega) rfl
set_option maxRecDepth 2190 in
theorem c_follower {m : Int} {M : NM} {S : Sl} (hW : RW m M S) {b : Int} (h1 : 0 ≤ b ∧ b < S 1 0 3) : HT X z_X8_follower [.inr (.inr (some (8, 0, 0))), .inl b] M (fun r M' => r = some (.inl (ff (fun t => S 6 t 0 = 0 ∧ andI (shrI (M 8 0 0 7) t) 1 = 0 ∧ rk S (S 6 t 1 / 100) < rk S b ∧ pl S b (S 6 t 2) ≠ -9) (S 5 0 4).toNat 0)) ∧ M' = M) := by
  have hs := hW.1.1
  have hi := hW.2.1
  unfold Iv0 at hi
  refine ht_of (e := E_X8_follower) rfl (?_ : EvI X E_X8_follower (0, [some (.inr (.inr (some (8, 0, 0)))), some (.inl b), none, none], [], M) _)
  refine seg_ok 2 (?_ : EvI X E_X8_follower (2, [some (.inr (.inr (some (8, 0, 0)))), some (.inl b), some (.inl 0), none], [], M) _)
  have L2 : ∀ (m2 : Nat) (t : Int) (d2_3 : Option U), S 5 0 4 - t < (m2 : Int) → (0 ≤ t) → (t ≤ S 5 0 4) → (ff (fun t => S 6 t 0 = 0 ∧ andI (shrI (M 8 0 0 7) t) 1 = 0 ∧ rk S (S 6 t 1 / 100) < rk S b ∧ pl S b (S 6 t 2) ≠ -9) (S 5 0 4).toNat 0 = ff (fun t => S 6 t 0 = 0 ∧ andI (shrI (M 8 0 0 7) t) 1 = 0 ∧ rk S (S 6 t 1 / 100) < rk S b ∧ pl S b (S 6 t 2) ≠ -9) (S 5 0 4 - t).toNat t) → EvI X E_X8_follower (2, [some (.inr (.inr (some (8, 0, 0)))), some (.inl b), some (.inl t), d2_3], [], M) (fun r M' => r = some (.inl (ff (fun t => S 6 t 0 = 0 ∧ andI (shrI (M 8 0 0 7) t) 1 = 0 ∧ rk S (S 6 t 1 / 100) < rk S b ∧ pl S b (S 6 t 2) ≠ -9) (S 5 0 4).toNat 0)) ∧ M' = M) := by
    intro m2
    induction m2 with
    | zero => intro t d2_3 hm2 q1 q2 q3; exact absurd hm2 (by omega)
    | succ m2 ih2 =>
      intro t d2_3 hm2 q1 q2 q3
      refine seg_ok 6 (⟨by omega, ?_⟩ : ((0 : Int) ≤ 9 ∧ (9 : Int) < 589) ∧ EvI X E_X8_follower (if t < (M 17 0 0 9) then 13 else 88, [some (.inr (.inr (some (8, 0, 0)))), some (.inl b), some (.inl t), d2_3], [], M) _)
      refine ev_if (fun h10 => ?_) (fun h10 => ?_)
      · have ht := hW.2.2.2.2.2.1 t q1 (by omega)
        obtain ⟨hf0, hf1, hf2, hf3, -, -⟩ := ht.1
        refine seg_ok 3 (?_ : EvI X E_X8_follower (16, [some (.inr (.inr (some (8, 0, 0)))), some (.inl b), some (.inl t), d2_3], [.inl 0, .inl t, .inr (.inr (some (8, 0, 0)))], M) _)
        refine ev_clp (v := .inl (S 6 t 0)) (z := z_X8_ofTicket) (as := [.inr (.inr (some (8, 0, 0))), .inl t, .inl 0]) (rest := []) rfl (c_ofTicket hW (by omega) (by omega)) (?_ : EvI X E_X8_follower (19, [some (.inr (.inr (some (8, 0, 0)))), some (.inl b), some (.inl t), d2_3], [.inl (S 6 t 0)], M) _)
        refine seg_ok 1 (?_ : EvI X E_X8_follower (if (S 6 t 0) = 0 then 22 else 58, [some (.inr (.inr (some (8, 0, 0)))), some (.inl b), some (.inl t), d2_3], [], M) _)
        refine ev_if (fun h19 => ?_) (fun h19 => ?_)
        · refine seg_ok 7 (?_ : EvI X E_X8_follower (if (andI (shrI (M 8 0 0 7) t) 1) = 0 then 33 else 58, [some (.inr (.inr (some (8, 0, 0)))), some (.inl b), some (.inl t), d2_3], [], M) _)
          refine ev_if (fun h30 => ?_) (fun h30 => ?_)
          · refine seg_ok 4 (?_ : EvI X E_X8_follower (37, [some (.inr (.inr (some (8, 0, 0)))), some (.inl b), some (.inl t), d2_3], [.inl 1, .inl t, .inr (.inr (some (8, 0, 0))), .inr (.inr (some (8, 0, 0)))], M) _)
            refine ev_clp (v := .inl (S 6 t 1)) (z := z_X8_ofTicket) (as := [.inr (.inr (some (8, 0, 0))), .inl t, .inl 1]) (rest := [.inr (.inr (some (8, 0, 0)))]) rfl (c_ofTicket hW (by omega) (by omega)) (?_ : EvI X E_X8_follower (40, [some (.inr (.inr (some (8, 0, 0)))), some (.inl b), some (.inl t), d2_3], [.inl (S 6 t 1), .inr (.inr (some (8, 0, 0)))], M) _)
            refine seg_ok 2 (⟨by omega, ?_⟩ : ((0 : Int) ≤ (S 6 t 1) ∧ (0 : Int) < 100) ∧ EvI X E_X8_follower (43, [some (.inr (.inr (some (8, 0, 0)))), some (.inl b), some (.inl t), d2_3], [.inl ((S 6 t 1) / 100), .inr (.inr (some (8, 0, 0)))], M) _)
            refine ev_clp (v := .inl (rk S ((S 6 t 1) / 100))) (z := z_X8_rank) (as := [.inr (.inr (some (8, 0, 0))), .inl ((S 6 t 1) / 100)]) (rest := []) rfl (c_rank hW (by omega)) (?_ : EvI X E_X8_follower (46, [some (.inr (.inr (some (8, 0, 0)))), some (.inl b), some (.inl t), d2_3], [.inl (rk S ((S 6 t 1) / 100))], M) _)
            refine seg_ok 2 (?_ : EvI X E_X8_follower (48, [some (.inr (.inr (some (8, 0, 0)))), some (.inl b), some (.inl t), d2_3], [.inl b, .inr (.inr (some (8, 0, 0))), .inl (rk S ((S 6 t 1) / 100))], M) _)
            refine ev_clp (v := .inl (rk S b)) (z := z_X8_rank) (as := [.inr (.inr (some (8, 0, 0))), .inl b]) (rest := [.inl (rk S ((S 6 t 1) / 100))]) rfl (c_rank hW (by omega)) (?_ : EvI X E_X8_follower (51, [some (.inr (.inr (some (8, 0, 0)))), some (.inl b), some (.inl t), d2_3], [.inl (rk S b), .inl (rk S ((S 6 t 1) / 100))], M) _)
            refine seg_ok 1 (?_ : EvI X E_X8_follower (if (rk S ((S 6 t 1) / 100)) < (rk S b) then 54 else 58, [some (.inr (.inr (some (8, 0, 0)))), some (.inl b), some (.inl t), d2_3], [], M) _)
            refine ev_if (fun h51 => ?_) (fun h51 => ?_)
            · refine seg_ok 10 (?_ : EvI X E_X8_follower (69, [some (.inr (.inr (some (8, 0, 0)))), some (.inl b), some (.inl t), some (.inl 1)], [.inl 2, .inl t, .inr (.inr (some (8, 0, 0))), .inl b, .inr (.inr (some (8, 0, 0)))], M) _)
              refine ev_clp (v := .inl (S 6 t 2)) (z := z_X8_ofTicket) (as := [.inr (.inr (some (8, 0, 0))), .inl t, .inl 2]) (rest := [.inl b, .inr (.inr (some (8, 0, 0)))]) rfl (c_ofTicket hW (by omega) (by omega)) (?_ : EvI X E_X8_follower (72, [some (.inr (.inr (some (8, 0, 0)))), some (.inl b), some (.inl t), some (.inl 1)], [.inl (S 6 t 2), .inl b, .inr (.inr (some (8, 0, 0)))], M) _)
              refine ev_clp (v := .inl (pl S b (S 6 t 2))) (z := z_X8_placeIn) (as := [.inr (.inr (some (8, 0, 0))), .inl b, .inl (S 6 t 2)]) (rest := []) rfl (c_placeIn hW (by omega) (by omega)) (?_ : EvI X E_X8_follower (75, [some (.inr (.inr (some (8, 0, 0)))), some (.inl b), some (.inl t), some (.inl 1)], [.inl (pl S b (S 6 t 2))], M) _)
              refine seg_ok 2 (?_ : EvI X E_X8_follower (if (pl S b (S 6 t 2)) = (-9) then 82 else 80, [some (.inr (.inr (some (8, 0, 0)))), some (.inl b), some (.inl t), some (.inl 1)], [], M) _)
              refine ev_if (fun h77 => ?_) (fun h77 => ?_)
              · refine seg_ok 2 (⟨by omega, ?_⟩ : ((-2147483648 : Int) ≤ (t + 1) ∧ (t + 1) < 2147483648) ∧ EvI X E_X8_follower (2, [some (.inr (.inr (some (8, 0, 0)))), some (.inl b), some (.inl (t + 1)), some (.inl 1)], [], M) _)
                refine ih2 (t + 1) (some (.inl 1)) (by omega) (by omega) (by omega) (q3.trans (by rw [ff_step (show t < S 5 0 4 by omega)]; exact cif_f (fun z => z.2.2.2 h77)))
              · refine seg_ok 1 (?_ : EvI X E_X8_follower (81, [some (.inr (.inr (some (8, 0, 0)))), some (.inl b), some (.inl t), some (.inl 1)], [.inl t], M) _)
                refine ev_rt (r := some (.inl t)) rfl (?_)
                exact ⟨rint (by rw [q3, ff_step (show t < S 5 0 4 by omega)]; exact (cif_t ⟨h19, h30, h51, h77⟩).symm), rfl⟩
            · refine seg_ok 6 (⟨by omega, ?_⟩ : ((-2147483648 : Int) ≤ (t + 1) ∧ (t + 1) < 2147483648) ∧ EvI X E_X8_follower (2, [some (.inr (.inr (some (8, 0, 0)))), some (.inl b), some (.inl (t + 1)), some (.inl 0)], [], M) _)
              refine ih2 (t + 1) (some (.inl 0)) (by omega) (by omega) (by omega) (q3.trans (by rw [ff_step (show t < S 5 0 4 by omega)]; exact cif_f (fun z => h51 z.2.2.1)))
          · refine seg_ok 6 (⟨by omega, ?_⟩ : ((-2147483648 : Int) ≤ (t + 1) ∧ (t + 1) < 2147483648) ∧ EvI X E_X8_follower (2, [some (.inr (.inr (some (8, 0, 0)))), some (.inl b), some (.inl (t + 1)), some (.inl 0)], [], M) _)
            refine ih2 (t + 1) (some (.inl 0)) (by omega) (by omega) (by omega) (q3.trans (by rw [ff_step (show t < S 5 0 4 by omega)]; exact cif_f (fun z => h30 z.2.1)))
        · refine seg_ok 6 (⟨by omega, ?_⟩ : ((-2147483648 : Int) ≤ (t + 1) ∧ (t + 1) < 2147483648) ∧ EvI X E_X8_follower (2, [some (.inr (.inr (some (8, 0, 0)))), some (.inl b), some (.inl (t + 1)), some (.inl 0)], [], M) _)
          refine ih2 (t + 1) (some (.inl 0)) (by omega) (by omega) (by omega) (q3.trans (by rw [ff_step (show t < S 5 0 4 by omega)]; exact cif_f (fun z => h19 z.1)))
      · refine seg_ok 1 (?_ : EvI X E_X8_follower (90, [some (.inr (.inr (some (8, 0, 0)))), some (.inl b), some (.inl t), d2_3], [.inl (-9)], M) _)
        refine ev_rt (r := some (.inl (-9))) rfl (?_)
        exact ⟨rint (by rw [q3, ff_end (show ¬ t < S 5 0 4 by omega)]), rfl⟩
  refine L2 ((S 5 0 4 - 0) + 1 : Int).toNat 0 none (by omega) (by omega) (by omega) (by rw [Int.sub_zero])
theorem c_greatest {m : Int} {M : NM} {S : Sl} (hW : RW m M S) {b : Int} (h1 : 0 ≤ b ∧ b < S 1 0 3) : HT X z_X8_greatest [.inr (.inr (some (8, 0, 0))), .inl b] M (fun r M' => r = some (.inl (gN S b 10)) ∧ M' = M) := by
  have hs := hW.1.1
  have hi := hW.2.1
  unfold Iv0 at hi
  refine ht_of (e := E_X8_greatest) rfl (?_ : EvI X E_X8_greatest (0, [some (.inr (.inr (some (8, 0, 0)))), some (.inl b), none, none], [], M) _)
  refine seg_ok 4 (?_ : EvI X E_X8_greatest (4, [some (.inr (.inr (some (8, 0, 0)))), some (.inl b), some (.inl 0), some (.inl 1)], [], M) _)
  have L4 : ∀ (m4 : Nat) (u n : Int), 11 - n < (m4 : Int) → (1 ≤ n) → (n ≤ 11) → (u = gN S b (n - 1).toNat) → EvI X E_X8_greatest (4, [some (.inr (.inr (some (8, 0, 0)))), some (.inl b), some (.inl u), some (.inl n)], [], M) (fun r M' => r = some (.inl (gN S b 10)) ∧ M' = M) := by
    intro m4
    induction m4 with
    | zero => intro u n hm4 q1 q2 q3; exact absurd hm4 (by omega)
    | succ m4 ih4 =>
      intro u n hm4 q1 q2 q3
      refine seg_ok 3 (?_ : EvI X E_X8_greatest (if 10 < n then 33 else 10, [some (.inr (.inr (some (8, 0, 0)))), some (.inl b), some (.inl u), some (.inl n)], [], M) _)
      refine ev_if (fun h7 => ?_) (fun h7 => ?_)
      · refine seg_ok 1 (?_ : EvI X E_X8_greatest (34, [some (.inr (.inr (some (8, 0, 0)))), some (.inl b), some (.inl u), some (.inl n)], [.inl u], M) _)
        refine ev_rt (r := some (.inl u)) rfl (?_)
        exact ⟨rint (by rw [q3, show n - 1 = 10 by omega]; rfl), rfl⟩
      · refine seg_ok 3 (?_ : EvI X E_X8_greatest (13, [some (.inr (.inr (some (8, 0, 0)))), some (.inl b), some (.inl u), some (.inl n)], [.inl n, .inl b, .inr (.inr (some (8, 0, 0)))], M) _)
        refine ev_clp (v := .inl (pl S b n)) (z := z_X8_placeIn) (as := [.inr (.inr (some (8, 0, 0))), .inl b, .inl n]) (rest := []) rfl (c_placeIn hW (by omega) (by omega)) (?_ : EvI X E_X8_greatest (16, [some (.inr (.inr (some (8, 0, 0)))), some (.inl b), some (.inl u), some (.inl n)], [.inl (pl S b n)], M) _)
        refine seg_ok 2 (?_ : EvI X E_X8_greatest (if (pl S b n) = (-9) then 25 else 21, [some (.inr (.inr (some (8, 0, 0)))), some (.inl b), some (.inl u), some (.inl n)], [], M) _)
        refine ev_if (fun h18 => ?_) (fun h18 => ?_)
        · refine seg_ok 4 (⟨by omega, ?_⟩ : ((-2147483648 : Int) ≤ (n + 1) ∧ (n + 1) < 2147483648) ∧ EvI X E_X8_greatest (4, [some (.inr (.inr (some (8, 0, 0)))), some (.inl b), some (.inl u), some (.inl (n + 1))], [], M) _)
          refine ih4 u (n + 1) (by omega) (by omega) (by omega) (by rw [show n + 1 - 1 = n by omega, gN_step q1]; exact q3.trans (cif_f (fun z => z h18)).symm)
        · refine seg_ok 5 (⟨by omega, ?_⟩ : ((-2147483648 : Int) ≤ (n + 1) ∧ (n + 1) < 2147483648) ∧ EvI X E_X8_greatest (4, [some (.inr (.inr (some (8, 0, 0)))), some (.inl b), some (.inl n), some (.inl (n + 1))], [], M) _)
          refine ih4 n (n + 1) (by omega) (by omega) (by omega) (by rw [show n + 1 - 1 = n by omega, gN_step q1]; exact (cif_t h18).symm)
  refine L4 ((11 - 1) + 1 : Int).toNat 0 1 (by omega) (by omega) (by omega) rfl
end
end
section
/-! 14: bits and masks (bt .. nx_xor: the kit's rows to paste) -/
def bt (x : Int32) (i : Nat) : Bool := x.toBitVec.getLsbD i
theorem b_ext {x y : Int32} (h : ∀ i, i < 32 → bt x i = bt y i) : x = y := Int32.toBitVec_inj.mp (BitVec.eq_of_getLsbD_eq (fun i hi => h i hi))
theorem b_or (x y : Int32) (i : Nat) : bt (x ||| y) i = (bt x i || bt y i) := by unfold bt; rw [Int32.toBitVec_or, BitVec.getLsbD_or]
theorem b_and (x y : Int32) (i : Nat) : bt (x &&& y) i = (bt x i && bt y i) := by unfold bt; rw [Int32.toBitVec_and, BitVec.getLsbD_and]
theorem b_xor (x y : Int32) (i : Nat) : bt (x ^^^ y) i = (bt x i ^^ bt y i) := by unfold bt; rw [Int32.toBitVec_xor, BitVec.getLsbD_xor]
theorem b_big {x : Int32} {i : Nat} (h : 32 ≤ i) : bt x i = false := BitVec.getLsbD_of_ge _ _ h
theorem b_255 (i : Nat) : bt 255 i = decide (i < 8) := by
  rcases Nat.lt_or_ge i 32 with h | h
  · exact (by decide +kernel : ∀ i, i < 32 → bt 255 i = decide (i < 8)) i h
  · rw [b_big h, decide_eq_false (by omega)]
theorem b_65535 (i : Nat) : bt 65535 i = decide (i < 16) := by
  rcases Nat.lt_or_ge i 32 with h | h
  · exact (by decide +kernel : ∀ i, i < 32 → bt 65535 i = decide (i < 16)) i h
  · rw [b_big h, decide_eq_false (by omega)]
theorem b_m1 : ∀ i, i < 32 → bt (-1) i = true := by decide +kernel
theorem b_0 (i : Nat) : bt 0 i = false := BitVec.getLsbD_zero
theorem s_l : ∀ n, n < 32 → ((nI n &&& 31).toBitVec.smod 32).toNat = n := by decide +kernel
theorem s_u : ∀ n, n < 32 → (((nI n).toUInt32 &&& Int32.toUInt32 31).toBitVec % 32).toNat = n := by decide +kernel
theorem b_shl (n : Nat) (hn : n < 32) (x : Int32) {i : Nat} (hi : i < 32) : bt (x <<< (nI n &&& 31)) i = (decide (n ≤ i) && bt x (i - n)) := by
  unfold bt
  rw [Int32.toBitVec_shiftLeft]
  show (x.toBitVec <<< ((nI n &&& 31).toBitVec.smod 32).toNat).getLsbD i = _
  rw [s_l n hn, BitVec.getLsbD_shiftLeft]
  rcases Nat.lt_or_ge i n with h | h
  · simp [h, Nat.not_le.mpr h]
  · simp [hi, h, Nat.not_lt.mpr h]
theorem b_ushr (n : Nat) (hn : n < 32) (x : Int32) (i : Nat) : bt ((x.toUInt32 >>> ((nI n).toUInt32 &&& Int32.toUInt32 31)).toInt32) i = bt x (n + i) := by
  show (x.toUInt32 >>> ((nI n).toUInt32 &&& Int32.toUInt32 31)).toBitVec.getLsbD i = x.toUInt32.toBitVec.getLsbD (n + i)
  rw [UInt32.toBitVec_shiftRight]
  show (x.toUInt32.toBitVec >>> (((nI n).toUInt32 &&& Int32.toUInt32 31).toBitVec % 32).toNat).getLsbD i = _
  rw [s_u n hn, BitVec.getLsbD_ushiftRight]
theorem b_sshr (n : Nat) (hn : n < 32) (x : Int32) {i : Nat} (hi : i < 32) : bt (x >>> (nI n &&& 31)) i = if n + i < 32 then bt x (n + i) else bt x 31 := by
  unfold bt
  rw [Int32.toBitVec_shiftRight]
  show (x.toBitVec.sshiftRight ((nI n &&& 31).toBitVec.smod 32).toNat).getLsbD i = _
  rw [s_l n hn, BitVec.getLsbD_sshiftRight, BitVec.msb_eq_getLsbD_last]
  simp [hi]
theorem nx_and (a b : Nat) : nI a &&& nI b = nI (a &&& b) := by
  apply Int32.toBitVec_inj.1
  show BitVec.ofNat 32 a &&& BitVec.ofNat 32 b = BitVec.ofNat 32 (a &&& b)
  apply BitVec.eq_of_getLsbD_eq
  intro i hi
  simp [hi]
theorem nx_xor (a b : Nat) : nI a ^^^ nI b = nI (a ^^^ b) := by
  apply Int32.toBitVec_inj.1
  show BitVec.ofNat 32 a ^^^ BitVec.ofNat 32 b = BitVec.ofNat 32 (a ^^^ b)
  apply BitVec.eq_of_getLsbD_eq
  intro i hi
  simp [hi]
theorem nx_or (a b : Nat) : nI a ||| nI b = nI (a ||| b) := by
  apply Int32.toBitVec_inj.1
  show BitVec.ofNat 32 a ||| BitVec.ofNat 32 b = BitVec.ofNat 32 (a ||| b)
  apply BitVec.eq_of_getLsbD_eq
  intro i hi
  simp [hi]
theorem bt_nI (a : Nat) {i : Nat} (hi : i < 32) : bt (nI a) i = a.testBit i := by
  show (BitVec.ofNat 32 a).getLsbD i = _
  rw [BitVec.getLsbD_ofNat]
  simp [hi]
theorem oi_n (a : Nat) : Int32.ofInt (a : Int) = nI a := rfl
theorem N_and {a b : Nat} (ha : a < 2147483648) : andI a b = ((a &&& b : Nat) : Int) := by
  unfold andI
  rw [oi_n, oi_n, nx_and, nI_toInt (Nat.lt_of_le_of_lt Nat.and_le_left ha)]
theorem N_or {a b : Nat} (ha : a < 2147483648) (hb : b < 2147483648) : orI a b = ((a ||| b : Nat) : Int) := by
  unfold orI
  rw [oi_n, oi_n, nx_or, nI_toInt (Nat.or_lt_two_pow (n := 31) ha hb)]
theorem N_shr {a k : Nat} (ha : a < 2147483648) (hk : k < 32) : shrI a k = ((a >>> k : Nat) : Int) := by
  unfold shrI
  have hle : a >>> k ≤ a := by rw [Nat.shiftRight_eq_div_pow]; exact Nat.div_le_self _ _
  have e : nI a >>> (nI k &&& 31) = nI (a >>> k) := by
    apply b_ext
    intro i hi
    rw [b_sshr k hk _ hi, bt_nI _ hi, Nat.testBit_shiftRight]
    split
    · next h => rw [bt_nI _ h]
    · next h =>
      have h1 : a < 2 ^ 31 := ha
      have e1 : a.testBit 31 = false := Nat.testBit_lt_two_pow h1
      have e2 : a.testBit (k + i) = false := Nat.testBit_lt_two_pow (Nat.lt_of_lt_of_le h1 (Nat.pow_le_pow_right (by decide) (by omega)))
      rw [bt_nI _ (by decide), e1, e2]
  rw [oi_n, oi_n, e, nI_toInt (by have : (2 : Nat) ^ 31 = 2147483648 := rfl
                                  omega)]
theorem N_shl {a k : Nat} (hk : k < 32) (h : a <<< k < 2147483648) : shlI a k = ((a <<< k : Nat) : Int) := by
  unfold shlI
  have e : nI a <<< (nI k &&& 31) = nI (a <<< k) := by
    apply b_ext
    intro i hi
    rw [b_shl k hk _ hi, bt_nI _ hi, Nat.testBit_shiftLeft]
    by_cases q : k ≤ i
    · rw [bt_nI _ (by omega)]
    · simp [q]
  rw [oi_n, oi_n, e, nI_toInt h]
/-! a mask of those of P below n -/
noncomputable def mkN (P : Int → Prop) : Nat → Nat
  | 0 => 0
  | n + 1 => mkN P n ||| cif (P n) (2 ^ n) 0
theorem mkN_lt (P : Int → Prop) : ∀ n, mkN P n < 2 ^ n := by
  intro n
  induction n with
  | zero => exact Nat.one_pos
  | succ n ih =>
    rw [mkN]
    refine Nat.or_lt_two_pow (Nat.lt_of_lt_of_le ih (Nat.pow_le_pow_right (by decide) (Nat.le_succ n))) ?_
    by_cases h : P n
    · rw [cif_t h]; exact Nat.pow_lt_pow_right (by decide) (Nat.lt_succ_self n)
    · rw [cif_f h]; exact Nat.two_pow_pos _
theorem mkN_bit (P : Int → Prop) (i : Nat) : ∀ n, (mkN P n).testBit i = true ↔ i < n ∧ P i := by
  intro n
  induction n with
  | zero => simp [mkN]
  | succ n ih =>
    rw [mkN, Nat.testBit_or, Bool.or_eq_true, ih]
    by_cases h : P n
    · rw [cif_t h, Nat.testBit_two_pow, decide_eq_true_eq]
      constructor
      · rintro (q | rfl)
        · exact ⟨by omega, q.2⟩
        · exact ⟨Nat.lt_succ_self _, h⟩
      · rintro ⟨q1, q2⟩
        rcases Nat.lt_or_ge i n with z | z
        · exact Or.inl ⟨z, q2⟩
        · exact Or.inr (by omega)
    · rw [cif_f h, Nat.zero_testBit]
      constructor
      · rintro (q | q)
        · exact ⟨by omega, q.2⟩
        · cases q
      · rintro ⟨q1, q2⟩
        refine Or.inl ⟨?_, q2⟩
        rcases Nat.lt_or_ge i n with z | z
        · exact z
        · exact absurd (by rw [show n = i by omega]; exact q2) h
theorem shl1 {c : Nat} (h : c < 31) : shlI 1 c = ((2 ^ c : Nat) : Int) := by
  have := N_shl (a := 1) (k := c) (by omega) (by rw [Nat.one_shiftLeft]; exact Nat.lt_of_lt_of_le (Nat.pow_lt_pow_right (by decide) h) (by decide))
  rw [Nat.one_shiftLeft] at this
  exact this
theorem mkN_1024 (P : Int → Prop) {n : Nat} (h : n ≤ 10) : mkN P n < 1024 := Nat.lt_of_lt_of_le (mkN_lt P n) (Nat.pow_le_pow_right (by decide) h : 2 ^ n ≤ 2 ^ 10)
theorem mkN_t {P : Int → Prop} {c : Int} (h0 : 0 ≤ c) (h1 : c < 10) (h : P c) : orI (mkN P c.toNat) (shlI 1 c) = (mkN P (c + 1).toNat : Nat) := by
  obtain ⟨n, rfl⟩ := Int.eq_ofNat_of_zero_le h0
  have e : ((n : Int) + 1).toNat = n + 1 := by omega
  have hp : 2 ^ n < 1024 := Nat.pow_lt_pow_right (by decide) (by omega : n < 10)
  rw [e, Int.toNat_natCast, shl1 (by omega), mkN, cif_t h, N_or (by have := mkN_1024 P (n := n) (by omega); omega) (by omega)]
theorem mkN_f {P : Int → Prop} {c : Int} (h0 : 0 ≤ c) (h : ¬ P c) : mkN P (c + 1).toNat = mkN P c.toNat := by
  obtain ⟨n, rfl⟩ := Int.eq_ofNat_of_zero_le h0
  have e : ((n : Int) + 1).toNat = n + 1 := by omega
  rw [e, Int.toNat_natCast, mkN, cif_f h, Nat.or_zero]
theorem tb4 (x : Nat) : (x % 4 = 2 ↔ x.testBit 1 = true ∧ ¬ x.testBit 0 = true) ∧ (x % 4 = 1 ↔ x.testBit 0 = true ∧ ¬ x.testBit 1 = true) := by
  rw [Nat.testBit_eq_decide_div_mod_eq, Nat.testBit_eq_decide_div_mod_eq, decide_eq_true_eq, decide_eq_true_eq]
  simp only [Nat.pow_one, Nat.pow_zero, Nat.div_one]
  omega
theorem and3 (x : Nat) : x &&& 3 = x % 4 := Nat.and_two_pow_sub_one_eq_mod x 2
section
variable {S : Sl} {row : Int} {C : Nat}
theorem opn_lt {b r c : Int} (h0 : 0 ≤ b) (h1 : 0 ≤ r) (h2 : r < 6) (h : opn S (100 * b + 10 * r) c) : 0 ≤ c ∧ c < S 0 b 1 := by
  obtain ⟨h3, ⟨_, _, _, h4⟩, _⟩ := h
  rw [show (100 * b + 10 * r + c) / 100 = b by omega, show (100 * b + 10 * r + c) % 10 = c by omega] at h4
  exact ⟨h3.1, h4⟩
theorem tb_opn (hC : ∀ c, opn S row c → c < C) {i : Nat} : (mkN (opn S row) C).testBit i = true ↔ opn S row i := by
  rw [mkN_bit]
  exact ⟨fun h => h.2, fun h => ⟨by have := hC i h; omega, h⟩⟩
theorem hr_iff (hC : ∀ c, opn S row c → c < C) (hC2 : C ≤ 10) {f n : Int} (hf : 0 ≤ f) (hn : 1 ≤ n) (hfn : f + n ≤ 10) : andI (shrI (mkN (opn S row) C : Nat) f) (shlI 1 n - 1) = shlI 1 n - 1 ↔ are S row f n := by
  obtain ⟨f, rfl⟩ := Int.eq_ofNat_of_zero_le hf
  obtain ⟨n, rfl⟩ := Int.eq_ofNat_of_zero_le (show 0 ≤ n by omega)
  have hu := mkN_1024 (opn S row) hC2
  have hp : 1 ≤ 2 ^ n := Nat.one_le_two_pow
  have hs : mkN (opn S row) C >>> f ≤ mkN (opn S row) C := by rw [Nat.shiftRight_eq_div_pow]; exact Nat.div_le_self _ _
  have e1 : ((2 ^ n : Nat) : Int) - 1 = ((2 ^ n - 1 : Nat) : Int) := by omega
  rw [shl1 (by omega), e1, N_shr (by omega) (by omega), N_and (by omega), Nat.and_two_pow_sub_one_eq_mod]
  constructor
  · intro h k hk0 hk1
    obtain ⟨k, rfl⟩ := Int.eq_ofNat_of_zero_le hk0
    have h2 : mkN (opn S row) C >>> f % 2 ^ n = 2 ^ n - 1 := by omega
    have h3 := congrArg (fun x => x.testBit k) h2
    simp only [Nat.testBit_mod_two_pow, Nat.testBit_two_pow_sub_one, Nat.testBit_shiftRight] at h3
    rw [decide_eq_true (by omega : k < n), Bool.true_and] at h3
    exact tb_opn hC (i := f + k) |>.mp h3
  · intro h
    have : mkN (opn S row) C >>> f % 2 ^ n = 2 ^ n - 1 := by
      apply Nat.eq_of_testBit_eq
      intro k
      rw [Nat.testBit_mod_two_pow, Nat.testBit_two_pow_sub_one, Nat.testBit_shiftRight]
      by_cases q : k < n
      · rw [decide_eq_true q, Bool.true_and]
        exact (tb_opn hC).mpr (h k (by omega) (by omega))
      · rw [decide_eq_false q]; rfl
    rw [this]
theorem la_iff (hC : ∀ c, opn S row c → c < C) (hC2 : C ≤ 10) {f n : Int} (hf : 0 ≤ f) (hf2 : f ≤ 10) (hn : 1 ≤ n) (hn2 : n ≤ 10) : bi (andI (shrI (shlI (mkN (opn S row) C : Nat) 2) f) 3 = 2) + bi (andI (shrI (mkN (opn S row) C : Nat) (f + n)) 3 = 1) = la S row f n := by
  obtain ⟨f, rfl⟩ := Int.eq_ofNat_of_zero_le hf
  obtain ⟨n, rfl⟩ := Int.eq_ofNat_of_zero_le (show 0 ≤ n by omega)
  have hu := mkN_1024 (opn S row) hC2
  have hs : ∀ k, mkN (opn S row) C >>> k ≤ mkN (opn S row) C := fun k => by rw [Nat.shiftRight_eq_div_pow]; exact Nat.div_le_self _ _
  have hl : mkN (opn S row) C <<< 2 = mkN (opn S row) C * 4 := by rw [Nat.shiftLeft_eq]
  have hs2 : ∀ k, mkN (opn S row) C <<< 2 >>> k ≤ mkN (opn S row) C * 4 := fun k => by rw [Nat.shiftRight_eq_div_pow, hl]; exact Nat.div_le_self _ _
  have a1 := hs (f + n)
  have a2 := hs2 f
  have e3 : shlI (mkN (opn S row) C : Nat) 2 = ((mkN (opn S row) C <<< 2 : Nat) : Int) := N_shl (k := 2) (by omega) (by omega)
  have e4 : ((f : Int) + n) = ((f + n : Nat) : Int) := by omega
  have e5 : ∀ x : Nat, x < 2147483648 → andI x 3 = ((x % 4 : Nat) : Int) := fun x hx => by rw [show (3 : Int) = ((3 : Nat) : Int) from rfl, N_and hx, and3]
  unfold la
  rw [e3, e4, N_shr (by omega) (by omega), N_shr (by omega) (by omega), e5 _ (by omega), e5 _ (by omega)]
  congr 1
  · apply bi_iff
    have h1 : (((mkN (opn S row) C <<< 2 >>> f % 4 : Nat) : Int) = 2) ↔ mkN (opn S row) C <<< 2 >>> f % 4 = 2 := by omega
    rw [h1, (tb4 _).1, Nat.testBit_shiftRight, Nat.testBit_shiftRight, Nat.testBit_shiftLeft, Nat.testBit_shiftLeft]
    have k1 : ((decide (f + 1 ≥ 2) && (mkN (opn S row) C).testBit (f + 1 - 2)) = true) ↔ opn S row ((f : Int) - 1) := by
      by_cases q : f + 1 ≥ 2
      · rw [decide_eq_true q, Bool.true_and, tb_opn hC, show ((f + 1 - 2 : Nat) : Int) = (f : Int) - 1 by omega]
      · rw [decide_eq_false q, Bool.false_and]
        exact ⟨fun z => (by cases z), fun z => (by have := z.1.1; omega)⟩
    have k2 : ((decide (f + 0 ≥ 2) && (mkN (opn S row) C).testBit (f + 0 - 2)) = true) ↔ opn S row ((f : Int) - 2) := by
      by_cases q : f + 0 ≥ 2
      · rw [decide_eq_true q, Bool.true_and, tb_opn hC, show ((f + 0 - 2 : Nat) : Int) = (f : Int) - 2 by omega]
      · rw [decide_eq_false q, Bool.false_and]
        exact ⟨fun z => (by cases z), fun z => (by have := z.1.1; omega)⟩
    rw [k1, k2]
  · apply bi_iff
    have h1 : (((mkN (opn S row) C >>> (f + n) % 4 : Nat) : Int) = 1) ↔ mkN (opn S row) C >>> (f + n) % 4 = 1 := by omega
    rw [h1, (tb4 _).2, Nat.testBit_shiftRight, Nat.testBit_shiftRight, tb_opn hC, tb_opn hC, show ((f + n + 0 : Nat) : Int) = (f : Int) + n by omega, show ((f + n + 1 : Nat) : Int) = (f : Int) + n + 1 by omega]
    rfl
end
/-! counting bits -/
def bc1 (x : Int) : Int := x - andI (ushI x 1) 1431655765
def bc2 (x : Int) : Int := andI x 858993459 + andI (ushI x 2) 858993459
def bc3 (x : Int) : Int := andI (x + ushI x 4) 252645135
def bc4 (x : Int) : Int := x + ushI x 8
def bc5 (x : Int) : Int := x + ushI x 16
def pop10 (x : Nat) : Nat := x % 2 + x / 2 % 2 + x / 4 % 2 + x / 8 % 2 + x / 16 % 2 + x / 32 % 2 + x / 64 % 2 + x / 128 % 2 + x / 256 % 2 + x / 512 % 2
def sml (x : Int) : Bool := decide (-1000000000 ≤ x) && decide (x ≤ 1000000000)
set_option maxRecDepth 20000 in
theorem fin_bc : ∀ n, n < 1024 → (sml (bc1 (n : Nat)) && sml (bc2 (bc1 n)) && sml (bc2 (bc1 n) + ushI (bc2 (bc1 n)) 4) && sml (bc4 (bc3 (bc2 (bc1 n)))) && sml (bc5 (bc4 (bc3 (bc2 (bc1 n))))) && decide (andI (bc5 (bc4 (bc3 (bc2 (bc1 n))))) 63 = (pop10 n : Nat))) = true := by decide +kernel
theorem pop_mk (P : Int → Prop) {C : Nat} (hC : C ≤ 10) : ((pop10 (mkN P C) : Nat) : Int) = sm (fun c => bi (P c)) C := by
  have hb : ∀ k : Nat, ((mkN P C / 2 ^ k % 2 : Nat) : Int) = bi (k < C ∧ P k) := by
    intro k
    by_cases h : (mkN P C).testBit k = true
    · rw [bi_t ((mkN_bit P k C).mp h)]
      rw [Nat.testBit_eq_decide_div_mod_eq, decide_eq_true_eq] at h
      omega
    · rw [bi_f (fun z => h ((mkN_bit P k C).mpr z))]
      rw [Nat.testBit_eq_decide_div_mod_eq, decide_eq_true_eq] at h
      omega
  have h1 : sm (fun c => bi (P c)) C = sm (fun c => bi (c < C ∧ P c)) 10 := by
    have e := sm_app (f := fun c => bi (c < C ∧ P c)) C (10 - C)
    rw [show C + (10 - C) = 10 by omega] at e
    rw [e, sm_zero (f := fun k => bi ((C : Int) + k < C ∧ P (C + k))) (fun k h0 h1 => bi_f (fun z => by have := z.1; omega)), Int.add_zero]
    exact sm_congr (fun k h0 h1 => bi_iff ⟨fun z => ⟨h1, z⟩, fun z => z.2⟩)
  rw [h1]
  have hb2 : ∀ k : Nat, bi ((k : Int) < C ∧ P k) = ((mkN P C / 2 ^ k % 2 : Nat) : Int) := fun k => by rw [hb k]; exact bi_iff ⟨fun z => ⟨by omega, z.2⟩, fun z => ⟨by omega, z.2⟩⟩
  simp only [sm, hb2]
  unfold pop10
  simp only [Nat.pow_zero, Nat.div_one, Nat.reducePow]
  omega
end
section
/-! 15: the class: what the floor's methods that only look answer -/
section
variable {X : XI}
theorem shl1_r {n : Int} (h : 0 ≤ n ∧ n ≤ 20) : 1 ≤ shlI 1 n ∧ shlI 1 n ≤ 1048576 := by
  obtain ⟨k, rfl⟩ := Int.eq_ofNat_of_zero_le h.1
  rw [shl1 (by omega)]
  have h1 : 2 ^ k ≤ 2 ^ 20 := Nat.pow_le_pow_right (by decide) (by omega)
  have h2 : 1 ≤ 2 ^ k := Nat.one_le_two_pow
  have h3 : (2 : Nat) ^ 20 = 1048576 := rfl
  omega
theorem d_blockAt_t {M : NM} {j b : Int} (h : 0 ≤ b ∧ b < M 1 j 0 3) (h6 : M 1 j 0 3 ≤ 6) : HT X z_X1_blockAt [.inr (.inr (some (1, j, 0))), .inl b] M (fun r M' => r = some (.inr (.inr (some (0, j, b)))) ∧ M' = M) := by
  refine ht_of (e := E_X1_blockAt) rfl (?_ : EvI X E_X1_blockAt (0, [some (.inr (.inr (some (1, j, 0)))), some (.inl b)], [], M) _)
  refine seg_ok 2 (?_ : EvI X E_X1_blockAt (if b < 0 then 21 else 4, [some (.inr (.inr (some (1, j, 0)))), some (.inl b)], [], M) _)
  refine ev_if (fun h1 => ?_) (fun h1 => ?_)
  · exfalso
    omega
  · refine seg_ok 4 (?_ : EvI X E_X1_blockAt (if b < (M 1 j 0 3) then 12 else 21, [some (.inr (.inr (some (1, j, 0)))), some (.inl b)], [], M) _)
    refine ev_if (fun h9 => ?_) (fun h9 => ?_)
    · refine seg_ok 5 (⟨by omega, ?_⟩ : ((0 : Int) ≤ b ∧ b < 6) ∧ EvI X E_X1_blockAt (22, [some (.inr (.inr (some (1, j, 0)))), some (.inl b)], [.inr (.inr (some (0, j, b)))], M) _)
      refine ev_rt (r := some (.inr (.inr (some (0, j, b))))) rfl (?_)
      exact ⟨rfl, rfl⟩
    · exfalso
      omega
theorem d_blockAt_f {M : NM} {j b : Int} (h : ¬ (0 ≤ b ∧ b < M 1 j 0 3)) : HT X z_X1_blockAt [.inr (.inr (some (1, j, 0))), .inl b] M (fun r M' => r = some (.inr (.inr none)) ∧ M' = M) := by
  refine ht_of (e := E_X1_blockAt) rfl (?_ : EvI X E_X1_blockAt (0, [some (.inr (.inr (some (1, j, 0)))), some (.inl b)], [], M) _)
  refine seg_ok 2 (?_ : EvI X E_X1_blockAt (if b < 0 then 21 else 4, [some (.inr (.inr (some (1, j, 0)))), some (.inl b)], [], M) _)
  refine ev_if (fun h1 => ?_) (fun h1 => ?_)
  · refine seg_ok 1 (?_ : EvI X E_X1_blockAt (22, [some (.inr (.inr (some (1, j, 0)))), some (.inl b)], [.inr (.inr none)], M) _)
    refine ev_rt (r := some (.inr (.inr none))) rfl (?_)
    exact ⟨rfl, rfl⟩
  · refine seg_ok 4 (?_ : EvI X E_X1_blockAt (if b < (M 1 j 0 3) then 12 else 21, [some (.inr (.inr (some (1, j, 0)))), some (.inl b)], [], M) _)
    refine ev_if (fun h9 => ?_) (fun h9 => ?_)
    · exfalso
      omega
    · refine seg_ok 1 (?_ : EvI X E_X1_blockAt (22, [some (.inr (.inr (some (1, j, 0)))), some (.inl b)], [.inr (.inr none)], M) _)
      refine ev_rt (r := some (.inr (.inr none))) rfl (?_)
      exact ⟨rfl, rfl⟩
theorem d_isGroup {M : NM} {n : Int} : HT X z_X1_isGroup [.inl n] M (fun rr MM => rr = some (.inl (bi (1 ≤ n ∧ n ≤ 10))) ∧ MM = M) := by
  refine ht_of (e := E_X1_isGroup) rfl (?_ : EvI X E_X1_isGroup (0, [some (.inl n)], [], M) _)
  refine seg_ok 3 (?_ : EvI X E_X1_isGroup (if n < 1 then 15 else 5, [some (.inl n)], [], M) _)
  refine ev_if (fun h2 => ?_) (fun h2 => ?_)
  · refine seg_ok 1 (?_ : EvI X E_X1_isGroup (16, [some (.inl n)], [.inl 0], M) _)
    refine ev_rt (r := some (.inl 0)) rfl (⟨by decide, ?_⟩)
    exact ⟨rint (is0 (by omega)), rfl⟩
  · refine seg_ok 3 (?_ : EvI X E_X1_isGroup (if 10 < n then 15 else 11, [some (.inl n)], [], M) _)
    refine ev_if (fun h8 => ?_) (fun h8 => ?_)
    · refine seg_ok 1 (?_ : EvI X E_X1_isGroup (16, [some (.inl n)], [.inl 0], M) _)
      refine ev_rt (r := some (.inl 0)) rfl (⟨by decide, ?_⟩)
      exact ⟨rint (is0 (by omega)), rfl⟩
    · refine seg_ok 2 (?_ : EvI X E_X1_isGroup (16, [some (.inl n)], [.inl 1], M) _)
      refine ev_rt (r := some (.inl 1)) rfl (⟨by decide, ?_⟩)
      exact ⟨rint (is1 (by omega)), rfl⟩
theorem d_isStage {M : NM} {j : Int} {b : Int} : HT X z_X1_isStage [.inr (.inr (some (1, j, 0))), .inl b] M (fun rr MM => rr = some (.inl (bi (0 ≤ b ∧ b < M 1 j 0 4))) ∧ MM = M) := by
  refine ht_of (e := E_X1_isStage) rfl (?_ : EvI X E_X1_isStage (0, [some (.inr (.inr (some (1, j, 0)))), some (.inl b)], [], M) _)
  refine seg_ok 2 (?_ : EvI X E_X1_isStage (if b < 0 then 16 else 4, [some (.inr (.inr (some (1, j, 0)))), some (.inl b)], [], M) _)
  refine ev_if (fun h1 => ?_) (fun h1 => ?_)
  · refine seg_ok 1 (?_ : EvI X E_X1_isStage (17, [some (.inr (.inr (some (1, j, 0)))), some (.inl b)], [.inl 0], M) _)
    refine ev_rt (r := some (.inl 0)) rfl (⟨by decide, ?_⟩)
    exact ⟨rint (is0 (by omega)), rfl⟩
  · refine seg_ok 4 (?_ : EvI X E_X1_isStage (if b < (M 1 j 0 4) then 12 else 16, [some (.inr (.inr (some (1, j, 0)))), some (.inl b)], [], M) _)
    refine ev_if (fun h9 => ?_) (fun h9 => ?_)
    · refine seg_ok 2 (?_ : EvI X E_X1_isStage (17, [some (.inr (.inr (some (1, j, 0)))), some (.inl b)], [.inl 1], M) _)
      refine ev_rt (r := some (.inl 1)) rfl (⟨by decide, ?_⟩)
      exact ⟨rint (is1 (by omega)), rfl⟩
    · refine seg_ok 1 (?_ : EvI X E_X1_isStage (17, [some (.inr (.inr (some (1, j, 0)))), some (.inl b)], [.inl 0], M) _)
      refine ev_rt (r := some (.inl 0)) rfl (⟨by decide, ?_⟩)
      exact ⟨rint (is0 (by omega)), rfl⟩
theorem d_isUp {M : NM} {j : Int} {b : Int} : HT X z_X1_isUp [.inr (.inr (some (1, j, 0))), .inl b] M (fun rr MM => rr = some (.inl (bi (upP (sl M j) b))) ∧ MM = M) := by
  refine ht_of (e := E_X1_isUp) rfl (?_ : EvI X E_X1_isUp (0, [some (.inr (.inr (some (1, j, 0)))), some (.inl b)], [], M) _)
  refine seg_ok 8 (?_ : EvI X E_X1_isUp (if (andI (shrI (M 1 j 0 5) b) 1) = 1 then 12 else 16, [some (.inr (.inr (some (1, j, 0)))), some (.inl b)], [], M) _)
  refine ev_if (fun h9 => ?_) (fun h9 => ?_)
  · refine seg_ok 2 (?_ : EvI X E_X1_isUp (17, [some (.inr (.inr (some (1, j, 0)))), some (.inl b)], [.inl 1], M) _)
    refine ev_rt (r := some (.inl 1)) rfl (⟨by decide, ?_⟩)
    exact ⟨rint (is1 (h9)), rfl⟩
  · refine seg_ok 1 (?_ : EvI X E_X1_isUp (17, [some (.inr (.inr (some (1, j, 0)))), some (.inl b)], [.inl 0], M) _)
    refine ev_rt (r := some (.inl 0)) rfl (⟨by decide, ?_⟩)
    exact ⟨rint (is0 (h9)), rfl⟩
theorem d_rankOf {m : Int} {M : NM} {j : Int} (hI : Inv m (sl M j)) {b : Int} (h1 : 0 ≤ b ∧ b < M 1 j 0 3) : HT X z_X1_rankOf [.inr (.inr (some (1, j, 0))), .inl b] M (fun rr MM => rr = some (.inl (rk (sl M j) b)) ∧ MM = M) := by
  have hi := hI.1
  simp only [Iv0, sl] at hi
  refine ht_of (e := E_X1_rankOf) rfl (?_ : EvI X E_X1_rankOf (0, [some (.inr (.inr (some (1, j, 0)))), some (.inl b), none, none, none], [], M) _)
  refine seg_ok 2 (?_ : EvI X E_X1_rankOf (2, [some (.inr (.inr (some (1, j, 0)))), some (.inl b), none, none, none], [.inl b, .inr (.inr (some (1, j, 0)))], M) _)
  refine ev_clp (v := .inr (.inr (some (0, j, b)))) (z := z_X1_blockAt) (as := [.inr (.inr (some (1, j, 0))), .inl b]) (rest := []) rfl (d_blockAt_t (by omega) (by omega)) (?_ : EvI X E_X1_rankOf (5, [some (.inr (.inr (some (1, j, 0)))), some (.inl b), none, none, none], [.inr (.inr (some (0, j, b)))], M) _)
  refine seg_ok 5 (?_ : EvI X E_X1_rankOf (11, [some (.inr (.inr (some (1, j, 0)))), some (.inl b), some (.inr (.inr (some (0, j, b)))), some (.inl 0), some (.inl 0)], [], M) _)
  have L11 : ∀ (m11 : Nat) (n o : Int), M 1 j 0 3 - o < (m11 : Int) → (0 ≤ o) → (o ≤ M 1 j 0 3) → (n = sm (fun o => bi (M 0 j o 2 < M 0 j b 2)) o.toNat) → EvI X E_X1_rankOf (11, [some (.inr (.inr (some (1, j, 0)))), some (.inl b), some (.inr (.inr (some (0, j, b)))), some (.inl n), some (.inl o)], [], M) (fun rr MM => rr = some (.inl (rk (sl M j) b)) ∧ MM = M) := by
    intro m11
    induction m11 with
    | zero => intro n o hm11 q1 q2 q3; exact absurd hm11 (by omega)
    | succ m11 ih11 =>
      intro n o hm11 q1 q2 q3
      subst q3
      have q4 := smb_bnd (fun o => M 0 j o 2 < M 0 j b 2) o.toNat
      refine seg_ok 6 (?_ : EvI X E_X1_rankOf (if o < (M 1 j 0 3) then 24 else 50, [some (.inr (.inr (some (1, j, 0)))), some (.inl b), some (.inr (.inr (some (0, j, b)))), some (.inl (sm (fun o => bi (M 0 j o 2 < M 0 j b 2)) o.toNat)), some (.inl o)], [], M) _)
      refine ev_if (fun h21 => ?_) (fun h21 => ?_)
      · refine seg_ok 8 (⟨by omega, ?_⟩ : ((0 : Int) ≤ o ∧ o < 6) ∧ EvI X E_X1_rankOf (if (M 0 j o 2) < (M 0 j b 2) then 41 else 44, [some (.inr (.inr (some (1, j, 0)))), some (.inl b), some (.inr (.inr (some (0, j, b)))), some (.inl (sm (fun o => bi (M 0 j o 2 < M 0 j b 2)) o.toNat)), some (.inl o)], [], M) _)
        refine ev_if (fun h38 => ?_) (fun h38 => ?_)
        · refine seg_ok 3 (⟨by omega, by omega, ?_⟩ : ((-2147483648 : Int) ≤ ((sm (fun o => bi (M 0 j o 2 < M 0 j b 2)) o.toNat) + 1) ∧ ((sm (fun o => bi (M 0 j o 2 < M 0 j b 2)) o.toNat) + 1) < 2147483648) ∧ ((-2147483648 : Int) ≤ (o + 1) ∧ (o + 1) < 2147483648) ∧ EvI X E_X1_rankOf (11, [some (.inr (.inr (some (1, j, 0)))), some (.inl b), some (.inr (.inr (some (0, j, b)))), some (.inl ((sm (fun o => bi (M 0 j o 2 < M 0 j b 2)) o.toNat) + 1)), some (.inl (o + 1))], [], M) _)
          refine ih11 ((sm (fun o => bi (M 0 j o 2 < M 0 j b 2)) o.toNat) + 1) (o + 1) (by omega) (by omega) (by omega) (by rw [sm_step q1]; exact acc0 (is1 h38))
        · refine seg_ok 2 (⟨by omega, ?_⟩ : ((-2147483648 : Int) ≤ (o + 1) ∧ (o + 1) < 2147483648) ∧ EvI X E_X1_rankOf (11, [some (.inr (.inr (some (1, j, 0)))), some (.inl b), some (.inr (.inr (some (0, j, b)))), some (.inl (sm (fun o => bi (M 0 j o 2 < M 0 j b 2)) o.toNat)), some (.inl (o + 1))], [], M) _)
          refine ih11 (sm (fun o => bi (M 0 j o 2 < M 0 j b 2)) o.toNat) (o + 1) (by omega) (by omega) (by omega) (by rw [sm_step q1, bi_f h38, Int.add_zero])
      · refine seg_ok 1 (?_ : EvI X E_X1_rankOf (51, [some (.inr (.inr (some (1, j, 0)))), some (.inl b), some (.inr (.inr (some (0, j, b)))), some (.inl (sm (fun o => bi (M 0 j o 2 < M 0 j b 2)) o.toNat)), some (.inl o)], [.inl (sm (fun o => bi (M 0 j o 2 < M 0 j b 2)) o.toNat)], M) _)
        refine ev_rt (r := some (.inl (sm (fun o => bi (M 0 j o 2 < M 0 j b 2)) o.toNat))) rfl (?_)
        exact ⟨rint (by rw [show o = M 1 j 0 3 by omega]; rfl), rfl⟩
  refine L11 ((M 1 j 0 3 - 0) + 1 : Int).toNat 0 0 (by omega) (by omega) (by omega) rfl
theorem d_priceOf {M : NM} {j : Int} {b : Int} (h1 : 0 ≤ b ∧ b < M 1 j 0 3) (h6 : M 1 j 0 3 ≤ 6) : HT X z_X1_priceOf [.inr (.inr (some (1, j, 0))), .inl b] M (fun rr MM => rr = some (.inl (M 0 j b 2)) ∧ MM = M) := by
  refine ht_of (e := E_X1_priceOf) rfl (?_ : EvI X E_X1_priceOf (0, [some (.inr (.inr (some (1, j, 0)))), some (.inl b), none], [], M) _)
  refine seg_ok 2 (?_ : EvI X E_X1_priceOf (2, [some (.inr (.inr (some (1, j, 0)))), some (.inl b), none], [.inl b, .inr (.inr (some (1, j, 0)))], M) _)
  refine ev_clp (v := .inr (.inr (some (0, j, b)))) (z := z_X1_blockAt) (as := [.inr (.inr (some (1, j, 0))), .inl b]) (rest := []) rfl (d_blockAt_t (by omega) (by omega)) (?_ : EvI X E_X1_priceOf (5, [some (.inr (.inr (some (1, j, 0)))), some (.inl b), none], [.inr (.inr (some (0, j, b)))], M) _)
  refine seg_ok 5 (?_ : EvI X E_X1_priceOf (18, [some (.inr (.inr (some (1, j, 0)))), some (.inl b), some (.inr (.inr (some (0, j, b))))], [.inl (M 0 j b 2)], M) _)
  refine ev_rt (r := some (.inl (M 0 j b 2))) rfl (?_)
  exact ⟨rfl, rfl⟩
theorem d_isChair {m : Int} {M : NM} {j : Int} (hI : Inv m (sl M j)) {c : Int} : HT X z_X1_isChair [.inr (.inr (some (1, j, 0))), .inl c] M (fun rr MM => rr = some (.inl (bi (isCh (sl M j) c))) ∧ MM = M) := by
  have hi := hI.1
  simp only [Iv0, sl] at hi
  refine ht_of (e := E_X1_isChair) rfl (?_ : EvI X E_X1_isChair (0, [some (.inr (.inr (some (1, j, 0)))), some (.inl c), none, none], [], M) _)
  refine seg_ok 2 (?_ : EvI X E_X1_isChair (if c < 0 then 4 else 6, [some (.inr (.inr (some (1, j, 0)))), some (.inl c), none, none], [], M) _)
  refine ev_if (fun h1 => ?_) (fun h1 => ?_)
  · refine seg_ok 1 (?_ : EvI X E_X1_isChair (5, [some (.inr (.inr (some (1, j, 0)))), some (.inl c), none, none], [.inl 0], M) _)
    refine ev_rt (r := some (.inl 0)) rfl (⟨by decide, ?_⟩)
    exact ⟨rint (is0 (by simp only [isCh, sl]; omega)), rfl⟩
  · refine seg_ok 4 (⟨by omega, ?_⟩ : ((0 : Int) ≤ c ∧ (0 : Int) < 100) ∧ EvI X E_X1_isChair (11, [some (.inr (.inr (some (1, j, 0)))), some (.inl c), none, none], [.inl (c / 100), .inr (.inr (some (1, j, 0)))], M) _)
    by_cases hb : 0 ≤ c / 100 ∧ c / 100 < M 1 j 0 3
    · refine ev_clp (v := .inr (.inr (some (0, j, (c / 100))))) (z := z_X1_blockAt) (as := [.inr (.inr (some (1, j, 0))), .inl (c / 100)]) (rest := []) rfl (d_blockAt_t hb (by omega)) (?_ : EvI X E_X1_isChair (14, [some (.inr (.inr (some (1, j, 0)))), some (.inl c), none, none], [.inr (.inr (some (0, j, (c / 100))))], M) _)
      refine seg_ok 13 (⟨by omega, by omega, ?_⟩ : ((0 : Int) ≤ c ∧ (0 : Int) < 100) ∧ ((0 : Int) ≤ (c % 100) ∧ (0 : Int) < 10) ∧ EvI X E_X1_isChair (if ((c % 100) / 10) < (M 0 j (c / 100) 0) then 37 else 52, [some (.inr (.inr (some (1, j, 0)))), some (.inl c), some (.inr (.inr (some (0, j, (c / 100))))), some (.inl ((c % 100) / 10))], [], M) _)
      refine ev_if (fun h34 => ?_) (fun h34 => ?_)
      · refine seg_ok 6 (⟨by omega, ?_⟩ : ((0 : Int) ≤ c ∧ (0 : Int) < 10) ∧ EvI X E_X1_isChair (if (c % 10) < (M 0 j (c / 100) 1) then 48 else 52, [some (.inr (.inr (some (1, j, 0)))), some (.inl c), some (.inr (.inr (some (0, j, (c / 100))))), some (.inl ((c % 100) / 10))], [], M) _)
        refine ev_if (fun h45 => ?_) (fun h45 => ?_)
        · refine seg_ok 2 (?_ : EvI X E_X1_isChair (53, [some (.inr (.inr (some (1, j, 0)))), some (.inl c), some (.inr (.inr (some (0, j, (c / 100))))), some (.inl ((c % 100) / 10))], [.inl 1], M) _)
          refine ev_rt (r := some (.inl 1)) rfl (⟨by decide, ?_⟩)
          exact ⟨rint (is1 (by simp only [isCh, sl]; omega)), rfl⟩
        · refine seg_ok 1 (?_ : EvI X E_X1_isChair (53, [some (.inr (.inr (some (1, j, 0)))), some (.inl c), some (.inr (.inr (some (0, j, (c / 100))))), some (.inl ((c % 100) / 10))], [.inl 0], M) _)
          refine ev_rt (r := some (.inl 0)) rfl (⟨by decide, ?_⟩)
          exact ⟨rint (is0 (by simp only [isCh, sl]; omega)), rfl⟩
      · refine seg_ok 1 (?_ : EvI X E_X1_isChair (53, [some (.inr (.inr (some (1, j, 0)))), some (.inl c), some (.inr (.inr (some (0, j, (c / 100))))), some (.inl ((c % 100) / 10))], [.inl 0], M) _)
        refine ev_rt (r := some (.inl 0)) rfl (⟨by decide, ?_⟩)
        exact ⟨rint (is0 (by simp only [isCh, sl]; omega)), rfl⟩
    · refine ev_clp (v := .inr (.inr none)) (z := z_X1_blockAt) (as := [.inr (.inr (some (1, j, 0))), .inl (c / 100)]) (rest := []) rfl (d_blockAt_f hb) (?_ : EvI X E_X1_isChair (14, [some (.inr (.inr (some (1, j, 0)))), some (.inl c), none, none], [.inr (.inr none)], M) _)
      refine seg_ok 4 (?_ : EvI X E_X1_isChair (20, [some (.inr (.inr (some (1, j, 0)))), some (.inl c), some (.inr (.inr none)), none], [.inl 0], M) _)
      refine ev_rt (r := some (.inl 0)) rfl (⟨by decide, ?_⟩)
      exact ⟨rint (is0 (by simp only [isCh, sl]; omega)), rfl⟩
theorem d_isPiece {m : Int} {M : NM} {j : Int} (hI : Inv m (sl M j)) {f t : Int} : HT X z_X1_isPiece [.inr (.inr (some (1, j, 0))), .inl f, .inl t] M (fun rr MM => rr = some (.inl (bi (isPc (sl M j) f t))) ∧ MM = M) := by
  have hi := hI.1
  simp only [Iv0, sl] at hi
  refine ht_of (e := E_X1_isPiece) rfl (?_ : EvI X E_X1_isPiece (0, [some (.inr (.inr (some (1, j, 0)))), some (.inl f), some (.inl t), none], [], M) _)
  refine seg_ok 2 (?_ : EvI X E_X1_isPiece (2, [some (.inr (.inr (some (1, j, 0)))), some (.inl f), some (.inl t), none], [.inl f, .inr (.inr (some (1, j, 0)))], M) _)
  refine ev_clp (v := .inl (bi (isCh (sl M j) f))) (z := z_X1_isChair) (as := [.inr (.inr (some (1, j, 0))), .inl f]) (rest := []) rfl (d_isChair hI) (?_ : EvI X E_X1_isPiece (5, [some (.inr (.inr (some (1, j, 0)))), some (.inl f), some (.inl t), none], [.inl (bi (isCh (sl M j) f))], M) _)
  refine seg_ok 1 (?_ : EvI X E_X1_isPiece (if (bi (isCh (sl M j) f)) = 0 then 16 else 8, [some (.inr (.inr (some (1, j, 0)))), some (.inl f), some (.inl t), none], [], M) _)
  refine ev_ifb (fun h5 => ?_) (fun h5 => ?_)
  · refine seg_ok 1 (?_ : EvI X E_X1_isPiece (17, [some (.inr (.inr (some (1, j, 0)))), some (.inl f), some (.inl t), none], [.inl 0], M) _)
    refine ev_rt (r := some (.inl 0)) rfl (⟨by decide, ?_⟩)
    exact ⟨rint (is0 (fun z => by obtain ⟨z1, z2, z3, z4, z5⟩ := z; exact h5 z1)), rfl⟩
  · have k5 := isCh_r hI h5
    refine seg_ok 2 (?_ : EvI X E_X1_isPiece (10, [some (.inr (.inr (some (1, j, 0)))), some (.inl f), some (.inl t), none], [.inl t, .inr (.inr (some (1, j, 0)))], M) _)
    refine ev_clp (v := .inl (bi (isCh (sl M j) t))) (z := z_X1_isChair) (as := [.inr (.inr (some (1, j, 0))), .inl t]) (rest := []) rfl (d_isChair hI) (?_ : EvI X E_X1_isPiece (13, [some (.inr (.inr (some (1, j, 0)))), some (.inl f), some (.inl t), none], [.inl (bi (isCh (sl M j) t))], M) _)
    refine seg_ok 1 (?_ : EvI X E_X1_isPiece (if (bi (isCh (sl M j) t)) = 0 then 16 else 18, [some (.inr (.inr (some (1, j, 0)))), some (.inl f), some (.inl t), none], [], M) _)
    refine ev_ifb (fun h13 => ?_) (fun h13 => ?_)
    · refine seg_ok 1 (?_ : EvI X E_X1_isPiece (17, [some (.inr (.inr (some (1, j, 0)))), some (.inl f), some (.inl t), none], [.inl 0], M) _)
      refine ev_rt (r := some (.inl 0)) rfl (⟨by decide, ?_⟩)
      exact ⟨rint (is0 (fun z => by obtain ⟨z1, z2, z3, z4, z5⟩ := z; exact h13 z2)), rfl⟩
    · have k13 := isCh_r hI h13
      refine seg_ok 7 (⟨by omega, by omega, ?_⟩ : ((0 : Int) ≤ f ∧ (0 : Int) < 100) ∧ ((0 : Int) ≤ t ∧ (0 : Int) < 100) ∧ EvI X E_X1_isPiece (if (f / 100) = (t / 100) then 29 else 33, [some (.inr (.inr (some (1, j, 0)))), some (.inl f), some (.inl t), none], [], M) _)
      refine ev_if (fun h26 => ?_) (fun h26 => ?_)
      · refine seg_ok 8 (?_ : EvI X E_X1_isPiece (if t < f then 59 else 44, [some (.inr (.inr (some (1, j, 0)))), some (.inl f), some (.inl t), some (.inl 1)], [], M) _)
        refine ev_if (fun h41 => ?_) (fun h41 => ?_)
        · refine seg_ok 1 (?_ : EvI X E_X1_isPiece (60, [some (.inr (.inr (some (1, j, 0)))), some (.inl f), some (.inl t), some (.inl 1)], [.inl 0], M) _)
          refine ev_rt (r := some (.inl 0)) rfl (⟨by decide, ?_⟩)
          exact ⟨rint (is0 (fun z => by obtain ⟨z1, z2, z3, z4, z5⟩ := z; omega)), rfl⟩
        · refine seg_ok 7 (⟨by omega, by omega, ?_⟩ : ((0 : Int) ≤ f ∧ (0 : Int) < 10) ∧ ((0 : Int) ≤ t ∧ (0 : Int) < 10) ∧ EvI X E_X1_isPiece (if (t % 10) < (f % 10) then 59 else 55, [some (.inr (.inr (some (1, j, 0)))), some (.inl f), some (.inl t), some (.inl 1)], [], M) _)
          refine ev_if (fun h52 => ?_) (fun h52 => ?_)
          · refine seg_ok 1 (?_ : EvI X E_X1_isPiece (60, [some (.inr (.inr (some (1, j, 0)))), some (.inl f), some (.inl t), some (.inl 1)], [.inl 0], M) _)
            refine ev_rt (r := some (.inl 0)) rfl (⟨by decide, ?_⟩)
            exact ⟨rint (is0 (fun z => by obtain ⟨z1, z2, z3, z4, z5⟩ := z; omega)), rfl⟩
          · refine seg_ok 2 (?_ : EvI X E_X1_isPiece (60, [some (.inr (.inr (some (1, j, 0)))), some (.inl f), some (.inl t), some (.inl 1)], [.inl 1], M) _)
            refine ev_rt (r := some (.inl 1)) rfl (⟨by decide, ?_⟩)
            exact ⟨rint (is1 ⟨h5, h13, h26, by omega, by omega⟩), rfl⟩
      · refine seg_ok 5 (?_ : EvI X E_X1_isPiece (60, [some (.inr (.inr (some (1, j, 0)))), some (.inl f), some (.inl t), some (.inl 0)], [.inl 0], M) _)
        refine ev_rt (r := some (.inl 0)) rfl (⟨by decide, ?_⟩)
        exact ⟨rint (is0 (fun z => by obtain ⟨z1, z2, z3, z4, z5⟩ := z; omega)), rfl⟩
theorem d_chairsUnder {M : NM} {j : Int} {k : Int} : HT X z_X1_chairsUnder [.inr (.inr (some (1, j, 0))), .inl k] M (fun rr MM => rr = some (.inl (sm (fun c => bi (andI (M 14 j 0 c) k ≠ 0)) 600)) ∧ MM = M) := by
  refine ht_of (e := E_X1_chairsUnder) rfl (?_ : EvI X E_X1_chairsUnder (0, [some (.inr (.inr (some (1, j, 0)))), some (.inl k), none, none], [], M) _)
  refine seg_ok 4 (?_ : EvI X E_X1_chairsUnder (4, [some (.inr (.inr (some (1, j, 0)))), some (.inl k), some (.inl 0), some (.inl 0)], [], M) _)
  have L4 : ∀ (m4 : Nat) (n c : Int), 600 - c < (m4 : Int) → (0 ≤ c) → (c ≤ 600) → (n = sm (fun c => bi (andI (M 14 j 0 c) k ≠ 0)) c.toNat) → EvI X E_X1_chairsUnder (4, [some (.inr (.inr (some (1, j, 0)))), some (.inl k), some (.inl n), some (.inl c)], [], M) (fun rr MM => rr = some (.inl (sm (fun c => bi (andI (M 14 j 0 c) k ≠ 0)) 600)) ∧ MM = M) := by
    intro m4
    induction m4 with
    | zero => intro n c hm4 q1 q2 q3; exact absurd hm4 (by omega)
    | succ m4 ih4 =>
      intro n c hm4 q1 q2 q3
      subst q3
      have q4 := smb_bnd (fun c => andI (M 14 j 0 c) k ≠ 0) c.toNat
      refine seg_ok 3 (?_ : EvI X E_X1_chairsUnder (if c < 600 then 11 else 31, [some (.inr (.inr (some (1, j, 0)))), some (.inl k), some (.inl (sm (fun c => bi (andI (M 14 j 0 c) k ≠ 0)) c.toNat)), some (.inl c)], [], M) _)
      refine ev_if (fun h8 => ?_) (fun h8 => ?_)
      · refine seg_ok 7 (⟨by omega, ?_⟩ : ((0 : Int) ≤ c ∧ c < 600) ∧ EvI X E_X1_chairsUnder (if (andI (M 14 j 0 c) k) = 0 then 25 else 22, [some (.inr (.inr (some (1, j, 0)))), some (.inl k), some (.inl (sm (fun c => bi (andI (M 14 j 0 c) k ≠ 0)) c.toNat)), some (.inl c)], [], M) _)
        refine ev_if (fun h19 => ?_) (fun h19 => ?_)
        · refine seg_ok 2 (⟨by omega, ?_⟩ : ((-2147483648 : Int) ≤ (c + 1) ∧ (c + 1) < 2147483648) ∧ EvI X E_X1_chairsUnder (4, [some (.inr (.inr (some (1, j, 0)))), some (.inl k), some (.inl (sm (fun c => bi (andI (M 14 j 0 c) k ≠ 0)) c.toNat)), some (.inl (c + 1))], [], M) _)
          refine ih4 (sm (fun c => bi (andI (M 14 j 0 c) k ≠ 0)) c.toNat) (c + 1) (by omega) (by omega) (by omega) (by rw [sm_step q1, bi_f (fun z => z h19), Int.add_zero])
        · refine seg_ok 3 (⟨by omega, by omega, ?_⟩ : ((-2147483648 : Int) ≤ ((sm (fun c => bi (andI (M 14 j 0 c) k ≠ 0)) c.toNat) + 1) ∧ ((sm (fun c => bi (andI (M 14 j 0 c) k ≠ 0)) c.toNat) + 1) < 2147483648) ∧ ((-2147483648 : Int) ≤ (c + 1) ∧ (c + 1) < 2147483648) ∧ EvI X E_X1_chairsUnder (4, [some (.inr (.inr (some (1, j, 0)))), some (.inl k), some (.inl ((sm (fun c => bi (andI (M 14 j 0 c) k ≠ 0)) c.toNat) + 1)), some (.inl (c + 1))], [], M) _)
          refine ih4 ((sm (fun c => bi (andI (M 14 j 0 c) k ≠ 0)) c.toNat) + 1) (c + 1) (by omega) (by omega) (by omega) (by rw [sm_step q1]; exact acc0 (is1 h19))
      · refine seg_ok 1 (?_ : EvI X E_X1_chairsUnder (32, [some (.inr (.inr (some (1, j, 0)))), some (.inl k), some (.inl (sm (fun c => bi (andI (M 14 j 0 c) k ≠ 0)) c.toNat)), some (.inl c)], [.inl (sm (fun c => bi (andI (M 14 j 0 c) k ≠ 0)) c.toNat)], M) _)
        refine ev_rt (r := some (.inl (sm (fun c => bi (andI (M 14 j 0 c) k ≠ 0)) c.toNat))) rfl (?_)
        exact ⟨rint (by rw [show c = 600 by omega]; rfl), rfl⟩
  refine L4 ((600 - 0) + 1 : Int).toNat 0 0 (by omega) (by omega) (by omega) rfl
theorem d_hasTaken {M : NM} {j : Int} {k : Int} : HT X z_X1_hasTakenChairUnder [.inr (.inr (some (1, j, 0))), .inl k] M (fun rr MM => rr = some (.inl (bi (∃ c : Int, 0 ≤ c ∧ c < 600 ∧ andI (M 14 j 0 c) k ≠ 0 ∧ M 13 j 0 c ≠ 0))) ∧ MM = M) := by
  refine ht_of (e := E_X1_hasTakenChairUnder) rfl (?_ : EvI X E_X1_hasTakenChairUnder (0, [some (.inr (.inr (some (1, j, 0)))), some (.inl k), none], [], M) _)
  refine seg_ok 2 (?_ : EvI X E_X1_hasTakenChairUnder (2, [some (.inr (.inr (some (1, j, 0)))), some (.inl k), some (.inl 0)], [], M) _)
  have L2 : ∀ (m2 : Nat) (c : Int), 600 - c < (m2 : Int) → (0 ≤ c) → (c ≤ 600) → (∀ x, 0 ≤ x → x < c → ¬ (andI (M 14 j 0 x) k ≠ 0 ∧ M 13 j 0 x ≠ 0)) → EvI X E_X1_hasTakenChairUnder (2, [some (.inr (.inr (some (1, j, 0)))), some (.inl k), some (.inl c)], [], M) (fun rr MM => rr = some (.inl (bi (∃ c : Int, 0 ≤ c ∧ c < 600 ∧ andI (M 14 j 0 c) k ≠ 0 ∧ M 13 j 0 c ≠ 0))) ∧ MM = M) := by
    intro m2
    induction m2 with
    | zero => intro c hm2 q1 q2 q3; exact absurd hm2 (by omega)
    | succ m2 ih2 =>
      intro c hm2 q1 q2 q3
      refine seg_ok 3 (?_ : EvI X E_X1_hasTakenChairUnder (if c < 600 then 9 else 37, [some (.inr (.inr (some (1, j, 0)))), some (.inl k), some (.inl c)], [], M) _)
      refine ev_if (fun h6 => ?_) (fun h6 => ?_)
      · refine seg_ok 7 (⟨by omega, ?_⟩ : ((0 : Int) ≤ c ∧ c < 600) ∧ EvI X E_X1_hasTakenChairUnder (if (andI (M 14 j 0 c) k) = 0 then 31 else 20, [some (.inr (.inr (some (1, j, 0)))), some (.inl k), some (.inl c)], [], M) _)
        refine ev_if (fun h17 => ?_) (fun h17 => ?_)
        · refine seg_ok 2 (⟨by omega, ?_⟩ : ((-2147483648 : Int) ≤ (c + 1) ∧ (c + 1) < 2147483648) ∧ EvI X E_X1_hasTakenChairUnder (2, [some (.inr (.inr (some (1, j, 0)))), some (.inl k), some (.inl (c + 1))], [], M) _)
          refine ih2 (c + 1) (by omega) (by omega) (by omega) (fun x a b => by
              by_cases z : x = c
              · rw [z]; exact fun w => w.1 h17
              · exact q3 x a (by omega))
        · refine seg_ok 5 (⟨by omega, ?_⟩ : ((0 : Int) ≤ c ∧ c < 600) ∧ EvI X E_X1_hasTakenChairUnder (if (M 13 j 0 c) = 0 then 31 else 29, [some (.inr (.inr (some (1, j, 0)))), some (.inl k), some (.inl c)], [], M) _)
          refine ev_if (fun h26 => ?_) (fun h26 => ?_)
          · refine seg_ok 2 (⟨by omega, ?_⟩ : ((-2147483648 : Int) ≤ (c + 1) ∧ (c + 1) < 2147483648) ∧ EvI X E_X1_hasTakenChairUnder (2, [some (.inr (.inr (some (1, j, 0)))), some (.inl k), some (.inl (c + 1))], [], M) _)
            refine ih2 (c + 1) (by omega) (by omega) (by omega) (fun x a b => by
                by_cases z : x = c
                · rw [z]; exact fun w => w.2 h26
                · exact q3 x a (by omega))
          · refine seg_ok 1 (?_ : EvI X E_X1_hasTakenChairUnder (30, [some (.inr (.inr (some (1, j, 0)))), some (.inl k), some (.inl c)], [.inl 1], M) _)
            refine ev_rt (r := some (.inl 1)) rfl (⟨by decide, ?_⟩)
            exact ⟨rint (is1 ⟨c, q1, h6, h17, h26⟩), rfl⟩
      · refine seg_ok 1 (?_ : EvI X E_X1_hasTakenChairUnder (38, [some (.inr (.inr (some (1, j, 0)))), some (.inl k), some (.inl c)], [.inl 0], M) _)
        refine ev_rt (r := some (.inl 0)) rfl (⟨by decide, ?_⟩)
        exact ⟨rint (is0 (fun z => by obtain ⟨x, x1, x2, x3⟩ := z; exact q3 x x1 (by omega) x3)), rfl⟩
  refine L2 ((600 - 0) + 1 : Int).toNat 0 (by omega) (by omega) (by omega) (fun x a b => by omega)
set_option maxRecDepth 1890 in
theorem d_chairsThatAre {m : Int} {M : NM} {j : Int} (hI : Inv m (sl M j)) {w b : Int} (h1 : 0 ≤ b ∧ b < M 1 j 0 3) : HT X z_X1_chairsThatAre [.inr (.inr (some (1, j, 0))), .inl w, .inl b] M (fun rr MM => rr = some (.inl (ct (sl M j) b (fun c => M 13 j 0 c = w))) ∧ MM = M) := by
  have hi := hI.1
  simp only [Iv0, sl] at hi
  have hb := hI.2.1 b h1.1 h1.2
  simp only [sl] at hb
  refine ht_of (e := E_X1_chairsThatAre) rfl (?_ : EvI X E_X1_chairsThatAre (0, [some (.inr (.inr (some (1, j, 0)))), some (.inl w), some (.inl b), none, none, none, none, none], [], M) _)
  refine seg_ok 2 (?_ : EvI X E_X1_chairsThatAre (2, [some (.inr (.inr (some (1, j, 0)))), some (.inl w), some (.inl b), none, none, none, none, none], [.inl b, .inr (.inr (some (1, j, 0)))], M) _)
  refine ev_clp (v := .inr (.inr (some (0, j, b)))) (z := z_X1_blockAt) (as := [.inr (.inr (some (1, j, 0))), .inl b]) (rest := []) rfl (d_blockAt_t (by omega) (by omega)) (?_ : EvI X E_X1_chairsThatAre (5, [some (.inr (.inr (some (1, j, 0)))), some (.inl w), some (.inl b), none, none, none, none, none], [.inr (.inr (some (0, j, b)))], M) _)
  refine seg_ok 5 (?_ : EvI X E_X1_chairsThatAre (12, [some (.inr (.inr (some (1, j, 0)))), some (.inl w), some (.inl b), some (.inr (.inr (some (0, j, b)))), some (.inl 0), some (.inl 0), none, none], [], M) _)
  have L12 : ∀ (m12 : Nat) (n r : Int) (d12_6 d12_7 : Option U), M 0 j b 0 - r < (m12 : Int) → (0 ≤ r) → (r ≤ M 0 j b 0) → (n = sm (fun r => ctR (fun c => M 13 j 0 c = w) (100 * b + 10 * r) (M 0 j b 1).toNat) r.toNat) → EvI X E_X1_chairsThatAre (12, [some (.inr (.inr (some (1, j, 0)))), some (.inl w), some (.inl b), some (.inr (.inr (some (0, j, b)))), some (.inl n), some (.inl r), d12_6, d12_7], [], M) (fun rr MM => rr = some (.inl (ct (sl M j) b (fun c => M 13 j 0 c = w))) ∧ MM = M) := by
    intro m12
    induction m12 with
    | zero => intro n r d12_6 d12_7 hm12 q1 q2 q3; exact absurd hm12 (by omega)
    | succ m12 ih12 =>
      intro n r d12_6 d12_7 hm12 q1 q2 q3
      subst q3
      have g1 := ctS_bnd (fun c => M 13 j 0 c = w) b (C := (M 0 j b 1).toNat) (by omega) r.toNat
      refine seg_ok 6 (?_ : EvI X E_X1_chairsThatAre (if r < (M 0 j b 0) then 25 else 78, [some (.inr (.inr (some (1, j, 0)))), some (.inl w), some (.inl b), some (.inr (.inr (some (0, j, b)))), some (.inl (sm (fun r => ctR (fun c => M 13 j 0 c = w) (100 * b + 10 * r) (M 0 j b 1).toNat) r.toNat)), some (.inl r), d12_6, d12_7], [], M) _)
      refine ev_if (fun h22 => ?_) (fun h22 => ?_)
      · refine seg_ok 8 (⟨by omega, by omega, by omega, ?_⟩ : ((-2147483648 : Int) ≤ (b * 100) ∧ (b * 100) < 2147483648) ∧ ((-2147483648 : Int) ≤ (r * 10) ∧ (r * 10) < 2147483648) ∧ ((-2147483648 : Int) ≤ ((b * 100) + (r * 10)) ∧ ((b * 100) + (r * 10)) < 2147483648) ∧ EvI X E_X1_chairsThatAre (37, [some (.inr (.inr (some (1, j, 0)))), some (.inl w), some (.inl b), some (.inr (.inr (some (0, j, b)))), some (.inl (sm (fun r => ctR (fun c => M 13 j 0 c = w) (100 * b + 10 * r) (M 0 j b 1).toNat) r.toNat)), some (.inl r), some (.inl ((b * 100) + (r * 10))), d12_7], [], M) _)
        rw [show (b * 100) + (r * 10) = (100 * b + 10 * r) by omega]
        refine seg_ok 2 (?_ : EvI X E_X1_chairsThatAre (40, [some (.inr (.inr (some (1, j, 0)))), some (.inl w), some (.inl b), some (.inr (.inr (some (0, j, b)))), some (.inl (sm (fun r => ctR (fun c => M 13 j 0 c = w) (100 * b + 10 * r) (M 0 j b 1).toNat) r.toNat)), some (.inl r), some (.inl (100 * b + 10 * r)), some (.inl 0)], [], M) _)
        have L40 : ∀ (m40 : Nat) (n2 c : Int), M 0 j b 1 - c < (m40 : Int) → (0 ≤ c) → (c ≤ M 0 j b 1) → (n2 = sm (fun r => ctR (fun c => M 13 j 0 c = w) (100 * b + 10 * r) (M 0 j b 1).toNat) r.toNat + sm (fun c => bi ((fun c => M 13 j 0 c = w) (100 * b + 10 * r + c))) c.toNat) → EvI X E_X1_chairsThatAre (40, [some (.inr (.inr (some (1, j, 0)))), some (.inl w), some (.inl b), some (.inr (.inr (some (0, j, b)))), some (.inl n2), some (.inl r), some (.inl (100 * b + 10 * r)), some (.inl c)], [], M) (fun rr MM => rr = some (.inl (ct (sl M j) b (fun c => M 13 j 0 c = w))) ∧ MM = M) := by
          intro m40
          induction m40 with
          | zero => intro n2 c hm40 p1 p2 p3; exact absurd hm40 (by omega)
          | succ m40 ih40 =>
            intro n2 c hm40 p1 p2 p3
            subst p3
            have g2 := smb_bnd (fun c => (fun c => M 13 j 0 c = w) (100 * b + 10 * r + c)) c.toNat
            refine seg_ok 4 (?_ : EvI X E_X1_chairsThatAre (if c < (M 0 j b 1) then 49 else 72, [some (.inr (.inr (some (1, j, 0)))), some (.inl w), some (.inl b), some (.inr (.inr (some (0, j, b)))), some (.inl (sm (fun r => ctR (fun c => M 13 j 0 c = w) (100 * b + 10 * r) (M 0 j b 1).toNat) r.toNat + sm (fun c => bi ((fun c => M 13 j 0 c = w) (100 * b + 10 * r + c))) c.toNat)), some (.inl r), some (.inl (100 * b + 10 * r)), some (.inl c)], [], M) _)
            refine ev_if (fun h46 => ?_) (fun h46 => ?_)
            · refine seg_ok 8 (⟨by omega, by omega, ?_⟩ : ((-2147483648 : Int) ≤ ((100 * b + 10 * r) + c) ∧ ((100 * b + 10 * r) + c) < 2147483648) ∧ ((0 : Int) ≤ ((100 * b + 10 * r) + c) ∧ ((100 * b + 10 * r) + c) < 600) ∧ EvI X E_X1_chairsThatAre (if (M 13 j 0 ((100 * b + 10 * r) + c)) = w then 63 else 66, [some (.inr (.inr (some (1, j, 0)))), some (.inl w), some (.inl b), some (.inr (.inr (some (0, j, b)))), some (.inl (sm (fun r => ctR (fun c => M 13 j 0 c = w) (100 * b + 10 * r) (M 0 j b 1).toNat) r.toNat + sm (fun c => bi ((fun c => M 13 j 0 c = w) (100 * b + 10 * r + c))) c.toNat)), some (.inl r), some (.inl (100 * b + 10 * r)), some (.inl c)], [], M) _)
              refine ev_if (fun h60 => ?_) (fun h60 => ?_)
              · refine seg_ok 3 (⟨by omega, by omega, ?_⟩ : ((-2147483648 : Int) ≤ ((sm (fun r => ctR (fun c => M 13 j 0 c = w) (100 * b + 10 * r) (M 0 j b 1).toNat) r.toNat + sm (fun c => bi ((fun c => M 13 j 0 c = w) (100 * b + 10 * r + c))) c.toNat) + 1) ∧ ((sm (fun r => ctR (fun c => M 13 j 0 c = w) (100 * b + 10 * r) (M 0 j b 1).toNat) r.toNat + sm (fun c => bi ((fun c => M 13 j 0 c = w) (100 * b + 10 * r + c))) c.toNat) + 1) < 2147483648) ∧ ((-2147483648 : Int) ≤ (c + 1) ∧ (c + 1) < 2147483648) ∧ EvI X E_X1_chairsThatAre (40, [some (.inr (.inr (some (1, j, 0)))), some (.inl w), some (.inl b), some (.inr (.inr (some (0, j, b)))), some (.inl ((sm (fun r => ctR (fun c => M 13 j 0 c = w) (100 * b + 10 * r) (M 0 j b 1).toNat) r.toNat + sm (fun c => bi ((fun c => M 13 j 0 c = w) (100 * b + 10 * r + c))) c.toNat) + 1)), some (.inl r), some (.inl (100 * b + 10 * r)), some (.inl (c + 1))], [], M) _)
                refine ih40 ((sm (fun r => ctR (fun c => M 13 j 0 c = w) (100 * b + 10 * r) (M 0 j b 1).toNat) r.toNat + sm (fun c => bi ((fun c => M 13 j 0 c = w) (100 * b + 10 * r + c))) c.toNat) + 1) (c + 1) (by omega) (by omega) (by omega) (by rw [sm_step p1]; exact acc (is1 h60))
              · refine seg_ok 2 (⟨by omega, ?_⟩ : ((-2147483648 : Int) ≤ (c + 1) ∧ (c + 1) < 2147483648) ∧ EvI X E_X1_chairsThatAre (40, [some (.inr (.inr (some (1, j, 0)))), some (.inl w), some (.inl b), some (.inr (.inr (some (0, j, b)))), some (.inl (sm (fun r => ctR (fun c => M 13 j 0 c = w) (100 * b + 10 * r) (M 0 j b 1).toNat) r.toNat + sm (fun c => bi ((fun c => M 13 j 0 c = w) (100 * b + 10 * r + c))) c.toNat)), some (.inl r), some (.inl (100 * b + 10 * r)), some (.inl (c + 1))], [], M) _)
                refine ih40 (sm (fun r => ctR (fun c => M 13 j 0 c = w) (100 * b + 10 * r) (M 0 j b 1).toNat) r.toNat + sm (fun c => bi ((fun c => M 13 j 0 c = w) (100 * b + 10 * r + c))) c.toNat) (c + 1) (by omega) (by omega) (by omega) (by rw [sm_step p1, bi_f h60, Int.add_zero])
            · refine seg_ok 2 (⟨by omega, ?_⟩ : ((-2147483648 : Int) ≤ (r + 1) ∧ (r + 1) < 2147483648) ∧ EvI X E_X1_chairsThatAre (12, [some (.inr (.inr (some (1, j, 0)))), some (.inl w), some (.inl b), some (.inr (.inr (some (0, j, b)))), some (.inl (sm (fun r => ctR (fun c => M 13 j 0 c = w) (100 * b + 10 * r) (M 0 j b 1).toNat) r.toNat + sm (fun c => bi ((fun c => M 13 j 0 c = w) (100 * b + 10 * r + c))) c.toNat)), some (.inl (r + 1)), some (.inl (100 * b + 10 * r)), some (.inl c)], [], M) _)
              refine ih12 (sm (fun r => ctR (fun c => M 13 j 0 c = w) (100 * b + 10 * r) (M 0 j b 1).toNat) r.toNat + sm (fun c => bi ((fun c => M 13 j 0 c = w) (100 * b + 10 * r + c))) c.toNat) (r + 1) (some (.inl (100 * b + 10 * r))) (some (.inl c)) (by omega) (by omega) (by omega) (by rw [sm_step q1, show c = M 0 j b 1 by omega]; rfl)
        refine L40 ((M 0 j b 1 - 0) + 1 : Int).toNat (sm (fun r => ctR (fun c => M 13 j 0 c = w) (100 * b + 10 * r) (M 0 j b 1).toNat) r.toNat) 0 (by omega) (by omega) (by omega) (Int.add_zero _).symm
      · refine seg_ok 1 (?_ : EvI X E_X1_chairsThatAre (80, [some (.inr (.inr (some (1, j, 0)))), some (.inl w), some (.inl b), some (.inr (.inr (some (0, j, b)))), some (.inl (sm (fun r => ctR (fun c => M 13 j 0 c = w) (100 * b + 10 * r) (M 0 j b 1).toNat) r.toNat)), some (.inl r), d12_6, d12_7], [.inl (sm (fun r => ctR (fun c => M 13 j 0 c = w) (100 * b + 10 * r) (M 0 j b 1).toNat) r.toNat)], M) _)
        refine ev_rt (r := some (.inl (sm (fun r => ctR (fun c => M 13 j 0 c = w) (100 * b + 10 * r) (M 0 j b 1).toNat) r.toNat))) rfl (?_)
        exact ⟨rint (by rw [show r = M 0 j b 0 by omega]; rfl), rfl⟩
  refine L12 ((M 0 j b 0 - 0) + 1 : Int).toNat 0 0 none none (by omega) (by omega) (by omega) rfl
set_option maxRecDepth 1890 in
theorem d_usableInRow {m : Int} {M : NM} {j : Int} (hI : Inv m (sl M j)) {b r : Int} (h1 : 0 ≤ b ∧ b < M 1 j 0 3) (h2 : 0 ≤ r ∧ r < M 0 j b 0) : HT X z_X1_usableInRow [.inr (.inr (some (1, j, 0))), .inr (.inr (some (0, j, b))), .inl b, .inl r] M (fun rr MM => rr = some (.inl ((mkN (opn (sl M j) (100 * b + 10 * r)) (M 0 j b 1).toNat : Nat))) ∧ MM = M) := by
  have hi := hI.1
  simp only [Iv0, sl] at hi
  have hb := hI.2.1 b h1.1 h1.2
  simp only [sl] at hb
  refine ht_of (e := E_X1_usableInRow) rfl (?_ : EvI X E_X1_usableInRow (0, [some (.inr (.inr (some (1, j, 0)))), some (.inr (.inr (some (0, j, b)))), some (.inl b), some (.inl r), none, none, none], [], M) _)
  refine seg_ok 10 (⟨by omega, by omega, by omega, ?_⟩ : ((-2147483648 : Int) ≤ (b * 100) ∧ (b * 100) < 2147483648) ∧ ((-2147483648 : Int) ≤ (r * 10) ∧ (r * 10) < 2147483648) ∧ ((-2147483648 : Int) ≤ ((b * 100) + (r * 10)) ∧ ((b * 100) + (r * 10)) < 2147483648) ∧ EvI X E_X1_usableInRow (14, [some (.inr (.inr (some (1, j, 0)))), some (.inr (.inr (some (0, j, b)))), some (.inl b), some (.inl r), some (.inl ((b * 100) + (r * 10))), some (.inl 0), none], [], M) _)
  rw [show (b * 100) + (r * 10) = (100 * b + 10 * r) by omega]
  refine seg_ok 2 (?_ : EvI X E_X1_usableInRow (17, [some (.inr (.inr (some (1, j, 0)))), some (.inr (.inr (some (0, j, b)))), some (.inl b), some (.inl r), some (.inl (100 * b + 10 * r)), some (.inl 0), some (.inl 0)], [], M) _)
  have L17 : ∀ (m17 : Nat) (u c : Int), M 0 j b 1 - c < (m17 : Int) → (0 ≤ c) → (c ≤ M 0 j b 1) → (u = (mkN (opn (sl M j) (100 * b + 10 * r)) c.toNat : Nat)) → EvI X E_X1_usableInRow (17, [some (.inr (.inr (some (1, j, 0)))), some (.inr (.inr (some (0, j, b)))), some (.inl b), some (.inl r), some (.inl (100 * b + 10 * r)), some (.inl u), some (.inl c)], [], M) (fun rr MM => rr = some (.inl ((mkN (opn (sl M j) (100 * b + 10 * r)) (M 0 j b 1).toNat : Nat))) ∧ MM = M) := by
    intro m17
    induction m17 with
    | zero => intro u c hm17 q1 q2 q3; exact absurd hm17 (by omega)
    | succ m17 ih17 =>
      intro u c hm17 q1 q2 q3
      refine seg_ok 4 (?_ : EvI X E_X1_usableInRow (if c < (M 0 j b 1) then 26 else 72, [some (.inr (.inr (some (1, j, 0)))), some (.inr (.inr (some (0, j, b)))), some (.inl b), some (.inl r), some (.inl (100 * b + 10 * r)), some (.inl u), some (.inl c)], [], M) _)
      refine ev_if (fun h23 => ?_) (fun h23 => ?_)
      · refine seg_ok 7 (⟨by omega, by omega, ?_⟩ : ((-2147483648 : Int) ≤ ((100 * b + 10 * r) + c) ∧ ((100 * b + 10 * r) + c) < 2147483648) ∧ ((0 : Int) ≤ ((100 * b + 10 * r) + c) ∧ ((100 * b + 10 * r) + c) < 600) ∧ EvI X E_X1_usableInRow (if (M 13 j 0 ((100 * b + 10 * r) + c)) = 0 then 39 else 66, [some (.inr (.inr (some (1, j, 0)))), some (.inr (.inr (some (0, j, b)))), some (.inl b), some (.inl r), some (.inl (100 * b + 10 * r)), some (.inl u), some (.inl c)], [], M) _)
        refine ev_if (fun h36 => ?_) (fun h36 => ?_)
        · refine seg_ok 10 (⟨by omega, by omega, ?_⟩ : ((-2147483648 : Int) ≤ ((100 * b + 10 * r) + c) ∧ ((100 * b + 10 * r) + c) < 2147483648) ∧ ((0 : Int) ≤ ((100 * b + 10 * r) + c) ∧ ((100 * b + 10 * r) + c) < 600) ∧ EvI X E_X1_usableInRow (if (andI (M 14 j 0 ((100 * b + 10 * r) + c)) (M 1 j 0 5)) = 0 then 57 else 66, [some (.inr (.inr (some (1, j, 0)))), some (.inr (.inr (some (0, j, b)))), some (.inl b), some (.inl r), some (.inl (100 * b + 10 * r)), some (.inl u), some (.inl c)], [], M) _)
          refine ev_if (fun h54 => ?_) (fun h54 => ?_)
          · refine seg_ok 8 (⟨by omega, ?_⟩ : ((-2147483648 : Int) ≤ (c + 1) ∧ (c + 1) < 2147483648) ∧ EvI X E_X1_usableInRow (17, [some (.inr (.inr (some (1, j, 0)))), some (.inr (.inr (some (0, j, b)))), some (.inl b), some (.inl r), some (.inl (100 * b + 10 * r)), some (.inl (orI u (shlI 1 c))), some (.inl (c + 1))], [], M) _)
            refine ih17 (orI u (shlI 1 c)) (c + 1) (by omega) (by omega) (by omega) (by rw [q3]; exact mkN_t q1 (by omega) ⟨by omega, isCh_mk h1.1 h1.2 h2.1 h2.2 (by omega) q1 h23 (by omega), h36, fun z => z h54⟩)
          · refine seg_ok 2 (⟨by omega, ?_⟩ : ((-2147483648 : Int) ≤ (c + 1) ∧ (c + 1) < 2147483648) ∧ EvI X E_X1_usableInRow (17, [some (.inr (.inr (some (1, j, 0)))), some (.inr (.inr (some (0, j, b)))), some (.inl b), some (.inl r), some (.inl (100 * b + 10 * r)), some (.inl u), some (.inl (c + 1))], [], M) _)
            refine ih17 u (c + 1) (by omega) (by omega) (by omega) (by rw [q3, mkN_f q1 (fun z => z.2.2.2 h54)])
        · refine seg_ok 2 (⟨by omega, ?_⟩ : ((-2147483648 : Int) ≤ (c + 1) ∧ (c + 1) < 2147483648) ∧ EvI X E_X1_usableInRow (17, [some (.inr (.inr (some (1, j, 0)))), some (.inr (.inr (some (0, j, b)))), some (.inl b), some (.inl r), some (.inl (100 * b + 10 * r)), some (.inl u), some (.inl (c + 1))], [], M) _)
          refine ih17 u (c + 1) (by omega) (by omega) (by omega) (by rw [q3, mkN_f q1 (fun z => h36 z.2.2.1)])
      · refine seg_ok 1 (?_ : EvI X E_X1_usableInRow (74, [some (.inr (.inr (some (1, j, 0)))), some (.inr (.inr (some (0, j, b)))), some (.inl b), some (.inl r), some (.inl (100 * b + 10 * r)), some (.inl u), some (.inl c)], [.inl u], M) _)
        refine ev_rt (r := some (.inl u)) rfl (?_)
        exact ⟨rint (by rw [q3, show c = M 0 j b 1 by omega]), rfl⟩
  refine L17 ((M 0 j b 1 - 0) + 1 : Int).toNat 0 0 (by omega) (by omega) (by omega) rfl
theorem sml_i {x : Int} (h : sml x = true) : (-2147483648 : Int) ≤ x ∧ x < 2147483648 := by
  unfold sml at h
  simp only [Bool.and_eq_true, decide_eq_true_eq] at h
  omega
set_option maxRecDepth 1860 in
theorem d_bitCount {M : NM} {n : Nat} (h : n < 1024) : HT X z_J6_bitCount_0f7a4 [.inl (n : Int)] M (fun rr MM => rr = some (.inl ((pop10 n : Nat))) ∧ MM = M) := by
  have fb := fin_bc n h
  simp only [Bool.and_eq_true, decide_eq_true_eq] at fb
  obtain ⟨⟨⟨⟨⟨f1, f2⟩, f3⟩, f4⟩, f5⟩, f6⟩ := fb
  refine ht_of (e := E_J6_bitCount_0f7a4) rfl (?_ : EvI X E_J6_bitCount_0f7a4 (0, [some (.inl (n : Int))], [], M) _)
  refine seg_ok 8 (⟨sml_i f1, ?_⟩ : ((-2147483648 : Int) ≤ ((n : Int) - (andI (ushI (n : Int) 1) 1431655765)) ∧ ((n : Int) - (andI (ushI (n : Int) 1) 1431655765)) < 2147483648) ∧ EvI X E_J6_bitCount_0f7a4 (10, [some (.inl ((n : Int) - (andI (ushI (n : Int) 1) 1431655765)))], [], M) _)
  show EvI X E_J6_bitCount_0f7a4 (10, [some (.inl (bc1 (n : Int)))], [], M) _
  refine seg_ok 10 (⟨sml_i f2, ?_⟩ : ((-2147483648 : Int) ≤ ((andI (bc1 (n : Int)) 858993459) + (andI (ushI (bc1 (n : Int)) 2) 858993459)) ∧ ((andI (bc1 (n : Int)) 858993459) + (andI (ushI (bc1 (n : Int)) 2) 858993459)) < 2147483648) ∧ EvI X E_J6_bitCount_0f7a4 (24, [some (.inl ((andI (bc1 (n : Int)) 858993459) + (andI (ushI (bc1 (n : Int)) 2) 858993459)))], [], M) _)
  show EvI X E_J6_bitCount_0f7a4 (24, [some (.inl (bc2 (bc1 (n : Int))))], [], M) _
  refine seg_ok 8 (⟨sml_i f3, ?_⟩ : ((-2147483648 : Int) ≤ ((bc2 (bc1 (n : Int))) + (ushI (bc2 (bc1 (n : Int))) 4)) ∧ ((bc2 (bc1 (n : Int))) + (ushI (bc2 (bc1 (n : Int))) 4)) < 2147483648) ∧ EvI X E_J6_bitCount_0f7a4 (34, [some (.inl (andI ((bc2 (bc1 (n : Int))) + (ushI (bc2 (bc1 (n : Int))) 4)) 252645135))], [], M) _)
  show EvI X E_J6_bitCount_0f7a4 (34, [some (.inl (bc3 (bc2 (bc1 (n : Int)))))], [], M) _
  refine seg_ok 6 (⟨sml_i f4, ?_⟩ : ((-2147483648 : Int) ≤ ((bc3 (bc2 (bc1 (n : Int)))) + (ushI (bc3 (bc2 (bc1 (n : Int)))) 8)) ∧ ((bc3 (bc2 (bc1 (n : Int)))) + (ushI (bc3 (bc2 (bc1 (n : Int)))) 8)) < 2147483648) ∧ EvI X E_J6_bitCount_0f7a4 (41, [some (.inl ((bc3 (bc2 (bc1 (n : Int)))) + (ushI (bc3 (bc2 (bc1 (n : Int)))) 8)))], [], M) _)
  show EvI X E_J6_bitCount_0f7a4 (41, [some (.inl (bc4 (bc3 (bc2 (bc1 (n : Int))))))], [], M) _
  refine seg_ok 6 (⟨sml_i f5, ?_⟩ : ((-2147483648 : Int) ≤ ((bc4 (bc3 (bc2 (bc1 (n : Int))))) + (ushI (bc4 (bc3 (bc2 (bc1 (n : Int))))) 16)) ∧ ((bc4 (bc3 (bc2 (bc1 (n : Int))))) + (ushI (bc4 (bc3 (bc2 (bc1 (n : Int))))) 16)) < 2147483648) ∧ EvI X E_J6_bitCount_0f7a4 (48, [some (.inl ((bc4 (bc3 (bc2 (bc1 (n : Int))))) + (ushI (bc4 (bc3 (bc2 (bc1 (n : Int))))) 16)))], [], M) _)
  show EvI X E_J6_bitCount_0f7a4 (48, [some (.inl (bc5 (bc4 (bc3 (bc2 (bc1 (n : Int)))))))], [], M) _
  refine seg_ok 3 (?_ : EvI X E_J6_bitCount_0f7a4 (52, [some (.inl (bc5 (bc4 (bc3 (bc2 (bc1 (n : Int)))))))], [.inl (andI (bc5 (bc4 (bc3 (bc2 (bc1 (n : Int)))))) 63)], M) _)
  refine ev_rt (r := some (.inl (andI (bc5 (bc4 (bc3 (bc2 (bc1 (n : Int)))))) 63))) rfl (?_)
  exact ⟨rint f6, rfl⟩
theorem d_usableIn {m : Int} {M : NM} {j : Int} (hI : Inv m (sl M j)) {b : Int} (h1 : 0 ≤ b ∧ b < M 1 j 0 3) : HT X z_X1_usableIn [.inr (.inr (some (1, j, 0))), .inl b] M (fun rr MM => rr = some (.inl (ct (sl M j) b (fr (sl M j)))) ∧ MM = M) := by
  have hi := hI.1
  simp only [Iv0, sl] at hi
  have hb := hI.2.1 b h1.1 h1.2
  simp only [sl] at hb
  refine ht_of (e := E_X1_usableIn) rfl (?_ : EvI X E_X1_usableIn (0, [some (.inr (.inr (some (1, j, 0)))), some (.inl b), none, none, none], [], M) _)
  refine seg_ok 2 (?_ : EvI X E_X1_usableIn (2, [some (.inr (.inr (some (1, j, 0)))), some (.inl b), none, none, none], [.inl b, .inr (.inr (some (1, j, 0)))], M) _)
  refine ev_clp (v := .inr (.inr (some (0, j, b)))) (z := z_X1_blockAt) (as := [.inr (.inr (some (1, j, 0))), .inl b]) (rest := []) rfl (d_blockAt_t (by omega) (by omega)) (?_ : EvI X E_X1_usableIn (5, [some (.inr (.inr (some (1, j, 0)))), some (.inl b), none, none, none], [.inr (.inr (some (0, j, b)))], M) _)
  refine seg_ok 5 (?_ : EvI X E_X1_usableIn (11, [some (.inr (.inr (some (1, j, 0)))), some (.inl b), some (.inr (.inr (some (0, j, b)))), some (.inl 0), some (.inl 0)], [], M) _)
  have L11 : ∀ (m11 : Nat) (n r : Int), M 0 j b 0 - r < (m11 : Int) → (0 ≤ r) → (r ≤ M 0 j b 0) → (n = sm (fun r => ctR (fr (sl M j)) (100 * b + 10 * r) (M 0 j b 1).toNat) r.toNat) → EvI X E_X1_usableIn (11, [some (.inr (.inr (some (1, j, 0)))), some (.inl b), some (.inr (.inr (some (0, j, b)))), some (.inl n), some (.inl r)], [], M) (fun rr MM => rr = some (.inl (ct (sl M j) b (fr (sl M j)))) ∧ MM = M) := by
    intro m11
    induction m11 with
    | zero => intro n r hm11 q1 q2 q3; exact absurd hm11 (by omega)
    | succ m11 ih11 =>
      intro n r hm11 q1 q2 q3
      subst q3
      have g1 := ctS_bnd (fr (sl M j)) b (C := (M 0 j b 1).toNat) (by omega) r.toNat
      have g2 := pop_mk (opn (sl M j) (100 * b + 10 * r)) (C := (M 0 j b 1).toNat) (by omega)
      rw [ctR_opn (by omega)] at g2
      have g3 := ctR_bnd (fr (sl M j)) (100 * b + 10 * r) (M 0 j b 1).toNat
      refine seg_ok 6 (?_ : EvI X E_X1_usableIn (if r < (M 0 j b 0) then 24 else 44, [some (.inr (.inr (some (1, j, 0)))), some (.inl b), some (.inr (.inr (some (0, j, b)))), some (.inl (sm (fun r => ctR (fr (sl M j)) (100 * b + 10 * r) (M 0 j b 1).toNat) r.toNat)), some (.inl r)], [], M) _)
      refine ev_if (fun h21 => ?_) (fun h21 => ?_)
      · refine seg_ok 5 (?_ : EvI X E_X1_usableIn (30, [some (.inr (.inr (some (1, j, 0)))), some (.inl b), some (.inr (.inr (some (0, j, b)))), some (.inl (sm (fun r => ctR (fr (sl M j)) (100 * b + 10 * r) (M 0 j b 1).toNat) r.toNat)), some (.inl r)], [.inl r, .inl b, .inr (.inr (some (0, j, b))), .inr (.inr (some (1, j, 0))), .inl (sm (fun r => ctR (fr (sl M j)) (100 * b + 10 * r) (M 0 j b 1).toNat) r.toNat)], M) _)
        refine ev_clp (v := .inl ((mkN (opn (sl M j) (100 * b + 10 * r)) (M 0 j b 1).toNat : Nat))) (z := z_X1_usableInRow) (as := [.inr (.inr (some (1, j, 0))), .inr (.inr (some (0, j, b))), .inl b, .inl r]) (rest := [.inl (sm (fun r => ctR (fr (sl M j)) (100 * b + 10 * r) (M 0 j b 1).toNat) r.toNat)]) rfl (d_usableInRow hI (by omega) (by omega)) (?_ : EvI X E_X1_usableIn (33, [some (.inr (.inr (some (1, j, 0)))), some (.inl b), some (.inr (.inr (some (0, j, b)))), some (.inl (sm (fun r => ctR (fr (sl M j)) (100 * b + 10 * r) (M 0 j b 1).toNat) r.toNat)), some (.inl r)], [.inl ((mkN (opn (sl M j) (100 * b + 10 * r)) (M 0 j b 1).toNat : Nat)), .inl (sm (fun r => ctR (fr (sl M j)) (100 * b + 10 * r) (M 0 j b 1).toNat) r.toNat)], M) _)
        refine ev_clp (v := .inl ((pop10 (mkN (opn (sl M j) (100 * b + 10 * r)) (M 0 j b 1).toNat) : Nat) : Int)) (z := z_J6_bitCount_0f7a4) (as := [.inl ((mkN (opn (sl M j) (100 * b + 10 * r)) (M 0 j b 1).toNat : Nat))]) (rest := [.inl (sm (fun r => ctR (fr (sl M j)) (100 * b + 10 * r) (M 0 j b 1).toNat) r.toNat)]) rfl (d_bitCount (mkN_1024 _ (by omega))) (?_ : EvI X E_X1_usableIn (36, [some (.inr (.inr (some (1, j, 0)))), some (.inl b), some (.inr (.inr (some (0, j, b)))), some (.inl (sm (fun r => ctR (fr (sl M j)) (100 * b + 10 * r) (M 0 j b 1).toNat) r.toNat)), some (.inl r)], [.inl ((pop10 (mkN (opn (sl M j) (100 * b + 10 * r)) (M 0 j b 1).toNat) : Nat) : Int), .inl (sm (fun r => ctR (fr (sl M j)) (100 * b + 10 * r) (M 0 j b 1).toNat) r.toNat)], M) _)
        refine seg_ok 4 (⟨by omega, by omega, ?_⟩ : ((-2147483648 : Int) ≤ ((sm (fun r => ctR (fr (sl M j)) (100 * b + 10 * r) (M 0 j b 1).toNat) r.toNat) + ((pop10 (mkN (opn (sl M j) (100 * b + 10 * r)) (M 0 j b 1).toNat) : Nat) : Int)) ∧ ((sm (fun r => ctR (fr (sl M j)) (100 * b + 10 * r) (M 0 j b 1).toNat) r.toNat) + ((pop10 (mkN (opn (sl M j) (100 * b + 10 * r)) (M 0 j b 1).toNat) : Nat) : Int)) < 2147483648) ∧ ((-2147483648 : Int) ≤ (r + 1) ∧ (r + 1) < 2147483648) ∧ EvI X E_X1_usableIn (11, [some (.inr (.inr (some (1, j, 0)))), some (.inl b), some (.inr (.inr (some (0, j, b)))), some (.inl ((sm (fun r => ctR (fr (sl M j)) (100 * b + 10 * r) (M 0 j b 1).toNat) r.toNat) + ((pop10 (mkN (opn (sl M j) (100 * b + 10 * r)) (M 0 j b 1).toNat) : Nat) : Int))), some (.inl (r + 1))], [], M) _)
        refine ih11 ((sm (fun r => ctR (fr (sl M j)) (100 * b + 10 * r) (M 0 j b 1).toNat) r.toNat) + ((pop10 (mkN (opn (sl M j) (100 * b + 10 * r)) (M 0 j b 1).toNat) : Nat) : Int)) (r + 1) (by omega) (by omega) (by omega) (by rw [sm_step q1, g2])
      · refine seg_ok 1 (?_ : EvI X E_X1_usableIn (45, [some (.inr (.inr (some (1, j, 0)))), some (.inl b), some (.inr (.inr (some (0, j, b)))), some (.inl (sm (fun r => ctR (fr (sl M j)) (100 * b + 10 * r) (M 0 j b 1).toNat) r.toNat)), some (.inl r)], [.inl (sm (fun r => ctR (fr (sl M j)) (100 * b + 10 * r) (M 0 j b 1).toNat) r.toNat)], M) _)
        refine ev_rt (r := some (.inl (sm (fun r => ctR (fr (sl M j)) (100 * b + 10 * r) (M 0 j b 1).toNat) r.toNat))) rfl (?_)
        exact ⟨rint (by rw [show r = M 0 j b 0 by omega]; rfl), rfl⟩
  refine L11 ((M 0 j b 0 - 0) + 1 : Int).toNat 0 0 (by omega) (by omega) (by omega) rfl
theorem d_hasRoom {M : NM} {u f n : Int} (hn : 1 ≤ n ∧ n ≤ 10) : HT X z_X1_hasRoom [.inl u, .inl f, .inl n] M (fun rr MM => rr = some (.inl (bi (andI (shrI u f) (shlI 1 n - 1) = shlI 1 n - 1))) ∧ MM = M) := by
  have k := shl1_r (n := n) (by omega)
  refine ht_of (e := E_X1_hasRoom) rfl (?_ : EvI X E_X1_hasRoom (0, [some (.inl u), some (.inl f), some (.inl n), none], [], M) _)
  refine seg_ok 13 (⟨by omega, ?_⟩ : ((-2147483648 : Int) ≤ ((shlI 1 n) - 1) ∧ ((shlI 1 n) - 1) < 2147483648) ∧ EvI X E_X1_hasRoom (if (andI (shrI u f) ((shlI 1 n) - 1)) = ((shlI 1 n) - 1) then 15 else 19, [some (.inl u), some (.inl f), some (.inl n), some (.inl ((shlI 1 n) - 1))], [], M) _)
  refine ev_if (fun h12 => ?_) (fun h12 => ?_)
  · refine seg_ok 2 (?_ : EvI X E_X1_hasRoom (20, [some (.inl u), some (.inl f), some (.inl n), some (.inl ((shlI 1 n) - 1))], [.inl 1], M) _)
    refine ev_rt (r := some (.inl 1)) rfl (⟨by decide, ?_⟩)
    exact ⟨rint (is1 (h12)), rfl⟩
  · refine seg_ok 1 (?_ : EvI X E_X1_hasRoom (20, [some (.inl u), some (.inl f), some (.inl n), some (.inl ((shlI 1 n) - 1))], [.inl 0], M) _)
    refine ev_rt (r := some (.inl 0)) rfl (⟨by decide, ?_⟩)
    exact ⟨rint (is0 (h12)), rfl⟩
theorem d_leftAlone {M : NM} {u f n : Int} (hn : 0 ≤ n ∧ n ≤ 100) (hf : 0 ≤ f ∧ f ≤ 100) : HT X z_X1_leftAlone [.inl u, .inl f, .inl n] M (fun rr MM => rr = some (.inl (bi (andI (shrI (shlI u 2) f) 3 = 2) + bi (andI (shrI u (f + n)) 3 = 1))) ∧ MM = M) := by
  refine ht_of (e := E_X1_leftAlone) rfl (?_ : EvI X E_X1_leftAlone (0, [some (.inl u), some (.inl f), some (.inl n), none, none, none], [], M) _)
  refine seg_ok 19 (⟨by omega, ?_⟩ : ((-2147483648 : Int) ≤ (f + n) ∧ (f + n) < 2147483648) ∧ EvI X E_X1_leftAlone (if (andI (shrI (shlI u 2) f) 3) = 2 then 22 else 26, [some (.inl u), some (.inl f), some (.inl n), some (.inl (andI (shrI (shlI u 2) f) 3)), some (.inl (andI (shrI u (f + n)) 3)), none], [], M) _)
  refine ev_if (fun h19 => ?_) (fun h19 => ?_)
  · refine seg_ok 6 (?_ : EvI X E_X1_leftAlone (if (andI (shrI u (f + n)) 3) = 1 then 35 else 42, [some (.inl u), some (.inl f), some (.inl n), some (.inl (andI (shrI (shlI u 2) f) 3)), some (.inl (andI (shrI u (f + n)) 3)), some (.inl 1)], [], M) _)
    refine ev_if (fun h32 => ?_) (fun h32 => ?_)
    · refine seg_ok 4 (⟨by omega, ?_⟩ : ((-2147483648 : Int) ≤ 2 ∧ (2 : Int) < 2147483648) ∧ EvI X E_X1_leftAlone (44, [some (.inl u), some (.inl f), some (.inl n), some (.inl (andI (shrI (shlI u 2) f) 3)), some (.inl (andI (shrI u (f + n)) 3)), some (.inl 1)], [.inl 2], M) _)
      refine ev_rt (r := some (.inl 2)) rfl (?_)
      exact ⟨rint (by rw [bi_t h19, bi_t h32]; rfl), rfl⟩
    · refine seg_ok 1 (?_ : EvI X E_X1_leftAlone (44, [some (.inl u), some (.inl f), some (.inl n), some (.inl (andI (shrI (shlI u 2) f) 3)), some (.inl (andI (shrI u (f + n)) 3)), some (.inl 1)], [.inl 1], M) _)
      refine ev_rt (r := some (.inl 1)) rfl (?_)
      exact ⟨rint (by rw [bi_t h19, bi_f h32]; rfl), rfl⟩
  · refine seg_ok 5 (?_ : EvI X E_X1_leftAlone (if (andI (shrI u (f + n)) 3) = 1 then 35 else 42, [some (.inl u), some (.inl f), some (.inl n), some (.inl (andI (shrI (shlI u 2) f) 3)), some (.inl (andI (shrI u (f + n)) 3)), some (.inl 0)], [], M) _)
    refine ev_if (fun h32 => ?_) (fun h32 => ?_)
    · refine seg_ok 4 (⟨by omega, ?_⟩ : ((-2147483648 : Int) ≤ 1 ∧ (1 : Int) < 2147483648) ∧ EvI X E_X1_leftAlone (44, [some (.inl u), some (.inl f), some (.inl n), some (.inl (andI (shrI (shlI u 2) f) 3)), some (.inl (andI (shrI u (f + n)) 3)), some (.inl 0)], [.inl 1], M) _)
      refine ev_rt (r := some (.inl 1)) rfl (?_)
      exact ⟨rint (by rw [bi_f h19, bi_t h32]; rfl), rfl⟩
    · refine seg_ok 1 (?_ : EvI X E_X1_leftAlone (44, [some (.inl u), some (.inl f), some (.inl n), some (.inl (andI (shrI (shlI u 2) f) 3)), some (.inl (andI (shrI u (f + n)) 3)), some (.inl 0)], [.inl 0], M) _)
      refine ev_rt (r := some (.inl 0)) rfl (?_)
      exact ⟨rint (by rw [bi_f h19, bi_f h32]; rfl), rfl⟩
set_option maxRecDepth 2610 in
theorem d_findPlace {m : Int} {M : NM} {j : Int} (hI : Inv m (sl M j)) {b n : Int} (h1 : 0 ≤ b ∧ b < M 1 j 0 3) (h2 : 1 ≤ n ∧ n ≤ 10) : HT X z_X1_findPlace [.inr (.inr (some (1, j, 0))), .inl b, .inl n] M (fun rr MM => rr = some (.inl (pl (sl M j) b n)) ∧ MM = M) := by
  have hi := hI.1
  simp only [Iv0, sl] at hi
  have hb := hI.2.1 b h1.1 h1.2
  simp only [sl] at hb
  refine ht_of (e := E_X1_findPlace) rfl (?_ : EvI X E_X1_findPlace (0, [some (.inr (.inr (some (1, j, 0)))), some (.inl b), some (.inl n), none, none, none, none, none, none, none], [], M) _)
  refine seg_ok 2 (?_ : EvI X E_X1_findPlace (2, [some (.inr (.inr (some (1, j, 0)))), some (.inl b), some (.inl n), none, none, none, none, none, none, none], [.inl b, .inr (.inr (some (1, j, 0)))], M) _)
  refine ev_clp (v := .inr (.inr (some (0, j, b)))) (z := z_X1_blockAt) (as := [.inr (.inr (some (1, j, 0))), .inl b]) (rest := []) rfl (d_blockAt_t (by omega) (by omega)) (?_ : EvI X E_X1_findPlace (5, [some (.inr (.inr (some (1, j, 0)))), some (.inl b), some (.inl n), none, none, none, none, none, none, none], [.inr (.inr (some (0, j, b)))], M) _)
  refine seg_ok 4 (?_ : EvI X E_X1_findPlace (11, [some (.inr (.inr (some (1, j, 0)))), some (.inl b), some (.inl n), some (.inr (.inr (some (0, j, b)))), none, none, none, none, none, none], [.inl n], M) _)
  refine ev_clp (v := .inl (bi (1 ≤ n ∧ n ≤ 10))) (z := z_X1_isGroup) (as := [.inl n]) (rest := []) rfl d_isGroup (?_ : EvI X E_X1_findPlace (14, [some (.inr (.inr (some (1, j, 0)))), some (.inl b), some (.inl n), some (.inr (.inr (some (0, j, b)))), none, none, none, none, none, none], [.inl (bi (1 ≤ n ∧ n ≤ 10))], M) _)
  refine seg_ok 1 (?_ : EvI X E_X1_findPlace (if (bi (1 ≤ n ∧ n ≤ 10)) = 0 then 17 else 20, [some (.inr (.inr (some (1, j, 0)))), some (.inl b), some (.inl n), some (.inr (.inr (some (0, j, b)))), none, none, none, none, none, none], [], M) _)
  refine ev_ifb (fun h14 => ?_) (fun h14 => ?_)
  · refine seg_ok 1 (?_ : EvI X E_X1_findPlace (19, [some (.inr (.inr (some (1, j, 0)))), some (.inl b), some (.inl n), some (.inr (.inr (some (0, j, b)))), none, none, none, none, none, none], [.inl (-9)], M) _)
    refine ev_rt (r := some (.inl (-9))) rfl (?_)
    exact absurd h2 h14
  · refine seg_ok 6 (?_ : EvI X E_X1_findPlace (31, [some (.inr (.inr (some (1, j, 0)))), some (.inl b), some (.inl n), some (.inr (.inr (some (0, j, b)))), some (.inl (-9)), some (.inl 10), some (.inl 0), none, none, none], [], M) _)
    have L31 : ∀ (m31 : Nat) (u v r : Int) (d31_7 d31_8 d31_9 : Option U), M 0 j b 0 - r < (m31 : Int) → (0 ≤ r) → (r ≤ M 0 j b 0) → (u = (plR (sl M j) b n 10 r.toNat).1) → (v = (plR (sl M j) b n 10 r.toNat).2) → EvI X E_X1_findPlace (31, [some (.inr (.inr (some (1, j, 0)))), some (.inl b), some (.inl n), some (.inr (.inr (some (0, j, b)))), some (.inl u), some (.inl v), some (.inl r), d31_7, d31_8, d31_9], [], M) (fun rr MM => rr = some (.inl (pl (sl M j) b n)) ∧ MM = M) := by
      intro m31
      induction m31 with
      | zero => intro u v r d31_7 d31_8 d31_9 hm31 q1 q2 q3 q4; exact absurd hm31 (by omega)
      | succ m31 ih31 =>
        intro u v r d31_7 d31_8 d31_9 hm31 q1 q2 q3 q4
        refine seg_ok 4 (?_ : EvI X E_X1_findPlace (if r < (M 0 j b 0) then 40 else 126, [some (.inr (.inr (some (1, j, 0)))), some (.inl b), some (.inl n), some (.inr (.inr (some (0, j, b)))), some (.inl u), some (.inl v), some (.inl r), d31_7, d31_8, d31_9], [], M) _)
        refine ev_if (fun h37 => ?_) (fun h37 => ?_)
        · refine seg_ok 4 (?_ : EvI X E_X1_findPlace (45, [some (.inr (.inr (some (1, j, 0)))), some (.inl b), some (.inl n), some (.inr (.inr (some (0, j, b)))), some (.inl u), some (.inl v), some (.inl r), d31_7, d31_8, d31_9], [.inl r, .inl b, .inr (.inr (some (0, j, b))), .inr (.inr (some (1, j, 0)))], M) _)
          refine ev_clp (v := .inl ((mkN (opn (sl M j) (100 * b + 10 * r)) (M 0 j b 1).toNat : Nat))) (z := z_X1_usableInRow) (as := [.inr (.inr (some (1, j, 0))), .inr (.inr (some (0, j, b))), .inl b, .inl r]) (rest := []) rfl (d_usableInRow hI (by omega) (by omega)) (?_ : EvI X E_X1_findPlace (48, [some (.inr (.inr (some (1, j, 0)))), some (.inl b), some (.inl n), some (.inr (.inr (some (0, j, b)))), some (.inl u), some (.inl v), some (.inl r), d31_7, d31_8, d31_9], [.inl ((mkN (opn (sl M j) (100 * b + 10 * r)) (M 0 j b 1).toNat : Nat))], M) _)
          refine seg_ok 3 (?_ : EvI X E_X1_findPlace (53, [some (.inr (.inr (some (1, j, 0)))), some (.inl b), some (.inl n), some (.inr (.inr (some (0, j, b)))), some (.inl u), some (.inl v), some (.inl r), some (.inl ((mkN (opn (sl M j) (100 * b + 10 * r)) (M 0 j b 1).toNat : Nat))), some (.inl 0), d31_9], [], M) _)
          have L53 : ∀ (m53 : Nat) (u2 v2 c : Int) (d53_9 : Option U), M 0 j b 1 - c < (m53 : Int) → (0 ≤ c) → (c ≤ M 0 j b 1) → (u2 = (plC (sl M j) (100 * b + 10 * r) n (plR (sl M j) b n 10 r.toNat) c.toNat).1) → (v2 = (plC (sl M j) (100 * b + 10 * r) n (plR (sl M j) b n 10 r.toNat) c.toNat).2) → EvI X E_X1_findPlace (53, [some (.inr (.inr (some (1, j, 0)))), some (.inl b), some (.inl n), some (.inr (.inr (some (0, j, b)))), some (.inl u2), some (.inl v2), some (.inl r), some (.inl ((mkN (opn (sl M j) (100 * b + 10 * r)) (M 0 j b 1).toNat : Nat))), some (.inl c), d53_9], [], M) (fun rr MM => rr = some (.inl (pl (sl M j) b n)) ∧ MM = M) := by
            intro m53
            induction m53 with
            | zero => intro u2 v2 c d53_9 hm53 p1 p2 p3 p4; exact absurd hm53 (by omega)
            | succ m53 ih53 =>
              intro u2 v2 c d53_9 hm53 p1 p2 p3 p4
              have hC : ∀ x, opn (sl M j) (100 * b + 10 * r) x → x < ((M 0 j b 1).toNat : Int) := fun x z => by
                have := opn_lt (S := sl M j) h1.1 q1 (by omega) z
                simp only [sl] at this
                omega
              refine seg_ok 6 (⟨by omega, ?_⟩ : ((-2147483648 : Int) ≤ (c + n) ∧ (c + n) < 2147483648) ∧ EvI X E_X1_findPlace (if (M 0 j b 1) < (c + n) then 120 else 64, [some (.inr (.inr (some (1, j, 0)))), some (.inl b), some (.inl n), some (.inr (.inr (some (0, j, b)))), some (.inl u2), some (.inl v2), some (.inl r), some (.inl ((mkN (opn (sl M j) (100 * b + 10 * r)) (M 0 j b 1).toNat : Nat))), some (.inl c), d53_9], [], M) _)
              refine ev_if (fun h61 => ?_) (fun h61 => ?_)
              · have pst := plC_stop (S := sl M j) (row := 100 * b + 10 * r) (n := n) (p := plR (sl M j) b n 10 r.toNat) (c := c.toNat) (fun c2 hc2 z => by
                  have := opn_lt (S := sl M j) h1.1 q1 (by omega) (z (n - 1) (by omega) (by omega))
                  simp only [sl] at this
                  omega) ((M 0 j b 1).toNat - c.toNat)
                rw [show c.toNat + ((M 0 j b 1).toNat - c.toNat) = (M 0 j b 1).toNat by omega] at pst
                refine seg_ok 2 (⟨by omega, ?_⟩ : ((-2147483648 : Int) ≤ (r + 1) ∧ (r + 1) < 2147483648) ∧ EvI X E_X1_findPlace (31, [some (.inr (.inr (some (1, j, 0)))), some (.inl b), some (.inl n), some (.inr (.inr (some (0, j, b)))), some (.inl u2), some (.inl v2), some (.inl (r + 1)), some (.inl ((mkN (opn (sl M j) (100 * b + 10 * r)) (M 0 j b 1).toNat : Nat))), some (.inl c), d53_9], [], M) _)
                refine ih31 u2 v2 (r + 1) (some (.inl ((mkN (opn (sl M j) (100 * b + 10 * r)) (M 0 j b 1).toNat : Nat)))) (some (.inl c)) d53_9 (by omega) (by omega) (by omega) (by rw [plR_step q1]; exact p3.trans (by rw [← pst])) (by rw [plR_step q1]; exact p4.trans (by rw [← pst]))
              · refine seg_ok 3 (?_ : EvI X E_X1_findPlace (69, [some (.inr (.inr (some (1, j, 0)))), some (.inl b), some (.inl n), some (.inr (.inr (some (0, j, b)))), some (.inl u2), some (.inl v2), some (.inl r), some (.inl ((mkN (opn (sl M j) (100 * b + 10 * r)) (M 0 j b 1).toNat : Nat))), some (.inl c), d53_9], [.inl n, .inl c, .inl ((mkN (opn (sl M j) (100 * b + 10 * r)) (M 0 j b 1).toNat : Nat))], M) _)
                refine ev_clp (v := .inl (bi (andI (shrI ((mkN (opn (sl M j) (100 * b + 10 * r)) (M 0 j b 1).toNat : Nat)) c) (shlI 1 n - 1) = shlI 1 n - 1))) (z := z_X1_hasRoom) (as := [.inl ((mkN (opn (sl M j) (100 * b + 10 * r)) (M 0 j b 1).toNat : Nat)), .inl c, .inl n]) (rest := []) rfl (d_hasRoom (by omega)) (?_ : EvI X E_X1_findPlace (72, [some (.inr (.inr (some (1, j, 0)))), some (.inl b), some (.inl n), some (.inr (.inr (some (0, j, b)))), some (.inl u2), some (.inl v2), some (.inl r), some (.inl ((mkN (opn (sl M j) (100 * b + 10 * r)) (M 0 j b 1).toNat : Nat))), some (.inl c), d53_9], [.inl (bi (andI (shrI ((mkN (opn (sl M j) (100 * b + 10 * r)) (M 0 j b 1).toNat : Nat)) c) (shlI 1 n - 1) = shlI 1 n - 1))], M) _)
                refine seg_ok 1 (?_ : EvI X E_X1_findPlace (if (bi (andI (shrI ((mkN (opn (sl M j) (100 * b + 10 * r)) (M 0 j b 1).toNat : Nat)) c) (shlI 1 n - 1) = shlI 1 n - 1)) = 0 then 75 else 78, [some (.inr (.inr (some (1, j, 0)))), some (.inl b), some (.inl n), some (.inr (.inr (some (0, j, b)))), some (.inl u2), some (.inl v2), some (.inl r), some (.inl ((mkN (opn (sl M j) (100 * b + 10 * r)) (M 0 j b 1).toNat : Nat))), some (.inl c), d53_9], [], M) _)
                refine ev_ifb (fun h72 => ?_) (fun h72 => ?_)
                · refine seg_ok 3 (⟨by omega, ?_⟩ : ((-2147483648 : Int) ≤ (c + 1) ∧ (c + 1) < 2147483648) ∧ EvI X E_X1_findPlace (53, [some (.inr (.inr (some (1, j, 0)))), some (.inl b), some (.inl n), some (.inr (.inr (some (0, j, b)))), some (.inl u2), some (.inl v2), some (.inl r), some (.inl ((mkN (opn (sl M j) (100 * b + 10 * r)) (M 0 j b 1).toNat : Nat))), some (.inl (c + 1)), d53_9], [], M) _)
                  refine ih53 u2 v2 (c + 1) d53_9 (by omega) (by omega) (by omega) (by rw [plC_step p1, cA_1 (fun z => h72 ((hr_iff hC (by omega) p1 (by omega) (by omega)).mpr z))]; exact p3) (by rw [plC_step p1, cA_1 (fun z => h72 ((hr_iff hC (by omega) p1 (by omega) (by omega)).mpr z))]; exact p4)
                · refine seg_ok 3 (?_ : EvI X E_X1_findPlace (83, [some (.inr (.inr (some (1, j, 0)))), some (.inl b), some (.inl n), some (.inr (.inr (some (0, j, b)))), some (.inl u2), some (.inl v2), some (.inl r), some (.inl ((mkN (opn (sl M j) (100 * b + 10 * r)) (M 0 j b 1).toNat : Nat))), some (.inl c), d53_9], [.inl n, .inl c, .inl ((mkN (opn (sl M j) (100 * b + 10 * r)) (M 0 j b 1).toNat : Nat))], M) _)
                  refine ev_clp (v := .inl (bi (andI (shrI (shlI ((mkN (opn (sl M j) (100 * b + 10 * r)) (M 0 j b 1).toNat : Nat)) 2) c) 3 = 2) + bi (andI (shrI ((mkN (opn (sl M j) (100 * b + 10 * r)) (M 0 j b 1).toNat : Nat)) (c + n)) 3 = 1))) (z := z_X1_leftAlone) (as := [.inl ((mkN (opn (sl M j) (100 * b + 10 * r)) (M 0 j b 1).toNat : Nat)), .inl c, .inl n]) (rest := []) rfl (d_leftAlone (by omega) (by omega)) (?_ : EvI X E_X1_findPlace (86, [some (.inr (.inr (some (1, j, 0)))), some (.inl b), some (.inl n), some (.inr (.inr (some (0, j, b)))), some (.inl u2), some (.inl v2), some (.inl r), some (.inl ((mkN (opn (sl M j) (100 * b + 10 * r)) (M 0 j b 1).toNat : Nat))), some (.inl c), d53_9], [.inl (bi (andI (shrI (shlI ((mkN (opn (sl M j) (100 * b + 10 * r)) (M 0 j b 1).toNat : Nat)) 2) c) 3 = 2) + bi (andI (shrI ((mkN (opn (sl M j) (100 * b + 10 * r)) (M 0 j b 1).toNat : Nat)) (c + n)) 3 = 1))], M) _)
                  refine seg_ok 4 (?_ : EvI X E_X1_findPlace (if (bi (andI (shrI (shlI ((mkN (opn (sl M j) (100 * b + 10 * r)) (M 0 j b 1).toNat : Nat)) 2) c) 3 = 2) + bi (andI (shrI ((mkN (opn (sl M j) (100 * b + 10 * r)) (M 0 j b 1).toNat : Nat)) (c + n)) 3 = 1)) < v2 then 95 else 114, [some (.inr (.inr (some (1, j, 0)))), some (.inl b), some (.inl n), some (.inr (.inr (some (0, j, b)))), some (.inl u2), some (.inl v2), some (.inl r), some (.inl ((mkN (opn (sl M j) (100 * b + 10 * r)) (M 0 j b 1).toNat : Nat))), some (.inl c), some (.inl (bi (andI (shrI (shlI ((mkN (opn (sl M j) (100 * b + 10 * r)) (M 0 j b 1).toNat : Nat)) 2) c) 3 = 2) + bi (andI (shrI ((mkN (opn (sl M j) (100 * b + 10 * r)) (M 0 j b 1).toNat : Nat)) (c + n)) 3 = 1)))], [], M) _)
                  refine ev_if (fun h92 => ?_) (fun h92 => ?_)
                  · refine seg_ok 14 (⟨by omega, by omega, by omega, by omega, by omega, ?_⟩ : ((-2147483648 : Int) ≤ (b * 100) ∧ (b * 100) < 2147483648) ∧ ((-2147483648 : Int) ≤ (r * 10) ∧ (r * 10) < 2147483648) ∧ ((-2147483648 : Int) ≤ ((b * 100) + (r * 10)) ∧ ((b * 100) + (r * 10)) < 2147483648) ∧ ((-2147483648 : Int) ≤ (((b * 100) + (r * 10)) + c) ∧ (((b * 100) + (r * 10)) + c) < 2147483648) ∧ ((-2147483648 : Int) ≤ (c + 1) ∧ (c + 1) < 2147483648) ∧ EvI X E_X1_findPlace (53, [some (.inr (.inr (some (1, j, 0)))), some (.inl b), some (.inl n), some (.inr (.inr (some (0, j, b)))), some (.inl (((b * 100) + (r * 10)) + c)), some (.inl (bi (andI (shrI (shlI ((mkN (opn (sl M j) (100 * b + 10 * r)) (M 0 j b 1).toNat : Nat)) 2) c) 3 = 2) + bi (andI (shrI ((mkN (opn (sl M j) (100 * b + 10 * r)) (M 0 j b 1).toNat : Nat)) (c + n)) 3 = 1))), some (.inl r), some (.inl ((mkN (opn (sl M j) (100 * b + 10 * r)) (M 0 j b 1).toNat : Nat))), some (.inl (c + 1)), some (.inl (bi (andI (shrI (shlI ((mkN (opn (sl M j) (100 * b + 10 * r)) (M 0 j b 1).toNat : Nat)) 2) c) 3 = 2) + bi (andI (shrI ((mkN (opn (sl M j) (100 * b + 10 * r)) (M 0 j b 1).toNat : Nat)) (c + n)) 3 = 1)))], [], M) _)
                    refine ih53 (((b * 100) + (r * 10)) + c) (bi (andI (shrI (shlI ((mkN (opn (sl M j) (100 * b + 10 * r)) (M 0 j b 1).toNat : Nat)) 2) c) 3 = 2) + bi (andI (shrI ((mkN (opn (sl M j) (100 * b + 10 * r)) (M 0 j b 1).toNat : Nat)) (c + n)) 3 = 1)) (c + 1) (some (.inl (bi (andI (shrI (shlI ((mkN (opn (sl M j) (100 * b + 10 * r)) (M 0 j b 1).toNat : Nat)) 2) c) 3 = 2) + bi (andI (shrI ((mkN (opn (sl M j) (100 * b + 10 * r)) (M 0 j b 1).toNat : Nat)) (c + n)) 3 = 1)))) (by omega) (by omega) (by omega) (by rw [plC_step p1, cA_t ((hr_iff hC (by omega) p1 (by omega) (by omega)).mp h72) (by rw [← p4, ← la_iff hC (by omega) p1 (by omega) (by omega) (by omega)]; exact h92)]; show _ = 100 * b + 10 * r + c; omega) (by rw [plC_step p1, cA_t ((hr_iff hC (by omega) p1 (by omega) (by omega)).mp h72) (by rw [← p4, ← la_iff hC (by omega) p1 (by omega) (by omega) (by omega)]; exact h92)]; exact la_iff hC (by omega) p1 (by omega) (by omega) (by omega))
                  · refine seg_ok 2 (⟨by omega, ?_⟩ : ((-2147483648 : Int) ≤ (c + 1) ∧ (c + 1) < 2147483648) ∧ EvI X E_X1_findPlace (53, [some (.inr (.inr (some (1, j, 0)))), some (.inl b), some (.inl n), some (.inr (.inr (some (0, j, b)))), some (.inl u2), some (.inl v2), some (.inl r), some (.inl ((mkN (opn (sl M j) (100 * b + 10 * r)) (M 0 j b 1).toNat : Nat))), some (.inl (c + 1)), some (.inl (bi (andI (shrI (shlI ((mkN (opn (sl M j) (100 * b + 10 * r)) (M 0 j b 1).toNat : Nat)) 2) c) 3 = 2) + bi (andI (shrI ((mkN (opn (sl M j) (100 * b + 10 * r)) (M 0 j b 1).toNat : Nat)) (c + n)) 3 = 1)))], [], M) _)
                    refine ih53 u2 v2 (c + 1) (some (.inl (bi (andI (shrI (shlI ((mkN (opn (sl M j) (100 * b + 10 * r)) (M 0 j b 1).toNat : Nat)) 2) c) 3 = 2) + bi (andI (shrI ((mkN (opn (sl M j) (100 * b + 10 * r)) (M 0 j b 1).toNat : Nat)) (c + n)) 3 = 1)))) (by omega) (by omega) (by omega) (by rw [plC_step p1, cA_2 (by rw [← p4, ← la_iff hC (by omega) p1 (by omega) (by omega) (by omega)]; exact h92)]; exact p3) (by rw [plC_step p1, cA_2 (by rw [← p4, ← la_iff hC (by omega) p1 (by omega) (by omega) (by omega)]; exact h92)]; exact p4)
          refine L53 ((M 0 j b 1 - 0) + 1 : Int).toNat u v 0 d31_9 (by omega) (by omega) (by omega) q3 q4
        · refine seg_ok 1 (?_ : EvI X E_X1_findPlace (128, [some (.inr (.inr (some (1, j, 0)))), some (.inl b), some (.inl n), some (.inr (.inr (some (0, j, b)))), some (.inl u), some (.inl v), some (.inl r), d31_7, d31_8, d31_9], [.inl u], M) _)
          refine ev_rt (r := some (.inl u)) rfl (?_)
          exact ⟨rint (by rw [q3, show r = M 0 j b 0 by omega]; exact (plR_i0 _).1), rfl⟩
    refine L31 ((M 0 j b 0 - 0) + 1 : Int).toNat (-9) 10 0 none none none (by omega) (by omega) (by omega) rfl rfl
end
end
section
/-! 16: the class: groups, upgrades, counts, figures -/
section
variable {X : XI}
theorem up_iff {S : Sl} {f u v b : Int} (q4 : v = cif (u = -9) (rk S f) (rk S u)) (q5 : u = -9 ∨ rk S f < rk S u) : v < rk S b ↔ rk S f < rk S b ∧ (u = -9 ∨ rk S u < rk S b) := by
  by_cases h : u = -9
  · rw [cif_t h] at q4; rw [q4]; exact ⟨fun z => ⟨z, Or.inl h⟩, fun z => z.1⟩
  · rw [cif_f h] at q4; rw [q4]
    rcases q5 with q5 | q5
    · exact absurd q5 h
    · exact ⟨fun z => ⟨by omega, Or.inr z⟩, fun z => z.2.elim (fun w => absurd w h) id⟩
theorem d_greatestGroup {m : Int} {M : NM} {j : Int} (hI : Inv m (sl M j)) {b : Int} (h1 : 0 ≤ b ∧ b < M 1 j 0 3) : HT X z_X1_greatestGroup [.inr (.inr (some (1, j, 0))), .inl b] M (fun rr MM => rr = some (.inl (gN (sl M j) b 10)) ∧ MM = M) := by
  have hi := hI.1
  simp only [Iv0, sl] at hi
  refine ht_of (e := E_X1_greatestGroup) rfl (?_ : EvI X E_X1_greatestGroup (0, [some (.inr (.inr (some (1, j, 0)))), some (.inl b), none], [], M) _)
  refine seg_ok 2 (?_ : EvI X E_X1_greatestGroup (3, [some (.inr (.inr (some (1, j, 0)))), some (.inl b), some (.inl 10)], [], M) _)
  have L3 : ∀ (m3 : Nat) (n : Int), n < (m3 : Int) → (0 ≤ n) → (n ≤ 10) → (gN (sl M j) b 10 = gN (sl M j) b n.toNat) → EvI X E_X1_greatestGroup (3, [some (.inr (.inr (some (1, j, 0)))), some (.inl b), some (.inl n)], [], M) (fun rr MM => rr = some (.inl (gN (sl M j) b 10)) ∧ MM = M) := by
    intro m3
    induction m3 with
    | zero => intro n hm3 q1 q2 q3; exact absurd hm3 (by omega)
    | succ m3 ih3 =>
      intro n hm3 q1 q2 q3
      refine seg_ok 2 (?_ : EvI X E_X1_greatestGroup (if 0 < n then 7 else 26, [some (.inr (.inr (some (1, j, 0)))), some (.inl b), some (.inl n)], [], M) _)
      refine ev_if (fun h4 => ?_) (fun h4 => ?_)
      · refine seg_ok 3 (?_ : EvI X E_X1_greatestGroup (10, [some (.inr (.inr (some (1, j, 0)))), some (.inl b), some (.inl n)], [.inl n, .inl b, .inr (.inr (some (1, j, 0)))], M) _)
        refine ev_clp (v := .inl (pl (sl M j) b n)) (z := z_X1_findPlace) (as := [.inr (.inr (some (1, j, 0))), .inl b, .inl n]) (rest := []) rfl (d_findPlace hI (by omega) (by omega)) (?_ : EvI X E_X1_greatestGroup (13, [some (.inr (.inr (some (1, j, 0)))), some (.inl b), some (.inl n)], [.inl (pl (sl M j) b n)], M) _)
        refine seg_ok 2 (?_ : EvI X E_X1_greatestGroup (if (pl (sl M j) b n) = (-9) then 20 else 18, [some (.inr (.inr (some (1, j, 0)))), some (.inl b), some (.inl n)], [], M) _)
        refine ev_if (fun h15 => ?_) (fun h15 => ?_)
        · refine seg_ok 2 (⟨by omega, ?_⟩ : ((-2147483648 : Int) ≤ (n + (-1)) ∧ (n + (-1)) < 2147483648) ∧ EvI X E_X1_greatestGroup (3, [some (.inr (.inr (some (1, j, 0)))), some (.inl b), some (.inl (n + (-1)))], [], M) _)
          refine ih3 (n + (-1)) (by omega) (by omega) (by omega) (by rw [q3, gN_step (by omega), cif_f (fun z => z h15)]; rfl)
        · refine seg_ok 1 (?_ : EvI X E_X1_greatestGroup (19, [some (.inr (.inr (some (1, j, 0)))), some (.inl b), some (.inl n)], [.inl n], M) _)
          refine ev_rt (r := some (.inl n)) rfl (?_)
          exact ⟨rint (by rw [q3, gN_step (by omega)]; exact (cif_t h15).symm), rfl⟩
      · refine seg_ok 1 (?_ : EvI X E_X1_greatestGroup (27, [some (.inr (.inr (some (1, j, 0)))), some (.inl b), some (.inl n)], [.inl 0], M) _)
        refine ev_rt (r := some (.inl 0)) rfl (?_)
        exact ⟨rint (by rw [q3, show n.toNat = 0 by omega]; rfl), rfl⟩
  refine L3 ((10) + 1 : Int).toNat 10 (by omega) (by omega) (by omega) rfl
theorem d_cheapestFor {m : Int} {M : NM} {j : Int} (hI : Inv m (sl M j)) {n : Int} (h2 : 1 ≤ n ∧ n ≤ 10) : HT X z_X1_cheapestFor [.inr (.inr (some (1, j, 0))), .inl n] M (fun rr MM => rr = some (.inl (chN (sl M j) n (M 1 j 0 3).toNat)) ∧ MM = M) := by
  have hi := hI.1
  simp only [Iv0, sl] at hi
  refine ht_of (e := E_X1_cheapestFor) rfl (?_ : EvI X E_X1_cheapestFor (0, [some (.inr (.inr (some (1, j, 0)))), some (.inl n), none, none, none], [], M) _)
  refine seg_ok 4 (?_ : EvI X E_X1_cheapestFor (5, [some (.inr (.inr (some (1, j, 0)))), some (.inl n), some (.inl (-9)), some (.inl 0), none], [], M) _)
  have L5 : ∀ (m5 : Nat) (u b : Int) (d5_4 : Option U), M 1 j 0 3 - b < (m5 : Int) → (0 ≤ b) → (b ≤ M 1 j 0 3) → (u = chN (sl M j) n b.toNat) → EvI X E_X1_cheapestFor (5, [some (.inr (.inr (some (1, j, 0)))), some (.inl n), some (.inl u), some (.inl b), d5_4], [], M) (fun rr MM => rr = some (.inl (chN (sl M j) n (M 1 j 0 3).toNat)) ∧ MM = M) := by
    intro m5
    induction m5 with
    | zero => intro u b d5_4 hm5 q1 q2 q3; exact absurd hm5 (by omega)
    | succ m5 ih5 =>
      intro u b d5_4 hm5 q1 q2 q3
      subst q3
      have g := chN_r (sl M j) n b.toNat
      refine seg_ok 4 (?_ : EvI X E_X1_cheapestFor (if b < (M 1 j 0 3) then 13 else 63, [some (.inr (.inr (some (1, j, 0)))), some (.inl n), some (.inl (chN (sl M j) n b.toNat)), some (.inl b), d5_4], [], M) _)
      refine ev_if (fun h10 => ?_) (fun h10 => ?_)
      · refine seg_ok 3 (?_ : EvI X E_X1_cheapestFor (if (chN (sl M j) n b.toNat) = (-9) then 32 else 19, [some (.inr (.inr (some (1, j, 0)))), some (.inl n), some (.inl (chN (sl M j) n b.toNat)), some (.inl b), d5_4], [], M) _)
        refine ev_if (fun h16 => ?_) (fun h16 => ?_)
        · refine seg_ok 8 (?_ : EvI X E_X1_cheapestFor (47, [some (.inr (.inr (some (1, j, 0)))), some (.inl n), some (.inl (chN (sl M j) n b.toNat)), some (.inl b), some (.inl 1)], [.inl n, .inl b, .inr (.inr (some (1, j, 0)))], M) _)
          refine ev_clp (v := .inl (pl (sl M j) b n)) (z := z_X1_findPlace) (as := [.inr (.inr (some (1, j, 0))), .inl b, .inl n]) (rest := []) rfl (d_findPlace hI (by omega) (by omega)) (?_ : EvI X E_X1_cheapestFor (50, [some (.inr (.inr (some (1, j, 0)))), some (.inl n), some (.inl (chN (sl M j) n b.toNat)), some (.inl b), some (.inl 1)], [.inl (pl (sl M j) b n)], M) _)
          refine seg_ok 2 (?_ : EvI X E_X1_cheapestFor (if (pl (sl M j) b n) = (-9) then 57 else 55, [some (.inr (.inr (some (1, j, 0)))), some (.inl n), some (.inl (chN (sl M j) n b.toNat)), some (.inl b), some (.inl 1)], [], M) _)
          refine ev_if (fun h52 => ?_) (fun h52 => ?_)
          · refine seg_ok 2 (⟨by omega, ?_⟩ : ((-2147483648 : Int) ≤ (b + 1) ∧ (b + 1) < 2147483648) ∧ EvI X E_X1_cheapestFor (5, [some (.inr (.inr (some (1, j, 0)))), some (.inl n), some (.inl (chN (sl M j) n b.toNat)), some (.inl (b + 1)), some (.inl 1)], [], M) _)
            refine ih5 (chN (sl M j) n b.toNat) (b + 1) (some (.inl 1)) (by omega) (by omega) (by omega) (by rw [chN_step q1]; exact (cA_1 (fun z => z h52)).symm)
          · refine seg_ok 4 (⟨by omega, ?_⟩ : ((-2147483648 : Int) ≤ (b + 1) ∧ (b + 1) < 2147483648) ∧ EvI X E_X1_cheapestFor (5, [some (.inr (.inr (some (1, j, 0)))), some (.inl n), some (.inl b), some (.inl (b + 1)), some (.inl 1)], [], M) _)
            refine ih5 b (b + 1) (some (.inl 1)) (by omega) (by omega) (by omega) (by rw [chN_step q1]; exact (cA_t h52 (Or.inl h16)).symm)
        · refine seg_ok 2 (?_ : EvI X E_X1_cheapestFor (21, [some (.inr (.inr (some (1, j, 0)))), some (.inl n), some (.inl (chN (sl M j) n b.toNat)), some (.inl b), d5_4], [.inl b, .inr (.inr (some (1, j, 0)))], M) _)
          refine ev_clp (v := .inl (M 0 j b 2)) (z := z_X1_priceOf) (as := [.inr (.inr (some (1, j, 0))), .inl b]) (rest := []) rfl (d_priceOf (show 0 ≤ b ∧ b < M 1 j 0 3 from by omega) (show M 1 j 0 3 ≤ 6 from by omega)) (?_ : EvI X E_X1_cheapestFor (24, [some (.inr (.inr (some (1, j, 0)))), some (.inl n), some (.inl (chN (sl M j) n b.toNat)), some (.inl b), d5_4], [.inl (M 0 j b 2)], M) _)
          refine seg_ok 2 (?_ : EvI X E_X1_cheapestFor (26, [some (.inr (.inr (some (1, j, 0)))), some (.inl n), some (.inl (chN (sl M j) n b.toNat)), some (.inl b), d5_4], [.inl (chN (sl M j) n b.toNat), .inr (.inr (some (1, j, 0))), .inl (M 0 j b 2)], M) _)
          refine ev_clp (v := .inl (M 0 j (chN (sl M j) n b.toNat) 2)) (z := z_X1_priceOf) (as := [.inr (.inr (some (1, j, 0))), .inl (chN (sl M j) n b.toNat)]) (rest := [.inl (M 0 j b 2)]) rfl (d_priceOf (show 0 ≤ (chN (sl M j) n b.toNat) ∧ (chN (sl M j) n b.toNat) < M 1 j 0 3 from by omega) (show M 1 j 0 3 ≤ 6 from by omega)) (?_ : EvI X E_X1_cheapestFor (29, [some (.inr (.inr (some (1, j, 0)))), some (.inl n), some (.inl (chN (sl M j) n b.toNat)), some (.inl b), d5_4], [.inl (M 0 j (chN (sl M j) n b.toNat) 2), .inl (M 0 j b 2)], M) _)
          refine seg_ok 1 (?_ : EvI X E_X1_cheapestFor (if (M 0 j b 2) < (M 0 j (chN (sl M j) n b.toNat) 2) then 32 else 36, [some (.inr (.inr (some (1, j, 0)))), some (.inl n), some (.inl (chN (sl M j) n b.toNat)), some (.inl b), d5_4], [], M) _)
          refine ev_if (fun h29 => ?_) (fun h29 => ?_)
          · refine seg_ok 8 (?_ : EvI X E_X1_cheapestFor (47, [some (.inr (.inr (some (1, j, 0)))), some (.inl n), some (.inl (chN (sl M j) n b.toNat)), some (.inl b), some (.inl 1)], [.inl n, .inl b, .inr (.inr (some (1, j, 0)))], M) _)
            refine ev_clp (v := .inl (pl (sl M j) b n)) (z := z_X1_findPlace) (as := [.inr (.inr (some (1, j, 0))), .inl b, .inl n]) (rest := []) rfl (d_findPlace hI (by omega) (by omega)) (?_ : EvI X E_X1_cheapestFor (50, [some (.inr (.inr (some (1, j, 0)))), some (.inl n), some (.inl (chN (sl M j) n b.toNat)), some (.inl b), some (.inl 1)], [.inl (pl (sl M j) b n)], M) _)
            refine seg_ok 2 (?_ : EvI X E_X1_cheapestFor (if (pl (sl M j) b n) = (-9) then 57 else 55, [some (.inr (.inr (some (1, j, 0)))), some (.inl n), some (.inl (chN (sl M j) n b.toNat)), some (.inl b), some (.inl 1)], [], M) _)
            refine ev_if (fun h52 => ?_) (fun h52 => ?_)
            · refine seg_ok 2 (⟨by omega, ?_⟩ : ((-2147483648 : Int) ≤ (b + 1) ∧ (b + 1) < 2147483648) ∧ EvI X E_X1_cheapestFor (5, [some (.inr (.inr (some (1, j, 0)))), some (.inl n), some (.inl (chN (sl M j) n b.toNat)), some (.inl (b + 1)), some (.inl 1)], [], M) _)
              refine ih5 (chN (sl M j) n b.toNat) (b + 1) (some (.inl 1)) (by omega) (by omega) (by omega) (by rw [chN_step q1]; exact (cA_1 (fun z => z h52)).symm)
            · refine seg_ok 4 (⟨by omega, ?_⟩ : ((-2147483648 : Int) ≤ (b + 1) ∧ (b + 1) < 2147483648) ∧ EvI X E_X1_cheapestFor (5, [some (.inr (.inr (some (1, j, 0)))), some (.inl n), some (.inl b), some (.inl (b + 1)), some (.inl 1)], [], M) _)
              refine ih5 b (b + 1) (some (.inl 1)) (by omega) (by omega) (by omega) (by rw [chN_step q1]; exact (cA_t h52 (Or.inr h29)).symm)
          · refine seg_ok 6 (⟨by omega, ?_⟩ : ((-2147483648 : Int) ≤ (b + 1) ∧ (b + 1) < 2147483648) ∧ EvI X E_X1_cheapestFor (5, [some (.inr (.inr (some (1, j, 0)))), some (.inl n), some (.inl (chN (sl M j) n b.toNat)), some (.inl (b + 1)), some (.inl 0)], [], M) _)
            refine ih5 (chN (sl M j) n b.toNat) (b + 1) (some (.inl 0)) (by omega) (by omega) (by omega) (by rw [chN_step q1]; exact (cA_2 (fun z => z.elim h16 h29)).symm)
      · refine seg_ok 1 (?_ : EvI X E_X1_cheapestFor (64, [some (.inr (.inr (some (1, j, 0)))), some (.inl n), some (.inl (chN (sl M j) n b.toNat)), some (.inl b), d5_4], [.inl (chN (sl M j) n b.toNat)], M) _)
        refine ev_rt (r := some (.inl (chN (sl M j) n b.toNat))) rfl (?_)
        exact ⟨rint (by rw [show b = M 1 j 0 3 by omega]), rfl⟩
  refine L5 ((M 1 j 0 3 - 0) + 1 : Int).toNat (-9) 0 none (by omega) (by omega) (by omega) rfl
theorem d_upgradeFor {m : Int} {M : NM} {j : Int} (hI : Inv m (sl M j)) {f n : Int} (h1 : 0 ≤ f ∧ f < M 1 j 0 3) (h2 : 1 ≤ n ∧ n ≤ 10) : HT X z_X1_upgradeFor [.inr (.inr (some (1, j, 0))), .inl f, .inl n] M (fun rr MM => rr = some (.inl (upF (sl M j) f n (M 1 j 0 3).toNat)) ∧ MM = M) := by
  have hi := hI.1
  simp only [Iv0, sl] at hi
  refine ht_of (e := E_X1_upgradeFor) rfl (?_ : EvI X E_X1_upgradeFor (0, [some (.inr (.inr (some (1, j, 0)))), some (.inl f), some (.inl n), none, none, none, none], [], M) _)
  refine seg_ok 4 (?_ : EvI X E_X1_upgradeFor (5, [some (.inr (.inr (some (1, j, 0)))), some (.inl f), some (.inl n), some (.inl (-9)), none, none, none], [.inl f, .inr (.inr (some (1, j, 0)))], M) _)
  refine ev_clp (v := .inl (rk (sl M j) f)) (z := z_X1_rankOf) (as := [.inr (.inr (some (1, j, 0))), .inl f]) (rest := []) rfl (d_rankOf hI (by omega)) (?_ : EvI X E_X1_upgradeFor (8, [some (.inr (.inr (some (1, j, 0)))), some (.inl f), some (.inl n), some (.inl (-9)), none, none, none], [.inl (rk (sl M j) f)], M) _)
  refine seg_ok 3 (?_ : EvI X E_X1_upgradeFor (13, [some (.inr (.inr (some (1, j, 0)))), some (.inl f), some (.inl n), some (.inl (-9)), some (.inl (rk (sl M j) f)), some (.inl 0), none], [], M) _)
  have L13 : ∀ (m13 : Nat) (u v b : Int) (d13_6 : Option U), M 1 j 0 3 - b < (m13 : Int) → (0 ≤ b) → (b ≤ M 1 j 0 3) → (u = upF (sl M j) f n b.toNat) → (v = cif (u = -9) (rk (sl M j) f) (rk (sl M j) u)) → (u = -9 ∨ rk (sl M j) f < rk (sl M j) u) → EvI X E_X1_upgradeFor (13, [some (.inr (.inr (some (1, j, 0)))), some (.inl f), some (.inl n), some (.inl u), some (.inl v), some (.inl b), d13_6], [], M) (fun rr MM => rr = some (.inl (upF (sl M j) f n (M 1 j 0 3).toNat)) ∧ MM = M) := by
    intro m13
    induction m13 with
    | zero => intro u v b d13_6 hm13 q1 q2 q3 q4 q5; exact absurd hm13 (by omega)
    | succ m13 ih13 =>
      intro u v b d13_6 hm13 q1 q2 q3 q4 q5
      refine seg_ok 4 (?_ : EvI X E_X1_upgradeFor (if b < (M 1 j 0 3) then 22 else 62, [some (.inr (.inr (some (1, j, 0)))), some (.inl f), some (.inl n), some (.inl u), some (.inl v), some (.inl b), d13_6], [], M) _)
      refine ev_if (fun h19 => ?_) (fun h19 => ?_)
      · refine seg_ok 2 (?_ : EvI X E_X1_upgradeFor (25, [some (.inr (.inr (some (1, j, 0)))), some (.inl f), some (.inl n), some (.inl u), some (.inl v), some (.inl b), d13_6], [.inl b, .inr (.inr (some (1, j, 0)))], M) _)
        refine ev_clp (v := .inl (rk (sl M j) b)) (z := z_X1_rankOf) (as := [.inr (.inr (some (1, j, 0))), .inl b]) (rest := []) rfl (d_rankOf hI (by omega)) (?_ : EvI X E_X1_upgradeFor (28, [some (.inr (.inr (some (1, j, 0)))), some (.inl f), some (.inl n), some (.inl u), some (.inl v), some (.inl b), d13_6], [.inl (rk (sl M j) b)], M) _)
        refine seg_ok 4 (?_ : EvI X E_X1_upgradeFor (if v < (rk (sl M j) b) then 37 else 56, [some (.inr (.inr (some (1, j, 0)))), some (.inl f), some (.inl n), some (.inl u), some (.inl v), some (.inl b), some (.inl (rk (sl M j) b))], [], M) _)
        refine ev_if (fun h34 => ?_) (fun h34 => ?_)
        · refine seg_ok 3 (?_ : EvI X E_X1_upgradeFor (41, [some (.inr (.inr (some (1, j, 0)))), some (.inl f), some (.inl n), some (.inl u), some (.inl v), some (.inl b), some (.inl (rk (sl M j) b))], [.inl n, .inl b, .inr (.inr (some (1, j, 0)))], M) _)
          refine ev_clp (v := .inl (pl (sl M j) b n)) (z := z_X1_findPlace) (as := [.inr (.inr (some (1, j, 0))), .inl b, .inl n]) (rest := []) rfl (d_findPlace hI (by omega) (by omega)) (?_ : EvI X E_X1_upgradeFor (44, [some (.inr (.inr (some (1, j, 0)))), some (.inl f), some (.inl n), some (.inl u), some (.inl v), some (.inl b), some (.inl (rk (sl M j) b))], [.inl (pl (sl M j) b n)], M) _)
          refine seg_ok 2 (?_ : EvI X E_X1_upgradeFor (if (pl (sl M j) b n) = (-9) then 56 else 49, [some (.inr (.inr (some (1, j, 0)))), some (.inl f), some (.inl n), some (.inl u), some (.inl v), some (.inl b), some (.inl (rk (sl M j) b))], [], M) _)
          refine ev_if (fun h46 => ?_) (fun h46 => ?_)
          · refine seg_ok 2 (⟨by omega, ?_⟩ : ((-2147483648 : Int) ≤ (b + 1) ∧ (b + 1) < 2147483648) ∧ EvI X E_X1_upgradeFor (13, [some (.inr (.inr (some (1, j, 0)))), some (.inl f), some (.inl n), some (.inl u), some (.inl v), some (.inl (b + 1)), some (.inl (rk (sl M j) b))], [], M) _)
            refine ih13 u v (b + 1) (some (.inl (rk (sl M j) b))) (by omega) (by omega) (by omega) (by rw [upF_step q1, cA_1 (fun z => z.2 h46)]; exact q3) q4 q5
          · refine seg_ok 6 (⟨by omega, ?_⟩ : ((-2147483648 : Int) ≤ (b + 1) ∧ (b + 1) < 2147483648) ∧ EvI X E_X1_upgradeFor (13, [some (.inr (.inr (some (1, j, 0)))), some (.inl f), some (.inl n), some (.inl b), some (.inl (rk (sl M j) b)), some (.inl (b + 1)), some (.inl (rk (sl M j) b))], [], M) _)
            refine ih13 b (rk (sl M j) b) (b + 1) (some (.inl (rk (sl M j) b))) (by omega) (by omega) (by omega) (by rw [upF_step q1]; exact (cA_t ⟨((up_iff (b := b) q4 q5).mp h34).1, h46⟩ (by rw [← q3]; exact ((up_iff (b := b) q4 q5).mp h34).2)).symm) (by rw [cif_f (by omega)]) (Or.inr ((up_iff (b := b) q4 q5).mp h34).1)
        · refine seg_ok 2 (⟨by omega, ?_⟩ : ((-2147483648 : Int) ≤ (b + 1) ∧ (b + 1) < 2147483648) ∧ EvI X E_X1_upgradeFor (13, [some (.inr (.inr (some (1, j, 0)))), some (.inl f), some (.inl n), some (.inl u), some (.inl v), some (.inl (b + 1)), some (.inl (rk (sl M j) b))], [], M) _)
          refine ih13 u v (b + 1) (some (.inl (rk (sl M j) b))) (by omega) (by omega) (by omega) (by rw [upF_step q1, cif_f (fun z => h34 ((up_iff (b := b) q4 q5).mpr ⟨z.1.1, by rw [q3]; exact z.2⟩))]; exact q3) q4 q5
      · refine seg_ok 1 (?_ : EvI X E_X1_upgradeFor (63, [some (.inr (.inr (some (1, j, 0)))), some (.inl f), some (.inl n), some (.inl u), some (.inl v), some (.inl b), d13_6], [.inl u], M) _)
        refine ev_rt (r := some (.inl u)) rfl (?_)
        exact ⟨rint (by rw [q3, show b = M 1 j 0 3 by omega]), rfl⟩
  refine L13 ((M 1 j 0 3 - 0) + 1 : Int).toNat (-9) (rk (sl M j) f) 0 none (by omega) (by omega) (by omega) rfl (cif_t rfl).symm (Or.inl rfl)
theorem d_chairFigure {m : Int} {M : NM} {j : Int} (hI : Inv m (sl M j)) {c : Int} : HT X z_X1_chairFigure [.inr (.inr (some (1, j, 0))), .inl c] M (fun rr MM => rr = some (.inl (chS (sl M j) c)) ∧ MM = M) := by
  have hi := hI.1
  simp only [Iv0, sl] at hi
  refine ht_of (e := E_X1_chairFigure) rfl (?_ : EvI X E_X1_chairFigure (0, [some (.inr (.inr (some (1, j, 0)))), some (.inl c), none], [], M) _)
  refine seg_ok 2 (?_ : EvI X E_X1_chairFigure (2, [some (.inr (.inr (some (1, j, 0)))), some (.inl c), none], [.inl c, .inr (.inr (some (1, j, 0)))], M) _)
  refine ev_clp (v := .inl (bi (isCh (sl M j) c))) (z := z_X1_isChair) (as := [.inr (.inr (some (1, j, 0))), .inl c]) (rest := []) rfl (d_isChair hI) (?_ : EvI X E_X1_chairFigure (5, [some (.inr (.inr (some (1, j, 0)))), some (.inl c), none], [.inl (bi (isCh (sl M j) c))], M) _)
  refine seg_ok 1 (?_ : EvI X E_X1_chairFigure (if (bi (isCh (sl M j) c)) = 0 then 8 else 10, [some (.inr (.inr (some (1, j, 0)))), some (.inl c), none], [], M) _)
  refine ev_ifb (fun h5 => ?_) (fun h5 => ?_)
  · refine seg_ok 1 (?_ : EvI X E_X1_chairFigure (9, [some (.inr (.inr (some (1, j, 0)))), some (.inl c), none], [.inl (-1)], M) _)
    refine ev_rt (r := some (.inl (-1))) rfl (?_)
    exact ⟨rint (by unfold chS; rw [cif_f h5]), rfl⟩
  · have k5 := isCh_r hI h5
    have k6 := hI.2.2.1 c k5.1 k5.2.1
    simp only [sl] at k6
    refine seg_ok 8 (⟨by omega, ?_⟩ : ((0 : Int) ≤ c ∧ c < 600) ∧ EvI X E_X1_chairFigure (if (andI (M 14 j 0 c) (M 1 j 0 5)) = 0 then 28 else 24, [some (.inr (.inr (some (1, j, 0)))), some (.inl c), none], [], M) _)
    refine ev_if (fun h21 => ?_) (fun h21 => ?_)
    · refine seg_ok 8 (⟨by omega, ?_⟩ : ((0 : Int) ≤ c ∧ c < 600) ∧ EvI X E_X1_chairFigure (52, [some (.inr (.inr (some (1, j, 0)))), some (.inl c), some (.inl 0)], [.inl (M 13 j 0 c)], M) _)
      refine ev_rt (r := some (.inl (M 13 j 0 c))) rfl (?_)
      exact ⟨rint (by unfold chS; rw [cif_t h5, cif_f (show ¬ kl (sl M j) c from fun z => z h21), Int.add_zero]), rfl⟩
    · refine seg_ok 12 (⟨by omega, by omega, ?_⟩ : ((0 : Int) ≤ c ∧ c < 600) ∧ ((-2147483648 : Int) ≤ ((M 13 j 0 c) + 10) ∧ ((M 13 j 0 c) + 10) < 2147483648) ∧ EvI X E_X1_chairFigure (52, [some (.inr (.inr (some (1, j, 0)))), some (.inl c), some (.inl 1)], [.inl ((M 13 j 0 c) + 10)], M) _)
      refine ev_rt (r := some (.inl ((M 13 j 0 c) + 10))) rfl (?_)
      exact ⟨rint (by unfold chS; rw [cif_t h5, cif_t (show kl (sl M j) c from h21)]), rfl⟩
theorem d_ticketAt_t {M : NM} {j b : Int} (h : 0 ≤ b ∧ b < M 5 j 0 4) (h6 : M 5 j 0 4 ≤ 20) : HT X z_X5_ticketAt [.inr (.inr (some (5, j, 0))), .inl b] M (fun rr MM => rr = some (.inr (.inr (some (6, j, b)))) ∧ MM = M) := by
  refine ht_of (e := E_X5_ticketAt) rfl (?_ : EvI X E_X5_ticketAt (0, [some (.inr (.inr (some (5, j, 0)))), some (.inl b)], [], M) _)
  refine seg_ok 2 (?_ : EvI X E_X5_ticketAt (if b < 0 then 21 else 4, [some (.inr (.inr (some (5, j, 0)))), some (.inl b)], [], M) _)
  refine ev_if (fun h1 => ?_) (fun h1 => ?_)
  · exfalso
    omega
  · refine seg_ok 4 (?_ : EvI X E_X5_ticketAt (if b < (M 5 j 0 4) then 12 else 21, [some (.inr (.inr (some (5, j, 0)))), some (.inl b)], [], M) _)
    refine ev_if (fun h9 => ?_) (fun h9 => ?_)
    · refine seg_ok 5 (⟨by omega, ?_⟩ : ((0 : Int) ≤ b ∧ b < 20) ∧ EvI X E_X5_ticketAt (22, [some (.inr (.inr (some (5, j, 0)))), some (.inl b)], [.inr (.inr (some (6, j, b)))], M) _)
      refine ev_rt (r := some (.inr (.inr (some (6, j, b))))) rfl (?_)
      exact ⟨rfl, rfl⟩
    · exfalso
      omega
theorem d_ticketAt_f {M : NM} {j b : Int} (h : ¬ (0 ≤ b ∧ b < M 5 j 0 4)) : HT X z_X5_ticketAt [.inr (.inr (some (5, j, 0))), .inl b] M (fun rr MM => rr = some (.inr (.inr none)) ∧ MM = M) := by
  refine ht_of (e := E_X5_ticketAt) rfl (?_ : EvI X E_X5_ticketAt (0, [some (.inr (.inr (some (5, j, 0)))), some (.inl b)], [], M) _)
  refine seg_ok 2 (?_ : EvI X E_X5_ticketAt (if b < 0 then 21 else 4, [some (.inr (.inr (some (5, j, 0)))), some (.inl b)], [], M) _)
  refine ev_if (fun h1 => ?_) (fun h1 => ?_)
  · refine seg_ok 1 (?_ : EvI X E_X5_ticketAt (22, [some (.inr (.inr (some (5, j, 0)))), some (.inl b)], [.inr (.inr none)], M) _)
    refine ev_rt (r := some (.inr (.inr none))) rfl (?_)
    exact ⟨rfl, rfl⟩
  · refine seg_ok 4 (?_ : EvI X E_X5_ticketAt (if b < (M 5 j 0 4) then 12 else 21, [some (.inr (.inr (some (5, j, 0)))), some (.inl b)], [], M) _)
    refine ev_if (fun h9 => ?_) (fun h9 => ?_)
    · exfalso
      omega
    · refine seg_ok 1 (?_ : EvI X E_X5_ticketAt (22, [some (.inr (.inr (some (5, j, 0)))), some (.inl b)], [.inr (.inr none)], M) _)
      refine ev_rt (r := some (.inr (.inr none))) rfl (?_)
      exact ⟨rfl, rfl⟩
theorem d_holdAt_t {M : NM} {j b : Int} (h : 0 ≤ b ∧ b < M 5 j 0 3) (h6 : M 5 j 0 3 ≤ 20) : HT X z_X5_holdAt [.inr (.inr (some (5, j, 0))), .inl b] M (fun rr MM => rr = some (.inr (.inr (some (3, j, b)))) ∧ MM = M) := by
  refine ht_of (e := E_X5_holdAt) rfl (?_ : EvI X E_X5_holdAt (0, [some (.inr (.inr (some (5, j, 0)))), some (.inl b)], [], M) _)
  refine seg_ok 2 (?_ : EvI X E_X5_holdAt (if b < 0 then 21 else 4, [some (.inr (.inr (some (5, j, 0)))), some (.inl b)], [], M) _)
  refine ev_if (fun h1 => ?_) (fun h1 => ?_)
  · exfalso
    omega
  · refine seg_ok 4 (?_ : EvI X E_X5_holdAt (if b < (M 5 j 0 3) then 12 else 21, [some (.inr (.inr (some (5, j, 0)))), some (.inl b)], [], M) _)
    refine ev_if (fun h9 => ?_) (fun h9 => ?_)
    · refine seg_ok 5 (⟨by omega, ?_⟩ : ((0 : Int) ≤ b ∧ b < 20) ∧ EvI X E_X5_holdAt (22, [some (.inr (.inr (some (5, j, 0)))), some (.inl b)], [.inr (.inr (some (3, j, b)))], M) _)
      refine ev_rt (r := some (.inr (.inr (some (3, j, b))))) rfl (?_)
      exact ⟨rfl, rfl⟩
    · exfalso
      omega
theorem d_holdAt_f {M : NM} {j b : Int} (h : ¬ (0 ≤ b ∧ b < M 5 j 0 3)) : HT X z_X5_holdAt [.inr (.inr (some (5, j, 0))), .inl b] M (fun rr MM => rr = some (.inr (.inr none)) ∧ MM = M) := by
  refine ht_of (e := E_X5_holdAt) rfl (?_ : EvI X E_X5_holdAt (0, [some (.inr (.inr (some (5, j, 0)))), some (.inl b)], [], M) _)
  refine seg_ok 2 (?_ : EvI X E_X5_holdAt (if b < 0 then 21 else 4, [some (.inr (.inr (some (5, j, 0)))), some (.inl b)], [], M) _)
  refine ev_if (fun h1 => ?_) (fun h1 => ?_)
  · refine seg_ok 1 (?_ : EvI X E_X5_holdAt (22, [some (.inr (.inr (some (5, j, 0)))), some (.inl b)], [.inr (.inr none)], M) _)
    refine ev_rt (r := some (.inr (.inr none))) rfl (?_)
    exact ⟨rfl, rfl⟩
  · refine seg_ok 4 (?_ : EvI X E_X5_holdAt (if b < (M 5 j 0 3) then 12 else 21, [some (.inr (.inr (some (5, j, 0)))), some (.inl b)], [], M) _)
    refine ev_if (fun h9 => ?_) (fun h9 => ?_)
    · exfalso
      omega
    · refine seg_ok 1 (?_ : EvI X E_X5_holdAt (22, [some (.inr (.inr (some (5, j, 0)))), some (.inl b)], [.inr (.inr none)], M) _)
      refine ev_rt (r := some (.inr (.inr none))) rfl (?_)
      exact ⟨rfl, rfl⟩
theorem d_isWait {M : NM} {n : Int} : HT X z_X5_isWait [.inl n] M (fun rr MM => rr = some (.inl (bi (1 ≤ n ∧ n ≤ 999))) ∧ MM = M) := by
  refine ht_of (e := E_X5_isWait) rfl (?_ : EvI X E_X5_isWait (0, [some (.inl n)], [], M) _)
  refine seg_ok 3 (?_ : EvI X E_X5_isWait (if n < 1 then 16 else 5, [some (.inl n)], [], M) _)
  refine ev_if (fun h2 => ?_) (fun h2 => ?_)
  · refine seg_ok 1 (?_ : EvI X E_X5_isWait (17, [some (.inl n)], [.inl 0], M) _)
    refine ev_rt (r := some (.inl 0)) rfl (⟨by decide, ?_⟩)
    exact ⟨rint (is0 (by omega)), rfl⟩
  · refine seg_ok 3 (?_ : EvI X E_X5_isWait (if 999 < n then 16 else 12, [some (.inl n)], [], M) _)
    refine ev_if (fun h9 => ?_) (fun h9 => ?_)
    · refine seg_ok 1 (?_ : EvI X E_X5_isWait (17, [some (.inl n)], [.inl 0], M) _)
      refine ev_rt (r := some (.inl 0)) rfl (⟨by decide, ?_⟩)
      exact ⟨rint (is0 (by omega)), rfl⟩
    · refine seg_ok 2 (?_ : EvI X E_X5_isWait (17, [some (.inl n)], [.inl 1], M) _)
      refine ev_rt (r := some (.inl 1)) rfl (⟨by decide, ?_⟩)
      exact ⟨rint (is1 (by omega)), rfl⟩
set_option maxRecDepth 2070 in
theorem d_nextMover {m : Int} {M : NM} {j : Int} (hI : Inv m (sl M j)) {b : Int} (h1 : 0 ≤ b ∧ b < M 1 j 0 3) : HT X z_X5_nextMover [.inr (.inr (some (5, j, 0))), .inl b] M (fun rr MM => rr = some (.inl (ff (fun t => M 6 j t 0 = 0 ∧ M 6 j t 2 ≤ gN (sl M j) b 10 ∧ rk (sl M j) (M 6 j t 1 / 100) < rk (sl M j) b) (M 5 j 0 4).toNat 0)) ∧ MM = M) := by
  have hi := hI.1
  simp only [Iv0, sl] at hi
  refine ht_of (e := E_X5_nextMover) rfl (?_ : EvI X E_X5_nextMover (0, [some (.inr (.inr (some (5, j, 0)))), some (.inl b), none, none, none, none, none], [], M) _)
  refine seg_ok 3 (?_ : EvI X E_X5_nextMover (5, [some (.inr (.inr (some (5, j, 0)))), some (.inl b), none, none, none, none, none], [.inl b, .inr (.inr (some (1, j, 0)))], M) _)
  refine ev_clp (v := .inl (rk (sl M j) b)) (z := z_X1_rankOf) (as := [.inr (.inr (some (1, j, 0))), .inl b]) (rest := []) rfl (d_rankOf hI (by omega)) (?_ : EvI X E_X5_nextMover (8, [some (.inr (.inr (some (5, j, 0)))), some (.inl b), none, none, none, none, none], [.inl (rk (sl M j) b)], M) _)
  refine seg_ok 4 (?_ : EvI X E_X5_nextMover (14, [some (.inr (.inr (some (5, j, 0)))), some (.inl b), some (.inl (rk (sl M j) b)), none, none, none, none], [.inl b, .inr (.inr (some (1, j, 0)))], M) _)
  refine ev_clp (v := .inl (gN (sl M j) b 10)) (z := z_X1_greatestGroup) (as := [.inr (.inr (some (1, j, 0))), .inl b]) (rest := []) rfl (d_greatestGroup hI (by omega)) (?_ : EvI X E_X5_nextMover (17, [some (.inr (.inr (some (5, j, 0)))), some (.inl b), some (.inl (rk (sl M j) b)), none, none, none, none], [.inl (gN (sl M j) b 10)], M) _)
  refine seg_ok 3 (?_ : EvI X E_X5_nextMover (21, [some (.inr (.inr (some (5, j, 0)))), some (.inl b), some (.inl (rk (sl M j) b)), some (.inl (gN (sl M j) b 10)), some (.inl 0), none, none], [], M) _)
  have L21 : ∀ (m21 : Nat) (t : Int) (d21_5 d21_6 : Option U), M 5 j 0 4 - t < (m21 : Int) → (0 ≤ t) → (t ≤ M 5 j 0 4) → (ff (fun t => M 6 j t 0 = 0 ∧ M 6 j t 2 ≤ gN (sl M j) b 10 ∧ rk (sl M j) (M 6 j t 1 / 100) < rk (sl M j) b) (M 5 j 0 4).toNat 0 = ff (fun t => M 6 j t 0 = 0 ∧ M 6 j t 2 ≤ gN (sl M j) b 10 ∧ rk (sl M j) (M 6 j t 1 / 100) < rk (sl M j) b) (M 5 j 0 4 - t).toNat t) → EvI X E_X5_nextMover (21, [some (.inr (.inr (some (5, j, 0)))), some (.inl b), some (.inl (rk (sl M j) b)), some (.inl (gN (sl M j) b 10)), some (.inl t), d21_5, d21_6], [], M) (fun rr MM => rr = some (.inl (ff (fun t => M 6 j t 0 = 0 ∧ M 6 j t 2 ≤ gN (sl M j) b 10 ∧ rk (sl M j) (M 6 j t 1 / 100) < rk (sl M j) b) (M 5 j 0 4).toNat 0)) ∧ MM = M) := by
    intro m21
    induction m21 with
    | zero => intro t d21_5 d21_6 hm21 q1 q2 q3; exact absurd hm21 (by omega)
    | succ m21 ih21 =>
      intro t d21_5 d21_6 hm21 q1 q2 q3
      refine seg_ok 4 (?_ : EvI X E_X5_nextMover (if t < (M 5 j 0 4) then 30 else 96, [some (.inr (.inr (some (5, j, 0)))), some (.inl b), some (.inl (rk (sl M j) b)), some (.inl (gN (sl M j) b 10)), some (.inl t), d21_5, d21_6], [], M) _)
      refine ev_if (fun h27 => ?_) (fun h27 => ?_)
      · have ht := hI.2.2.2.2.1 t q1 h27
        simp only [HO, sl] at ht
        obtain ⟨⟨hf0, hf1, hf2, hf3, -, -⟩, -⟩ := ht
        refine seg_ok 8 (⟨by omega, ?_⟩ : ((0 : Int) ≤ t ∧ t < 20) ∧ EvI X E_X5_nextMover (if (M 6 j t 0) = 0 then 47 else 60, [some (.inr (.inr (some (5, j, 0)))), some (.inl b), some (.inl (rk (sl M j) b)), some (.inl (gN (sl M j) b 10)), some (.inl t), some (.inr (.inr (some (6, j, t)))), d21_6], [], M) _)
        refine ev_if (fun h44 => ?_) (fun h44 => ?_)
        · refine seg_ok 4 (?_ : EvI X E_X5_nextMover (if (gN (sl M j) b 10) < (M 6 j t 2) then 60 else 56, [some (.inr (.inr (some (5, j, 0)))), some (.inl b), some (.inl (rk (sl M j) b)), some (.inl (gN (sl M j) b 10)), some (.inl t), some (.inr (.inr (some (6, j, t)))), d21_6], [], M) _)
          refine ev_if (fun h53 => ?_) (fun h53 => ?_)
          · refine seg_ok 6 (⟨by omega, ?_⟩ : ((-2147483648 : Int) ≤ (t + 1) ∧ (t + 1) < 2147483648) ∧ EvI X E_X5_nextMover (21, [some (.inr (.inr (some (5, j, 0)))), some (.inl b), some (.inl (rk (sl M j) b)), some (.inl (gN (sl M j) b 10)), some (.inl (t + 1)), some (.inr (.inr (some (6, j, t)))), some (.inl 0)], [], M) _)
            refine ih21 (t + 1) (some (.inr (.inr (some (6, j, t))))) (some (.inl 0)) (by omega) (by omega) (by omega) (q3.trans (by rw [ff_step (show t < M 5 j 0 4 by omega)]; exact cif_f (fun z => absurd z.2.1 (by omega))))
          · refine seg_ok 11 (⟨by omega, ?_⟩ : ((0 : Int) ≤ (M 6 j t 1) ∧ (0 : Int) < 100) ∧ EvI X E_X5_nextMover (80, [some (.inr (.inr (some (5, j, 0)))), some (.inl b), some (.inl (rk (sl M j) b)), some (.inl (gN (sl M j) b 10)), some (.inl t), some (.inr (.inr (some (6, j, t)))), some (.inl 1)], [.inl ((M 6 j t 1) / 100), .inr (.inr (some (1, j, 0)))], M) _)
            refine ev_clp (v := .inl (rk (sl M j) ((M 6 j t 1) / 100))) (z := z_X1_rankOf) (as := [.inr (.inr (some (1, j, 0))), .inl ((M 6 j t 1) / 100)]) (rest := []) rfl (d_rankOf hI (by omega)) (?_ : EvI X E_X5_nextMover (83, [some (.inr (.inr (some (5, j, 0)))), some (.inl b), some (.inl (rk (sl M j) b)), some (.inl (gN (sl M j) b 10)), some (.inl t), some (.inr (.inr (some (6, j, t)))), some (.inl 1)], [.inl (rk (sl M j) ((M 6 j t 1) / 100))], M) _)
            refine seg_ok 2 (?_ : EvI X E_X5_nextMover (if (rk (sl M j) ((M 6 j t 1) / 100)) < (rk (sl M j) b) then 87 else 90, [some (.inr (.inr (some (5, j, 0)))), some (.inl b), some (.inl (rk (sl M j) b)), some (.inl (gN (sl M j) b 10)), some (.inl t), some (.inr (.inr (some (6, j, t)))), some (.inl 1)], [], M) _)
            refine ev_if (fun h84 => ?_) (fun h84 => ?_)
            · refine seg_ok 1 (?_ : EvI X E_X5_nextMover (89, [some (.inr (.inr (some (5, j, 0)))), some (.inl b), some (.inl (rk (sl M j) b)), some (.inl (gN (sl M j) b 10)), some (.inl t), some (.inr (.inr (some (6, j, t)))), some (.inl 1)], [.inl t], M) _)
              refine ev_rt (r := some (.inl t)) rfl (?_)
              exact ⟨rint (by rw [q3, ff_step (show t < M 5 j 0 4 by omega)]; exact (cif_t ⟨h44, by omega, h84⟩).symm), rfl⟩
            · refine seg_ok 2 (⟨by omega, ?_⟩ : ((-2147483648 : Int) ≤ (t + 1) ∧ (t + 1) < 2147483648) ∧ EvI X E_X5_nextMover (21, [some (.inr (.inr (some (5, j, 0)))), some (.inl b), some (.inl (rk (sl M j) b)), some (.inl (gN (sl M j) b 10)), some (.inl (t + 1)), some (.inr (.inr (some (6, j, t)))), some (.inl 1)], [], M) _)
              refine ih21 (t + 1) (some (.inr (.inr (some (6, j, t))))) (some (.inl 1)) (by omega) (by omega) (by omega) (q3.trans (by rw [ff_step (show t < M 5 j 0 4 by omega)]; exact cif_f (fun z => h84 z.2.2)))
        · refine seg_ok 6 (⟨by omega, ?_⟩ : ((-2147483648 : Int) ≤ (t + 1) ∧ (t + 1) < 2147483648) ∧ EvI X E_X5_nextMover (21, [some (.inr (.inr (some (5, j, 0)))), some (.inl b), some (.inl (rk (sl M j) b)), some (.inl (gN (sl M j) b 10)), some (.inl (t + 1)), some (.inr (.inr (some (6, j, t)))), some (.inl 0)], [], M) _)
          refine ih21 (t + 1) (some (.inr (.inr (some (6, j, t))))) (some (.inl 0)) (by omega) (by omega) (by omega) (q3.trans (by rw [ff_step (show t < M 5 j 0 4 by omega)]; exact cif_f (fun z => h44 z.1)))
      · refine seg_ok 1 (?_ : EvI X E_X5_nextMover (98, [some (.inr (.inr (some (5, j, 0)))), some (.inl b), some (.inl (rk (sl M j) b)), some (.inl (gN (sl M j) b 10)), some (.inl t), d21_5, d21_6], [.inl (-9)], M) _)
        refine ev_rt (r := some (.inl (-9))) rfl (?_)
        exact ⟨rint (by rw [q3, ff_end (show ¬ t < M 5 j 0 4 by omega)]), rfl⟩
  refine L21 ((M 5 j 0 4 - 0) + 1 : Int).toNat 0 none none (by omega) (by omega) (by omega) (by rw [Int.sub_zero])
theorem d_openHolds {m : Int} {M : NM} {j : Int} (hI : Inv m (sl M j))  : HT X z_X5_openHolds [.inr (.inr (some (5, j, 0)))] M (fun rr MM => rr = some (.inl (sm (fun k => bi (M 3 j k 0 = 0)) (M 5 j 0 3).toNat)) ∧ MM = M) := by
  have hi := hI.1
  simp only [Iv0, sl] at hi
  refine ht_of (e := E_X5_openHolds) rfl (?_ : EvI X E_X5_openHolds (0, [some (.inr (.inr (some (5, j, 0)))), none, none], [], M) _)
  refine seg_ok 4 (?_ : EvI X E_X5_openHolds (4, [some (.inr (.inr (some (5, j, 0)))), some (.inl 0), some (.inl 0)], [], M) _)
  have L4 : ∀ (m4 : Nat) (n k : Int), M 5 j 0 3 - k < (m4 : Int) → (0 ≤ k) → (k ≤ M 5 j 0 3) → (n = sm (fun k => bi (M 3 j k 0 = 0)) k.toNat) → EvI X E_X5_openHolds (4, [some (.inr (.inr (some (5, j, 0)))), some (.inl n), some (.inl k)], [], M) (fun rr MM => rr = some (.inl (sm (fun k => bi (M 3 j k 0 = 0)) (M 5 j 0 3).toNat)) ∧ MM = M) := by
    intro m4
    induction m4 with
    | zero => intro n k hm4 q1 q2 q3; exact absurd hm4 (by omega)
    | succ m4 ih4 =>
      intro n k hm4 q1 q2 q3
      subst q3
      have g := smb_bnd (fun k => M 3 j k 0 = 0) k.toNat
      refine seg_ok 4 (?_ : EvI X E_X5_openHolds (if k < (M 5 j 0 3) then 12 else 33, [some (.inr (.inr (some (5, j, 0)))), some (.inl (sm (fun k => bi (M 3 j k 0 = 0)) k.toNat)), some (.inl k)], [], M) _)
      refine ev_if (fun h9 => ?_) (fun h9 => ?_)
      · refine seg_ok 6 (⟨by omega, ?_⟩ : ((0 : Int) ≤ k ∧ k < 20) ∧ EvI X E_X5_openHolds (if (M 3 j k 0) = 0 then 24 else 27, [some (.inr (.inr (some (5, j, 0)))), some (.inl (sm (fun k => bi (M 3 j k 0 = 0)) k.toNat)), some (.inl k)], [], M) _)
        refine ev_if (fun h21 => ?_) (fun h21 => ?_)
        · refine seg_ok 3 (⟨by omega, by omega, ?_⟩ : ((-2147483648 : Int) ≤ ((sm (fun k => bi (M 3 j k 0 = 0)) k.toNat) + 1) ∧ ((sm (fun k => bi (M 3 j k 0 = 0)) k.toNat) + 1) < 2147483648) ∧ ((-2147483648 : Int) ≤ (k + 1) ∧ (k + 1) < 2147483648) ∧ EvI X E_X5_openHolds (4, [some (.inr (.inr (some (5, j, 0)))), some (.inl ((sm (fun k => bi (M 3 j k 0 = 0)) k.toNat) + 1)), some (.inl (k + 1))], [], M) _)
          refine ih4 ((sm (fun k => bi (M 3 j k 0 = 0)) k.toNat) + 1) (k + 1) (by omega) (by omega) (by omega) (by rw [sm_step q1]; exact acc0 (is1 h21))
        · refine seg_ok 2 (⟨by omega, ?_⟩ : ((-2147483648 : Int) ≤ (k + 1) ∧ (k + 1) < 2147483648) ∧ EvI X E_X5_openHolds (4, [some (.inr (.inr (some (5, j, 0)))), some (.inl (sm (fun k => bi (M 3 j k 0 = 0)) k.toNat)), some (.inl (k + 1))], [], M) _)
          refine ih4 (sm (fun k => bi (M 3 j k 0 = 0)) k.toNat) (k + 1) (by omega) (by omega) (by omega) (by rw [sm_step q1, bi_f h21, Int.add_zero])
      · refine seg_ok 1 (?_ : EvI X E_X5_openHolds (34, [some (.inr (.inr (some (5, j, 0)))), some (.inl (sm (fun k => bi (M 3 j k 0 = 0)) k.toNat)), some (.inl k)], [.inl (sm (fun k => bi (M 3 j k 0 = 0)) k.toNat)], M) _)
        refine ev_rt (r := some (.inl (sm (fun k => bi (M 3 j k 0 = 0)) k.toNat))) rfl (?_)
        exact ⟨rint (by rw [show k = M 5 j 0 3 by omega]), rfl⟩
  refine L4 ((M 5 j 0 3 - 0) + 1 : Int).toNat 0 0 (by omega) (by omega) (by omega) rfl
theorem d_ticketsThatAre {m : Int} {M : NM} {j : Int} (hI : Inv m (sl M j)) {w : Int} : HT X z_X5_ticketsThatAre [.inr (.inr (some (5, j, 0))), .inl w] M (fun rr MM => rr = some (.inl (sm (fun k => bi (M 6 j k 0 = w)) (M 5 j 0 4).toNat)) ∧ MM = M) := by
  have hi := hI.1
  simp only [Iv0, sl] at hi
  refine ht_of (e := E_X5_ticketsThatAre) rfl (?_ : EvI X E_X5_ticketsThatAre (0, [some (.inr (.inr (some (5, j, 0)))), some (.inl w), none, none], [], M) _)
  refine seg_ok 4 (?_ : EvI X E_X5_ticketsThatAre (4, [some (.inr (.inr (some (5, j, 0)))), some (.inl w), some (.inl 0), some (.inl 0)], [], M) _)
  have L4 : ∀ (m4 : Nat) (n k : Int), M 5 j 0 4 - k < (m4 : Int) → (0 ≤ k) → (k ≤ M 5 j 0 4) → (n = sm (fun k => bi (M 6 j k 0 = w)) k.toNat) → EvI X E_X5_ticketsThatAre (4, [some (.inr (.inr (some (5, j, 0)))), some (.inl w), some (.inl n), some (.inl k)], [], M) (fun rr MM => rr = some (.inl (sm (fun k => bi (M 6 j k 0 = w)) (M 5 j 0 4).toNat)) ∧ MM = M) := by
    intro m4
    induction m4 with
    | zero => intro n k hm4 q1 q2 q3; exact absurd hm4 (by omega)
    | succ m4 ih4 =>
      intro n k hm4 q1 q2 q3
      subst q3
      have g := smb_bnd (fun k => M 6 j k 0 = w) k.toNat
      refine seg_ok 4 (?_ : EvI X E_X5_ticketsThatAre (if k < (M 5 j 0 4) then 12 else 34, [some (.inr (.inr (some (5, j, 0)))), some (.inl w), some (.inl (sm (fun k => bi (M 6 j k 0 = w)) k.toNat)), some (.inl k)], [], M) _)
      refine ev_if (fun h9 => ?_) (fun h9 => ?_)
      · refine seg_ok 7 (⟨by omega, ?_⟩ : ((0 : Int) ≤ k ∧ k < 20) ∧ EvI X E_X5_ticketsThatAre (if (M 6 j k 0) = w then 25 else 28, [some (.inr (.inr (some (5, j, 0)))), some (.inl w), some (.inl (sm (fun k => bi (M 6 j k 0 = w)) k.toNat)), some (.inl k)], [], M) _)
        refine ev_if (fun h22 => ?_) (fun h22 => ?_)
        · refine seg_ok 3 (⟨by omega, by omega, ?_⟩ : ((-2147483648 : Int) ≤ ((sm (fun k => bi (M 6 j k 0 = w)) k.toNat) + 1) ∧ ((sm (fun k => bi (M 6 j k 0 = w)) k.toNat) + 1) < 2147483648) ∧ ((-2147483648 : Int) ≤ (k + 1) ∧ (k + 1) < 2147483648) ∧ EvI X E_X5_ticketsThatAre (4, [some (.inr (.inr (some (5, j, 0)))), some (.inl w), some (.inl ((sm (fun k => bi (M 6 j k 0 = w)) k.toNat) + 1)), some (.inl (k + 1))], [], M) _)
          refine ih4 ((sm (fun k => bi (M 6 j k 0 = w)) k.toNat) + 1) (k + 1) (by omega) (by omega) (by omega) (by rw [sm_step q1]; exact acc0 (is1 h22))
        · refine seg_ok 2 (⟨by omega, ?_⟩ : ((-2147483648 : Int) ≤ (k + 1) ∧ (k + 1) < 2147483648) ∧ EvI X E_X5_ticketsThatAre (4, [some (.inr (.inr (some (5, j, 0)))), some (.inl w), some (.inl (sm (fun k => bi (M 6 j k 0 = w)) k.toNat)), some (.inl (k + 1))], [], M) _)
          refine ih4 (sm (fun k => bi (M 6 j k 0 = w)) k.toNat) (k + 1) (by omega) (by omega) (by omega) (by rw [sm_step q1, bi_f h22, Int.add_zero])
      · refine seg_ok 1 (?_ : EvI X E_X5_ticketsThatAre (35, [some (.inr (.inr (some (5, j, 0)))), some (.inl w), some (.inl (sm (fun k => bi (M 6 j k 0 = w)) k.toNat)), some (.inl k)], [.inl (sm (fun k => bi (M 6 j k 0 = w)) k.toNat)], M) _)
        refine ev_rt (r := some (.inl (sm (fun k => bi (M 6 j k 0 = w)) k.toNat))) rfl (?_)
        exact ⟨rint (by rw [show k = M 5 j 0 4 by omega]), rfl⟩
  refine L4 ((M 5 j 0 4 - 0) + 1 : Int).toNat 0 0 (by omega) (by omega) (by omega) rfl
theorem d_minutesToExpiry {m : Int} {M : NM} {j : Int} (hI : Inv m (sl M j))  : HT X z_X5_minutesToExpiry [.inr (.inr (some (5, j, 0)))] M (fun rr MM => rr = some (.inl (neN (sl M j) (M 5 j 0 3).toNat)) ∧ MM = M) := by
  have hi := hI.1
  simp only [Iv0, sl] at hi
  refine ht_of (e := E_X5_minutesToExpiry) rfl (?_ : EvI X E_X5_minutesToExpiry (0, [some (.inr (.inr (some (5, j, 0)))), none, none, none], [], M) _)
  refine seg_ok 4 (?_ : EvI X E_X5_minutesToExpiry (5, [some (.inr (.inr (some (5, j, 0)))), some (.inl (-9)), some (.inl 0), none], [], M) _)
  have L5 : ∀ (m5 : Nat) (u h : Int) (d5_3 : Option U), M 5 j 0 3 - h < (m5 : Int) → (0 ≤ h) → (h ≤ M 5 j 0 3) → (u = neN (sl M j) h.toNat) → EvI X E_X5_minutesToExpiry (5, [some (.inr (.inr (some (5, j, 0)))), some (.inl u), some (.inl h), d5_3], [], M) (fun rr MM => rr = some (.inl (neN (sl M j) (M 5 j 0 3).toNat)) ∧ MM = M) := by
    intro m5
    induction m5 with
    | zero => intro u h d5_3 hm5 q1 q2 q3; exact absurd hm5 (by omega)
    | succ m5 ih5 =>
      intro u h d5_3 hm5 q1 q2 q3
      subst q3
      refine seg_ok 4 (?_ : EvI X E_X5_minutesToExpiry (if h < (M 5 j 0 3) then 13 else 59, [some (.inr (.inr (some (5, j, 0)))), some (.inl (neN (sl M j) h.toNat)), some (.inl h), d5_3], [], M) _)
      refine ev_if (fun h10 => ?_) (fun h10 => ?_)
      · have ht := hI.2.2.2.1 h q1 h10
        simp only [sl] at ht
        refine seg_ok 15 (⟨by omega, by omega, by omega, ?_⟩ : ((0 : Int) ≤ h ∧ h < 20) ∧ ((-2147483648 : Int) ≤ ((M 3 j h 3) - (M 5 j 0 5)) ∧ ((M 3 j h 3) - (M 5 j 0 5)) < 2147483648) ∧ ((0 : Int) ≤ h ∧ h < 20) ∧ EvI X E_X5_minutesToExpiry (if (M 3 j h 0) = 0 then 40 else 53, [some (.inr (.inr (some (5, j, 0)))), some (.inl (neN (sl M j) h.toNat)), some (.inl h), some (.inl ((M 3 j h 3) - (M 5 j 0 5)))], [], M) _)
        refine ev_if (fun h37 => ?_) (fun h37 => ?_)
        · refine seg_ok 3 (?_ : EvI X E_X5_minutesToExpiry (if (neN (sl M j) h.toNat) = (-9) then 51 else 46, [some (.inr (.inr (some (5, j, 0)))), some (.inl (neN (sl M j) h.toNat)), some (.inl h), some (.inl ((M 3 j h 3) - (M 5 j 0 5)))], [], M) _)
          refine ev_if (fun h43 => ?_) (fun h43 => ?_)
          · refine seg_ok 4 (⟨by omega, ?_⟩ : ((-2147483648 : Int) ≤ (h + 1) ∧ (h + 1) < 2147483648) ∧ EvI X E_X5_minutesToExpiry (5, [some (.inr (.inr (some (5, j, 0)))), some (.inl ((M 3 j h 3) - (M 5 j 0 5))), some (.inl (h + 1)), some (.inl ((M 3 j h 3) - (M 5 j 0 5)))], [], M) _)
            refine ih5 ((M 3 j h 3) - (M 5 j 0 5)) (h + 1) (some (.inl ((M 3 j h 3) - (M 5 j 0 5)))) (by omega) (by omega) (by omega) (by rw [neN_step q1]; exact (cA_t h37 (Or.inl h43)).symm)
          · refine seg_ok 3 (?_ : EvI X E_X5_minutesToExpiry (if ((M 3 j h 3) - (M 5 j 0 5)) < (neN (sl M j) h.toNat) then 51 else 53, [some (.inr (.inr (some (5, j, 0)))), some (.inl (neN (sl M j) h.toNat)), some (.inl h), some (.inl ((M 3 j h 3) - (M 5 j 0 5)))], [], M) _)
            refine ev_if (fun h48 => ?_) (fun h48 => ?_)
            · refine seg_ok 4 (⟨by omega, ?_⟩ : ((-2147483648 : Int) ≤ (h + 1) ∧ (h + 1) < 2147483648) ∧ EvI X E_X5_minutesToExpiry (5, [some (.inr (.inr (some (5, j, 0)))), some (.inl ((M 3 j h 3) - (M 5 j 0 5))), some (.inl (h + 1)), some (.inl ((M 3 j h 3) - (M 5 j 0 5)))], [], M) _)
              refine ih5 ((M 3 j h 3) - (M 5 j 0 5)) (h + 1) (some (.inl ((M 3 j h 3) - (M 5 j 0 5)))) (by omega) (by omega) (by omega) (by rw [neN_step q1]; exact (cA_t h37 (Or.inr h48)).symm)
            · refine seg_ok 2 (⟨by omega, ?_⟩ : ((-2147483648 : Int) ≤ (h + 1) ∧ (h + 1) < 2147483648) ∧ EvI X E_X5_minutesToExpiry (5, [some (.inr (.inr (some (5, j, 0)))), some (.inl (neN (sl M j) h.toNat)), some (.inl (h + 1)), some (.inl ((M 3 j h 3) - (M 5 j 0 5)))], [], M) _)
              refine ih5 (neN (sl M j) h.toNat) (h + 1) (some (.inl ((M 3 j h 3) - (M 5 j 0 5)))) (by omega) (by omega) (by omega) (by rw [neN_step q1]; exact (cA_2 (fun z => z.elim h43 h48)).symm)
        · refine seg_ok 2 (⟨by omega, ?_⟩ : ((-2147483648 : Int) ≤ (h + 1) ∧ (h + 1) < 2147483648) ∧ EvI X E_X5_minutesToExpiry (5, [some (.inr (.inr (some (5, j, 0)))), some (.inl (neN (sl M j) h.toNat)), some (.inl (h + 1)), some (.inl ((M 3 j h 3) - (M 5 j 0 5)))], [], M) _)
          refine ih5 (neN (sl M j) h.toNat) (h + 1) (some (.inl ((M 3 j h 3) - (M 5 j 0 5)))) (by omega) (by omega) (by omega) (by rw [neN_step q1]; exact (cA_1 h37).symm)
      · refine seg_ok 1 (?_ : EvI X E_X5_minutesToExpiry (60, [some (.inr (.inr (some (5, j, 0)))), some (.inl (neN (sl M j) h.toNat)), some (.inl h), d5_3], [.inl (neN (sl M j) h.toNat)], M) _)
        refine ev_rt (r := some (.inl (neN (sl M j) h.toNat))) rfl (?_)
        exact ⟨rint (by rw [show h = M 5 j 0 3 by omega]), rfl⟩
  refine L5 ((M 5 j 0 3 - 0) + 1 : Int).toNat (-9) 0 none (by omega) (by omega) (by omega) rfl
theorem d_holdFigure {m : Int} {M : NM} {j : Int} (hI : Inv m (sl M j)) {b w : Int} : HT X z_X5_holdFigure [.inr (.inr (some (5, j, 0))), .inl b, .inl w] M (fun rr MM => rr = some (.inl (cif ((0 ≤ b ∧ b < M 5 j 0 3) ∧ (0 ≤ w ∧ w ≤ 4)) (M 3 j b w) (-1))) ∧ MM = M) := by
  have hi := hI.1
  simp only [Iv0, sl] at hi
  refine ht_of (e := E_X5_holdFigure) rfl (?_ : EvI X E_X5_holdFigure (0, [some (.inr (.inr (some (5, j, 0)))), some (.inl b), some (.inl w), none], [], M) _)
  refine seg_ok 2 (?_ : EvI X E_X5_holdFigure (2, [some (.inr (.inr (some (5, j, 0)))), some (.inl b), some (.inl w), none], [.inl b, .inr (.inr (some (5, j, 0)))], M) _)
  by_cases hb : 0 ≤ b ∧ b < M 5 j 0 3
  · refine ev_clp (v := .inr (.inr (some (3, j, b)))) (z := z_X5_holdAt) (as := [.inr (.inr (some (5, j, 0))), .inl b]) (rest := []) rfl (d_holdAt_t hb (by omega)) (?_ : EvI X E_X5_holdFigure (5, [some (.inr (.inr (some (5, j, 0)))), some (.inl b), some (.inl w), none], [.inr (.inr (some (3, j, b)))], M) _)
    refine seg_ok 5 (?_ : EvI X E_X5_holdFigure (if w = 0 then 48 else if w = 1 then 53 else if w = 2 then 58 else if w = 3 then 63 else if w = 4 then 68 else 73, [some (.inr (.inr (some (5, j, 0)))), some (.inl b), some (.inl w), some (.inr (.inr (some (3, j, b))))], [], M) _)
    refine ev_if (fun h13 => ?_) (fun h13_0 => ?_)
    · refine seg_ok 2 (?_ : EvI X E_X5_holdFigure (52, [some (.inr (.inr (some (5, j, 0)))), some (.inl b), some (.inl w), some (.inr (.inr (some (3, j, b))))], [.inl (M 3 j b 0)], M) _)
      refine ev_rt (r := some (.inl (M 3 j b 0))) rfl (?_)
      exact ⟨rint (by rw [h13]; exact (cA_t hb (by omega)).symm), rfl⟩
    refine ev_if (fun h13 => ?_) (fun h13_1 => ?_)
    · refine seg_ok 2 (?_ : EvI X E_X5_holdFigure (57, [some (.inr (.inr (some (5, j, 0)))), some (.inl b), some (.inl w), some (.inr (.inr (some (3, j, b))))], [.inl (M 3 j b 1)], M) _)
      refine ev_rt (r := some (.inl (M 3 j b 1))) rfl (?_)
      exact ⟨rint (by rw [h13]; exact (cA_t hb (by omega)).symm), rfl⟩
    refine ev_if (fun h13 => ?_) (fun h13_2 => ?_)
    · refine seg_ok 2 (?_ : EvI X E_X5_holdFigure (62, [some (.inr (.inr (some (5, j, 0)))), some (.inl b), some (.inl w), some (.inr (.inr (some (3, j, b))))], [.inl (M 3 j b 2)], M) _)
      refine ev_rt (r := some (.inl (M 3 j b 2))) rfl (?_)
      exact ⟨rint (by rw [h13]; exact (cA_t hb (by omega)).symm), rfl⟩
    refine ev_if (fun h13 => ?_) (fun h13_3 => ?_)
    · refine seg_ok 2 (?_ : EvI X E_X5_holdFigure (67, [some (.inr (.inr (some (5, j, 0)))), some (.inl b), some (.inl w), some (.inr (.inr (some (3, j, b))))], [.inl (M 3 j b 3)], M) _)
      refine ev_rt (r := some (.inl (M 3 j b 3))) rfl (?_)
      exact ⟨rint (by rw [h13]; exact (cA_t hb (by omega)).symm), rfl⟩
    refine ev_if (fun h13 => ?_) (fun h13_4 => ?_)
    · refine seg_ok 2 (?_ : EvI X E_X5_holdFigure (72, [some (.inr (.inr (some (5, j, 0)))), some (.inl b), some (.inl w), some (.inr (.inr (some (3, j, b))))], [.inl (M 3 j b 4)], M) _)
      refine ev_rt (r := some (.inl (M 3 j b 4))) rfl (?_)
      exact ⟨rint (by rw [h13]; exact (cA_t hb (by omega)).symm), rfl⟩
    refine seg_ok 1 (?_ : EvI X E_X5_holdFigure (74, [some (.inr (.inr (some (5, j, 0)))), some (.inl b), some (.inl w), some (.inr (.inr (some (3, j, b))))], [.inl (-1)], M) _)
    refine ev_rt (r := some (.inl (-1))) rfl (?_)
    exact ⟨rint (cA_2 (by omega)).symm, rfl⟩
  · refine ev_clp (v := .inr (.inr none)) (z := z_X5_holdAt) (as := [.inr (.inr (some (5, j, 0))), .inl b]) (rest := []) rfl (d_holdAt_f hb) (?_ : EvI X E_X5_holdFigure (5, [some (.inr (.inr (some (5, j, 0)))), some (.inl b), some (.inl w), none], [.inr (.inr none)], M) _)
    refine seg_ok 4 (?_ : EvI X E_X5_holdFigure (11, [some (.inr (.inr (some (5, j, 0)))), some (.inl b), some (.inl w), some (.inr (.inr none))], [.inl (-1)], M) _)
    refine ev_rt (r := some (.inl (-1))) rfl (?_)
    exact ⟨rint (cA_1 hb).symm, rfl⟩
theorem d_ticketFigure {m : Int} {M : NM} {j : Int} (hI : Inv m (sl M j)) {b w : Int} : HT X z_X5_ticketFigure [.inr (.inr (some (5, j, 0))), .inl b, .inl w] M (fun rr MM => rr = some (.inl (cif ((0 ≤ b ∧ b < M 5 j 0 4) ∧ (0 ≤ w ∧ w ≤ 4)) (M 6 j b w) (-1))) ∧ MM = M) := by
  have hi := hI.1
  simp only [Iv0, sl] at hi
  refine ht_of (e := E_X5_ticketFigure) rfl (?_ : EvI X E_X5_ticketFigure (0, [some (.inr (.inr (some (5, j, 0)))), some (.inl b), some (.inl w), none], [], M) _)
  refine seg_ok 2 (?_ : EvI X E_X5_ticketFigure (2, [some (.inr (.inr (some (5, j, 0)))), some (.inl b), some (.inl w), none], [.inl b, .inr (.inr (some (5, j, 0)))], M) _)
  by_cases hb : 0 ≤ b ∧ b < M 5 j 0 4
  · refine ev_clp (v := .inr (.inr (some (6, j, b)))) (z := z_X5_ticketAt) (as := [.inr (.inr (some (5, j, 0))), .inl b]) (rest := []) rfl (d_ticketAt_t hb (by omega)) (?_ : EvI X E_X5_ticketFigure (5, [some (.inr (.inr (some (5, j, 0)))), some (.inl b), some (.inl w), none], [.inr (.inr (some (6, j, b)))], M) _)
    refine seg_ok 5 (?_ : EvI X E_X5_ticketFigure (if w = 0 then 48 else if w = 1 then 53 else if w = 2 then 58 else if w = 3 then 63 else if w = 4 then 68 else 73, [some (.inr (.inr (some (5, j, 0)))), some (.inl b), some (.inl w), some (.inr (.inr (some (6, j, b))))], [], M) _)
    refine ev_if (fun h13 => ?_) (fun h13_0 => ?_)
    · refine seg_ok 2 (?_ : EvI X E_X5_ticketFigure (52, [some (.inr (.inr (some (5, j, 0)))), some (.inl b), some (.inl w), some (.inr (.inr (some (6, j, b))))], [.inl (M 6 j b 0)], M) _)
      refine ev_rt (r := some (.inl (M 6 j b 0))) rfl (?_)
      exact ⟨rint (by rw [h13]; exact (cA_t hb (by omega)).symm), rfl⟩
    refine ev_if (fun h13 => ?_) (fun h13_1 => ?_)
    · refine seg_ok 2 (?_ : EvI X E_X5_ticketFigure (57, [some (.inr (.inr (some (5, j, 0)))), some (.inl b), some (.inl w), some (.inr (.inr (some (6, j, b))))], [.inl (M 6 j b 1)], M) _)
      refine ev_rt (r := some (.inl (M 6 j b 1))) rfl (?_)
      exact ⟨rint (by rw [h13]; exact (cA_t hb (by omega)).symm), rfl⟩
    refine ev_if (fun h13 => ?_) (fun h13_2 => ?_)
    · refine seg_ok 2 (?_ : EvI X E_X5_ticketFigure (62, [some (.inr (.inr (some (5, j, 0)))), some (.inl b), some (.inl w), some (.inr (.inr (some (6, j, b))))], [.inl (M 6 j b 2)], M) _)
      refine ev_rt (r := some (.inl (M 6 j b 2))) rfl (?_)
      exact ⟨rint (by rw [h13]; exact (cA_t hb (by omega)).symm), rfl⟩
    refine ev_if (fun h13 => ?_) (fun h13_3 => ?_)
    · refine seg_ok 2 (?_ : EvI X E_X5_ticketFigure (67, [some (.inr (.inr (some (5, j, 0)))), some (.inl b), some (.inl w), some (.inr (.inr (some (6, j, b))))], [.inl (M 6 j b 3)], M) _)
      refine ev_rt (r := some (.inl (M 6 j b 3))) rfl (?_)
      exact ⟨rint (by rw [h13]; exact (cA_t hb (by omega)).symm), rfl⟩
    refine ev_if (fun h13 => ?_) (fun h13_4 => ?_)
    · refine seg_ok 2 (?_ : EvI X E_X5_ticketFigure (72, [some (.inr (.inr (some (5, j, 0)))), some (.inl b), some (.inl w), some (.inr (.inr (some (6, j, b))))], [.inl (M 6 j b 4)], M) _)
      refine ev_rt (r := some (.inl (M 6 j b 4))) rfl (?_)
      exact ⟨rint (by rw [h13]; exact (cA_t hb (by omega)).symm), rfl⟩
    refine seg_ok 1 (?_ : EvI X E_X5_ticketFigure (74, [some (.inr (.inr (some (5, j, 0)))), some (.inl b), some (.inl w), some (.inr (.inr (some (6, j, b))))], [.inl (-1)], M) _)
    refine ev_rt (r := some (.inl (-1))) rfl (?_)
    exact ⟨rint (cA_2 (by omega)).symm, rfl⟩
  · refine ev_clp (v := .inr (.inr none)) (z := z_X5_ticketAt) (as := [.inr (.inr (some (5, j, 0))), .inl b]) (rest := []) rfl (d_ticketAt_f hb) (?_ : EvI X E_X5_ticketFigure (5, [some (.inr (.inr (some (5, j, 0)))), some (.inl b), some (.inl w), none], [.inr (.inr none)], M) _)
    refine seg_ok 4 (?_ : EvI X E_X5_ticketFigure (11, [some (.inr (.inr (some (5, j, 0)))), some (.inl b), some (.inl w), some (.inr (.inr none))], [.inl (-1)], M) _)
    refine ev_rt (r := some (.inl (-1))) rfl (?_)
    exact ⟨rint (cA_1 hb).symm, rfl⟩
end
end
section
/-! 17: what holds of every stadium is kept -/
theorem bec_in {S : Sl} {f n w c : Int} (h1 : f ≤ c) (h2 : c < f + n) : bec S f n w 13 0 c = w := if_pos ⟨rfl, rfl, h1, h2⟩
theorem bec_out {S : Sl} {f n w c : Int} (h : ¬ (f ≤ c ∧ c < f + n)) : bec S f n w 13 0 c = S 13 0 c := if_neg (fun z => h z.2.2)
theorem st_eq {S : Sl} {K : Nat} {i s v : Int} : st S K i s v K i s = v := if_pos ⟨rfl, rfl, rfl⟩
theorem st_nei {S : Sl} {K : Nat} {i s v i' s' : Int} (h : i' ≠ i) : st S K i s v K i' s' = S K i' s' := if_neg (fun z => h z.2.1)
theorem st_nes {S : Sl} {K : Nat} {i s v i' s' : Int} (h : s' ≠ s) : st S K i s v K i' s' = S K i' s' := if_neg (fun z => h z.2.2)
theorem isCh_cg {S S' : Sl} (h0 : ∀ b w, S' 0 b w = S 0 b w) (h1 : S' 1 0 3 = S 1 0 3) (c : Int) : isCh S' c ↔ isCh S c := by
  unfold isCh; rw [h0, h0, h1]
theorem HO_cg {S S' : Sl} (h0 : ∀ b w, S' 0 b w = S 0 b w) (h1 : S' 1 0 3 = S 1 0 3) {f n : Int} (h : HO S f n) : HO S' f n := by
  unfold HO; rw [h0, h0, h1]; exact h
theorem kl_cg {S S' : Sl} (h5 : S' 1 0 5 = S 1 0 5) (h14 : ∀ c, S' 14 0 c = S 14 0 c) (c : Int) : kl S' c ↔ kl S c := by
  unfold kl; rw [h5, h14]
theorem HO_r {m : Int} {S : Sl} (hI : Inv m S) {f n : Int} (h : HO S f n) : (0 ≤ f ∧ f ≤ 590) ∧ (1 ≤ n ∧ n ≤ 10) := by
  obtain ⟨h0, h1, h2, h3, h4, h5⟩ := h
  have hi := hI.1.2.1
  have hb := hI.2.1 (f / 100) (by omega) h3
  omega
theorem HO_ch {m : Int} {S : Sl} (hI : Inv m S) {f n c : Int} (h : HO S f n) (h1 : f ≤ c) (h2 : c < f + n) : isCh S c := by
  obtain ⟨g0, g1, g2, g3, g4, g5⟩ := h
  have hb := hI.2.1 (f / 100) (by omega) g3
  have e1 : c / 100 = f / 100 := by omega
  have e2 : c / 10 % 10 = f / 10 % 10 := by omega
  unfold isCh
  rw [e1, e2]
  exact ⟨by omega, g3, g4, by omega⟩
theorem IvB_cg {S S' : Sl} (h : IvB S) (h0 : ∀ b w, S' 0 b w = S 0 b w) (h1 : S' 1 0 3 = S 1 0 3) : IvB S' := by
  intro b b0 b1
  rw [h0, h0, h0]
  exact h b b0 (by rw [← h1]; exact b1)
theorem IvC_bec {m : Int} {S S' : Sl} {f n w : Int} (hI : Inv m S) (h0 : ∀ b w, S' 0 b w = S 0 b w) (h1 : S' 1 0 3 = S 1 0 3) (h5 : S' 1 0 5 = S 1 0 5) (h14 : ∀ c, S' 14 0 c = S 14 0 c) (h13 : ∀ c, S' 13 0 c = bec S f n w 13 0 c) (hHO : HO S f n) (hw : 0 ≤ w ∧ w ≤ 3) (hk : w = 0 ∨ ∀ c, f ≤ c → c < f + n → ¬ kl S c) : IvC S' := by
  intro c c0 c1
  have q := hI.2.2.1 c c0 c1
  rw [h13, h14, isCh_cg h0 h1, kl_cg h5 h14]
  by_cases z : f ≤ c ∧ c < f + n
  · rw [bec_in z.1 z.2]
    exact ⟨hw, q.2.1, fun y => absurd (HO_ch hI hHO z.1 z.2) y, fun y => hk.elim id (fun k => absurd y (k c z.1 z.2))⟩
  · rw [bec_out z]; exact q
theorem IvC_same {S S' : Sl} (h : IvC S) (h0 : ∀ b w, S' 0 b w = S 0 b w) (h1 : S' 1 0 3 = S 1 0 3) (h5 : S' 1 0 5 = S 1 0 5) (h14 : ∀ c, S' 14 0 c = S 14 0 c) (h13 : ∀ c, S' 13 0 c = S 13 0 c) : IvC S' := by
  intro c c0 c1
  rw [h13, h14, isCh_cg h0 h1, kl_cg h5 h14]
  exact h c c0 c1
/-- who has chairs still has them -/
theorem IvO_keep {S S' : Sl} {K : Nat} {N N' w : Int} (h : IvO S K N w) (k : ∀ x, 0 ≤ x → x < N' → S' K x 0 = 0 → x < N ∧ S K x 0 = 0 ∧ S' K x 1 = S K x 1 ∧ S' K x 2 = S K x 2 ∧ ∀ c, S K x 1 ≤ c → c < S K x 1 + S K x 2 → S' 13 0 c = S 13 0 c) : IvO S' K N' w := by
  intro x x0 x1 x2
  obtain ⟨k1, k2, k3, k4, k5⟩ := k x x0 x1 x2
  obtain ⟨a, b⟩ := h x x0 k1 k2
  rw [k3, k4]
  refine ⟨fun c c0 c1 => by rw [k5 c c0 c1]; exact a c c0 c1, fun y y0 y1 y2 y3 => ?_⟩
  obtain ⟨l1, l2, l3, l4, l5⟩ := k y y0 y1 y2
  rw [l3, l4]
  exact b y y0 l1 l2 y3
theorem IvO_add {S S' : Sl} {K : Nat} {N w f n : Int} (h : IvO S K N w) (e1 : S' K N 1 = f) (e2 : S' K N 2 = n)
    (k : ∀ x, 0 ≤ x → x < N → S' K x 0 = 0 → S K x 0 = 0 ∧ S' K x 1 = S K x 1 ∧ S' K x 2 = S K x 2 ∧ (∀ c, S K x 1 ≤ c → c < S K x 1 + S K x 2 → ¬ (f ≤ c ∧ c < f + n)) ∧ ∀ c, S K x 1 ≤ c → c < S K x 1 + S K x 2 → S' 13 0 c = S 13 0 c) (hn : ∀ x, 0 ≤ x → x < N → S K x 0 = 0 → 1 ≤ S K x 2) (hn2 : 1 ≤ n)
    (hw : ∀ c, f ≤ c → c < f + n → S' 13 0 c = w) : IvO S' K (N + 1) w := by
  have dis : ∀ x, 0 ≤ x → x < N → S' K x 0 = 0 → S K x 1 + S K x 2 ≤ f ∨ f + n ≤ S K x 1 := by
    intro x x0 x1 x2
    obtain ⟨k1, k2, k3, k4, k5⟩ := k x x0 x1 x2
    have := hn x x0 x1 k1
    rcases Int.lt_or_le (S K x 1) f with z | z
    · rcases Int.lt_or_le f (S K x 1 + S K x 2) with y | y
      · exact absurd ⟨Int.le_refl f, by omega⟩ (k4 f (by omega) y)
      · exact Or.inl y
    · rcases Int.lt_or_le (S K x 1) (f + n) with y | y
      · exact absurd ⟨z, y⟩ (k4 (S K x 1) (Int.le_refl _) (by omega))
      · exact Or.inr y
  intro x x0 x1 x2
  by_cases q : x = N
  · subst q
    rw [e1, e2]
    refine ⟨hw, fun y y0 y1 y2 y3 => ?_⟩
    have hy : y < x := by omega
    obtain ⟨k1, k2, k3, k4, k5⟩ := k y y0 hy y2
    rw [k2, k3]
    exact (dis y y0 hy y2).symm
  · have hx : x < N := by omega
    obtain ⟨k1, k2, k3, k4, k5⟩ := k x x0 hx x2
    obtain ⟨a, b⟩ := h x x0 hx k1
    rw [k2, k3]
    refine ⟨fun c c0 c1 => by rw [k5 c c0 c1]; exact a c c0 c1, fun y y0 y1 y2 y3 => ?_⟩
    by_cases q2 : y = N
    · subst q2
      rw [e1, e2]
      exact dis x x0 hx x2
    · have hy : y < N := by omega
      obtain ⟨l1, l2, l3, l4, l5⟩ := k y y0 hy y2
      rw [l2, l3]
      exact b y y0 hy l1 y3
/-- a chair of a group that is placed -/
def pld (S : Sl) (b n f : Int) : Prop := ∃ r c, (0 ≤ r ∧ r < S 0 b 0) ∧ (0 ≤ c ∧ c < S 0 b 1) ∧ f = 100 * b + 10 * r + c ∧ are S (100 * b + 10 * r) c n
theorem plC_pld {S : Sl} {b r n : Int} (hr : 0 ≤ r ∧ r < S 0 b 0) {p : Int × Int} (hp : p.1 = -9 ∨ pld S b n p.1) : ∀ k : Nat, (k : Int) ≤ S 0 b 1 → (plC S (100 * b + 10 * r) n p k).1 = -9 ∨ pld S b n (plC S (100 * b + 10 * r) n p k).1 := by
  intro k
  induction k with
  | zero => intro _; exact hp
  | succ k ih =>
    intro hk
    rw [plC]
    by_cases h : are S (100 * b + 10 * r) k n ∧ la S (100 * b + 10 * r) k n < (plC S (100 * b + 10 * r) n p k).2
    · rw [cif_t h]; exact Or.inr ⟨r, k, hr, ⟨by omega, by omega⟩, rfl, h.1⟩
    · rw [cif_f h]; exact ih (by omega)
theorem plR_pld {S : Sl} {b n i0 : Int} (hC : 0 ≤ S 0 b 1) : ∀ k : Nat, (k : Int) ≤ S 0 b 0 → (plR S b n i0 k).1 = -9 ∨ pld S b n (plR S b n i0 k).1 := by
  intro k
  induction k with
  | zero => intro _; exact Or.inl rfl
  | succ k ih =>
    intro hk
    rw [plR]
    exact plC_pld ⟨by omega, by omega⟩ (ih (by omega)) _ (by omega)
theorem pl_pld {m : Int} {S : Sl} (hI : Inv m S) {b n : Int} (hb : 0 ≤ b ∧ b < S 1 0 3) (h : pl S b n ≠ -9) : pld S b n (pl S b n) := by
  have q := hI.2.1 b hb.1 hb.2
  rcases plR_pld (S := S) (b := b) (n := n) (i0 := 3) (by omega) (S 0 b 0).toNat (by omega) with z | z
  · exact absurd z h
  · exact z
theorem pld_HO {m : Int} {S : Sl} (hI : Inv m S) {b n f : Int} (hb : 0 ≤ b ∧ b < S 1 0 3) (hn : 1 ≤ n ∧ n ≤ 10) (h : pld S b n f) : HO S f n ∧ f / 100 = b ∧ ∀ c, f ≤ c → c < f + n → S 13 0 c = 0 ∧ ¬ kl S c := by
  obtain ⟨r, c, hr, hc, rfl, ha⟩ := h
  have q := hI.2.1 b hb.1 hb.2
  have e1 : (100 * b + 10 * r + c) / 100 = b := by omega
  have e2 : (100 * b + 10 * r + c) / 10 % 10 = r := by omega
  have e3 : (100 * b + 10 * r + c) % 10 = c := by omega
  have hl := opn_lt hb.1 hr.1 (by omega) (ha (n - 1) (by omega) (by omega))
  refine ⟨⟨by omega, hn.1, hn.2, by rw [e1]; exact hb.2, by rw [e1, e2]; exact hr.2, by rw [e1, e3]; omega⟩, e1, fun x x0 x1 => ?_⟩
  have := (ha (x - (100 * b + 10 * r + c)) (by omega) (by omega)).2
  rw [show 100 * b + 10 * r + (c + (x - (100 * b + 10 * r + c))) = x by omega] at this
  exact this.2
theorem pl_HO {m : Int} {S : Sl} (hI : Inv m S) {b n : Int} (hb : 0 ≤ b ∧ b < S 1 0 3) (hn : 1 ≤ n ∧ n ≤ 10) (h : pl S b n ≠ -9) : HO S (pl S b n) n ∧ pl S b n / 100 = b ∧ ∀ c, pl S b n ≤ c → c < pl S b n + n → S 13 0 c = 0 ∧ ¬ kl S c := pld_HO hI hb hn (pl_pld hI hb h)
theorem nT_lt {m : Int} {S : Sl} (hI : Inv m S) {x : Int} (hx : 0 ≤ x ∧ x < S 5 0 3) (h0 : S 3 x 0 = 0) : S 5 0 4 < 20 := by
  have hc := hI.2.2.2.2.2.2.2
  have hi := hI.1.2.2.2.2.1
  have e : sm (fun h => cif (h = x) 1 (bi (S 3 h 0 = 1))) (S 5 0 3).toNat = sm (fun h => bi (S 3 h 0 = 1)) (S 5 0 3).toNat - bi (S 3 x 0 = 1) + cif (x = x) 1 (bi (S 3 x 0 = 1)) := sm_upd (f := fun h => bi (S 3 h 0 = 1)) (g := fun h => cif (h = x) 1 (bi (S 3 h 0 = 1))) (k := x) (n := (S 5 0 3).toNat) hx.1 (by omega) (fun i a b c => cif_f c)
  rw [cif_t rfl] at e
  have e2 := sm_bnd (f := fun h => cif (h = x) 1 (bi (S 3 h 0 = 1))) (c := 1) (fun k => by
    by_cases q : k = x
    · rw [cif_t q]; omega
    · rw [cif_f q]; exact ⟨bi_ge _, bi_le _⟩) (S 5 0 3).toNat
  rw [bi_f (by omega : ¬ S 3 x 0 = 1)] at e
  omega
section
variable {m : Int} {S : Sl}
theorem Inv_up1 {m' : Int} (hI : Inv m S) (h : m ≤ m') (h2 : m' ≤ 62000) : Inv m' S := by
  obtain ⟨⟨a1, a2, a3, a4, a5, a6, a7, a8, a9, a10, a11⟩, b, c, d, e, f⟩ := hI
  exact ⟨⟨by omega, a2, a3, a4, a5, a6, a7, a8, by omega, by omega, by omega⟩, b, c, d, fun t t0 t1 => by
    obtain ⟨e1, e2, e3, e4⟩ := e t t0 t1
    exact ⟨e1, e2, e3, by omega⟩, f⟩
/-- holds and tickets are as before, but the chairs f .. of a group, whose owner (if any) is no longer one -/
theorem IvO_free {K : Nat} {N w : Int} {S' : Sl} {f n : Int} (h : IvO S K N w) (hs : ∀ x, 0 ≤ x → x < N → S' K x 0 = 0 → S K x 0 = 0 ∧ S' K x 1 = S K x 1 ∧ S' K x 2 = S K x 2 ∧ ∀ c, S K x 1 ≤ c → c < S K x 1 + S K x 2 → ¬ (f ≤ c ∧ c < f + n)) {v : Int} (h13 : ∀ c, S' 13 0 c = bec S f n v 13 0 c) : IvO S' K N w :=
  IvO_keep h (fun x x0 x1 x2 => by
    obtain ⟨a, b, c, d⟩ := hs x x0 x1 x2
    exact ⟨x1, a, b, c, fun c c0 c1 => by rw [h13, bec_out (d c c0 c1)]⟩)
theorem dis_of {K : Nat} {N w : Int} (h : IvO S K N w) {x y : Int} (hx : 0 ≤ x ∧ x < N) (hy : 0 ≤ y ∧ y < N) (h0 : S K x 0 = 0) (h1 : S K y 0 = 0) (hne : x ≠ y) : ∀ c, S K x 1 ≤ c → c < S K x 1 + S K x 2 → ¬ (S K y 1 ≤ c ∧ c < S K y 1 + S K y 2) := by
  intro c c0 c1 z
  have := (h x hx.1 hx.2 h0).2 y hy.1 hy.2 h1 (Ne.symm hne)
  omega
theorem dis_w {K : Nat} {N w f n : Int} (h : IvO S K N w) {x : Int} (hx : 0 ≤ x ∧ x < N) (h0 : S K x 0 = 0) (hf : ∀ c, f ≤ c → c < f + n → S 13 0 c ≠ w) : ∀ c, S K x 1 ≤ c → c < S K x 1 + S K x 2 → ¬ (f ≤ c ∧ c < f + n) := fun c c0 c1 z => hf c z.1 z.2 ((h x hx.1 hx.2 h0).1 c c0 c1)
theorem Inv_hold (hI : Inv m S) (hm : m + 1 ≤ 62000) {f n w : Int} (hw : 1 ≤ w ∧ w ≤ 999) (hHO : HO S f n) (hc : ∀ c, f ≤ c → c < f + n → S 13 0 c = 0 ∧ ¬ kl S c) (hh : S 5 0 3 < 20) : Inv (m + 1) (holdS S f n w) := by
  obtain ⟨⟨a1, a2, a3, a4, a5, a6, a7, a8, a9, a10, a11⟩, hB, hC, hH, hT, hO3, hO6, hN⟩ := hI
  have hI : Inv m S := ⟨⟨a1, a2, a3, a4, a5, a6, a7, a8, a9, a10, a11⟩, hB, hC, hH, hT, hO3, hO6, hN⟩
  have h0 : ∀ b w', holdS S f n w 0 b w' = S 0 b w' := fun _ _ => rfl
  have h1 : holdS S f n w 1 0 3 = S 1 0 3 := rfl
  have h13 : ∀ c, holdS S f n w 13 0 c = bec S f n 1 13 0 c := fun _ => rfl
  have e3 : holdS S f n w 5 0 3 = S 5 0 3 + 1 := rfl
  have e4 : holdS S f n w 5 0 4 = S 5 0 4 := rfl
  have hold_o : ∀ x s, x ≠ S 5 0 3 → holdS S f n w 3 x s = S 3 x s := fun x s q => by
    show st (st (st (st (st S 3 (S 5 0 3) 0 0) 3 (S 5 0 3) 1 f) 3 (S 5 0 3) 2 n) 3 (S 5 0 3) 3 (S 5 0 5 + w)) 3 (S 5 0 3) 4 (-9) 3 x s = _
    rw [st_nei q, st_nei q, st_nei q, st_nei q, st_nei q]
  have n0 : holdS S f n w 3 (S 5 0 3) 0 = 0 := by
    show st (st (st (st (st S 3 (S 5 0 3) 0 0) 3 (S 5 0 3) 1 f) 3 (S 5 0 3) 2 n) 3 (S 5 0 3) 3 (S 5 0 5 + w)) 3 (S 5 0 3) 4 (-9) 3 (S 5 0 3) 0 = _
    rw [st_nes (by decide), st_nes (by decide), st_nes (by decide), st_nes (by decide), st_eq]
  have n1 : holdS S f n w 3 (S 5 0 3) 1 = f := by
    show st (st (st (st (st S 3 (S 5 0 3) 0 0) 3 (S 5 0 3) 1 f) 3 (S 5 0 3) 2 n) 3 (S 5 0 3) 3 (S 5 0 5 + w)) 3 (S 5 0 3) 4 (-9) 3 (S 5 0 3) 1 = _
    rw [st_nes (by decide), st_nes (by decide), st_nes (by decide), st_eq]
  have n2 : holdS S f n w 3 (S 5 0 3) 2 = n := by
    show st (st (st (st (st S 3 (S 5 0 3) 0 0) 3 (S 5 0 3) 1 f) 3 (S 5 0 3) 2 n) 3 (S 5 0 3) 3 (S 5 0 5 + w)) 3 (S 5 0 3) 4 (-9) 3 (S 5 0 3) 2 = _
    rw [st_nes (by decide), st_nes (by decide), st_eq]
  have n3 : holdS S f n w 3 (S 5 0 3) 3 = S 5 0 5 + w := by
    show st (st (st (st (st S 3 (S 5 0 3) 0 0) 3 (S 5 0 3) 1 f) 3 (S 5 0 3) 2 n) 3 (S 5 0 3) 3 (S 5 0 5 + w)) 3 (S 5 0 3) 4 (-9) 3 (S 5 0 3) 3 = _
    rw [st_nes (by decide), st_eq]
  refine ⟨⟨by omega, a2, a3, a4, ?_, a6, a7, a8, ?_, ?_, ?_⟩, IvB_cg hB h0 h1, IvC_bec hI h0 h1 rfl (fun _ => rfl) h13 hHO (by omega) (Or.inr (fun c c0 c1 => (hc c c0 c1).2)), ?_, ?_, ?_, ?_, ?_⟩
  · rw [e3]; omega
  · show 0 ≤ S 5 0 7 ∧ S 5 0 7 ≤ 5000 * (m + 1); omega
  · show 0 ≤ S 5 0 8 ∧ S 5 0 8 ≤ 5000 * (m + 1); omega
  · show 0 ≤ S 5 0 9 ∧ S 5 0 9 ≤ 20 * (m + 1); omega
  · intro x x0 x1
    rw [e3] at x1
    by_cases q : x = S 5 0 3
    · subst q; rw [n0, n1, n2, n3]; exact ⟨HO_cg h0 h1 hHO, by omega, by omega⟩
    · rw [hold_o x 0 q, hold_o x 1 q, hold_o x 2 q, hold_o x 3 q]
      obtain ⟨p1, p2⟩ := hH x x0 (by omega)
      exact ⟨HO_cg h0 h1 p1, p2⟩
  · intro t t0 t1
    obtain ⟨p1, p2, p3, p4⟩ := hT t t0 t1
    exact ⟨HO_cg h0 h1 p1, p2, p3, show 0 ≤ S 6 t 4 ∧ S 6 t 4 ≤ 20 * (m + 1) by omega⟩
  · rw [e3]
    refine IvO_add hO3 n1 n2 (fun x x0 x1 x2 => ?_) (fun x x0 x1 _ => (hH x x0 x1).1.2.1) hHO.2.1 (fun c c0 c1 => by rw [h13, bec_in c0 c1])
    rw [hold_o x 0 (by omega)] at x2
    rw [hold_o x 1 (by omega), hold_o x 2 (by omega)]
    have dd := dis_w (f := f) (n := n) hO3 ⟨x0, x1⟩ x2 (fun c c0 c1 => by rw [(hc c c0 c1).1]; decide)
    exact ⟨x2, rfl, rfl, dd, fun c c0 c1 => by rw [h13, bec_out (dd c c0 c1)]⟩
  · rw [e4]
    refine IvO_free hO6 (fun x x0 x1 x2 => ⟨x2, rfl, rfl, dis_w hO6 ⟨x0, x1⟩ x2 (fun c c0 c1 => by rw [(hc c c0 c1).1]; decide)⟩) h13
  · rw [e3, e4, sm_step a5.1, bi_f (by rw [n0]; decide), Int.add_zero, ← hN]
    exact sm_congr (fun k k0 k1 => by rw [hold_o k 0 (by omega)])
theorem HO_t (hI : Inv m S) {t : Int} (ht : 0 ≤ t ∧ t < S 5 0 4) : HO S (S 6 t 1) (S 6 t 2) := (hI.2.2.2.2.1 t ht.1 ht.2).1
theorem HO_h (hI : Inv m S) {h : Int} (hh : 0 ≤ h ∧ h < S 5 0 3) : HO S (S 3 h 1) (S 3 h 2) := (hI.2.2.2.1 h hh.1 hh.2).1
theorem pr_r (hI : Inv m S) {f n : Int} (h : HO S f n) : 1 ≤ n * S 0 (f / 100) 2 ∧ n * S 0 (f / 100) 2 ≤ 5000 := by
  have q := hI.2.1 (f / 100) (by have := h.1; omega) h.2.2.2.1
  have h1 := h.2.1
  have h2 := h.2.2.1
  have e1 : 1 * 1 ≤ n * S 0 (f / 100) 2 := Int.mul_le_mul h1 q.2.2.1 (by omega) (by omega)
  have e2 : n * S 0 (f / 100) 2 ≤ 10 * 500 := Int.mul_le_mul h2 q.2.2.2 (by omega) (by omega)
  omega
/-- a stadium whose blocks, stages, times are as before -/
def sameB (S S' : Sl) : Prop := (∀ b w, S' 0 b w = S 0 b w) ∧ (∀ s, S' 1 0 s = S 1 0 s) ∧ (∀ c, S' 14 0 c = S 14 0 c)
theorem Inv_buy (hI : Inv m S) (hm : m + 1 ≤ 62000) {h : Int} (hh : 0 ≤ h ∧ h < S 5 0 3) (ho : S 3 h 0 = 0) : Inv (m + 1) (buyS S h) := by
  have hT20 := nT_lt hI hh ho
  have hHO := HO_h hI hh
  have hpr := pr_r hI hHO
  have hI2 := hI
  obtain ⟨⟨a1, a2, a3, a4, a5, a6, a7, a8, a9, a10, a11⟩, hB, hC, hH, hT, hO3, hO6, hN⟩ := hI2
  have h0 : ∀ b w', buyS S h 0 b w' = S 0 b w' := fun _ _ => rfl
  have h1 : buyS S h 1 0 3 = S 1 0 3 := rfl
  have h13 : ∀ c, buyS S h 13 0 c = bec S (S 3 h 1) (S 3 h 2) (cif (S 5 0 6 = 0) 2 3) 13 0 c := fun _ => rfl
  have e3 : buyS S h 5 0 3 = S 5 0 3 := rfl
  have e4 : buyS S h 5 0 4 = S 5 0 4 + 1 := rfl
  have e7 : buyS S h 5 0 7 = S 5 0 7 + S 3 h 2 * S 0 (S 3 h 1 / 100) 2 := rfl
  have b3 : ∀ x s, buyS S h 3 x s = st (st S 3 h 0 1) 3 h 4 (S 5 0 4) 3 x s := fun _ _ => rfl
  have b6 : ∀ x s, buyS S h 6 x s = st (st (st (st (st S 6 (S 5 0 4) 0 (cif (S 5 0 6 = 0) 0 2)) 6 (S 5 0 4) 1 (S 3 h 1)) 6 (S 5 0 4) 2 (S 3 h 2)) 6 (S 5 0 4) 3 (S 3 h 2 * S 0 (S 3 h 1 / 100) 2)) 6 (S 5 0 4) 4 0 6 x s := fun _ _ => rfl
  have b3h : buyS S h 3 h 0 = 1 := by rw [b3, st_nes (by decide), st_eq]
  have b3o : ∀ x s, x ≠ h → buyS S h 3 x s = S 3 x s := fun x s q => by rw [b3, st_nei q, st_nei q]
  have b3s : ∀ x s, s ≠ 0 → s ≠ 4 → buyS S h 3 x s = S 3 x s := fun x s q q2 => by rw [b3, st_nes q2, st_nes q]
  have b6o : ∀ x s, x ≠ S 5 0 4 → buyS S h 6 x s = S 6 x s := fun x s q => by rw [b6, st_nei q, st_nei q, st_nei q, st_nei q, st_nei q]
  have n0 : buyS S h 6 (S 5 0 4) 0 = cif (S 5 0 6 = 0) 0 2 := by rw [b6, st_nes (by decide), st_nes (by decide), st_nes (by decide), st_nes (by decide), st_eq]
  have n1 : buyS S h 6 (S 5 0 4) 1 = S 3 h 1 := by rw [b6, st_nes (by decide), st_nes (by decide), st_nes (by decide), st_eq]
  have n2 : buyS S h 6 (S 5 0 4) 2 = S 3 h 2 := by rw [b6, st_nes (by decide), st_nes (by decide), st_eq]
  have n3 : buyS S h 6 (S 5 0 4) 3 = S 3 h 2 * S 0 (S 3 h 1 / 100) 2 := by rw [b6, st_nes (by decide), st_eq]
  have n4 : buyS S h 6 (S 5 0 4) 4 = 0 := by rw [b6, st_eq]
  have hw1 : ∀ c, S 3 h 1 ≤ c → c < S 3 h 1 + S 3 h 2 → S 13 0 c = 1 := (hO3 h hh.1 hh.2 ho).1
  have hcr := HO_r hI hHO
  have hnk : ∀ c, S 3 h 1 ≤ c → c < S 3 h 1 + S 3 h 2 → ¬ kl S c := fun c c0 c1 z => by
    have := (hC c (by omega) (by omega)).2.2.2 z
    rw [hw1 c c0 c1] at this; omega
  have hv : (0 : Int) ≤ cif (S 5 0 6 = 0) 2 3 ∧ cif (S 5 0 6 = 0) (2 : Int) 3 ≤ 3 := by
    by_cases q : S 5 0 6 = 0
    · rw [cif_t q]; omega
    · rw [cif_f q]; omega
  refine ⟨⟨by omega, a2, a3, a4, a5, ?_, a7, a8, ?_, ?_, ?_⟩, IvB_cg hB h0 h1, IvC_bec hI h0 h1 rfl (fun _ => rfl) h13 hHO hv (Or.inr hnk), ?_, ?_, ?_, ?_, ?_⟩
  · rw [e4]; omega
  · rw [e7]; omega
  · show 0 ≤ S 5 0 8 ∧ S 5 0 8 ≤ 5000 * (m + 1); omega
  · show 0 ≤ S 5 0 9 ∧ S 5 0 9 ≤ 20 * (m + 1); omega
  · intro x x0 x1
    obtain ⟨p1, p2, p3⟩ := hH x x0 x1
    rw [b3s x 1 (by decide) (by decide), b3s x 2 (by decide) (by decide), b3s x 3 (by decide) (by decide)]
    refine ⟨HO_cg h0 h1 p1, ?_, p3⟩
    by_cases q : x = h
    · rw [q, b3h]; omega
    · rw [b3o x 0 q]; exact p2
  · intro t t0 t1
    rw [e4] at t1
    by_cases q : t = S 5 0 4
    · subst q
      rw [n0, n1, n2, n3, n4]
      refine ⟨HO_cg h0 h1 hHO, ?_, by omega, by omega⟩
      by_cases q : S 5 0 6 = 0
      · rw [cif_t q]; omega
      · rw [cif_f q]; omega
    · rw [b6o t 0 q, b6o t 1 q, b6o t 2 q, b6o t 3 q, b6o t 4 q]
      obtain ⟨p1, p2, p3, p4⟩ := hT t t0 (by omega)
      exact ⟨HO_cg h0 h1 p1, p2, p3, by omega⟩
  · rw [e3]
    refine IvO_free hO3 (fun x x0 x1 x2 => ?_) h13
    have q : x ≠ h := fun z => by rw [z, b3h] at x2; omega
    rw [b3o x 0 q] at x2
    exact ⟨x2, b3o x 1 q, b3o x 2 q, dis_of hO3 ⟨x0, x1⟩ hh x2 ho q⟩
  · rw [e4]
    by_cases hd : S 5 0 6 = 0
    · refine IvO_add hO6 n1 n2 (fun x x0 x1 x2 => ?_) (fun x x0 x1 _ => (hT x x0 x1).1.2.1) hHO.2.1 (fun c c0 c1 => by rw [h13, bec_in c0 c1, cif_t hd])
      rw [b6o x 0 (by omega)] at x2
      have dd := dis_w (f := S 3 h 1) (n := S 3 h 2) hO6 ⟨x0, x1⟩ x2 (fun c c0 c1 => by rw [hw1 c c0 c1]; decide)
      exact ⟨x2, b6o x 1 (by omega), b6o x 2 (by omega), dd, fun c c0 c1 => by rw [h13, bec_out (dd c c0 c1)]⟩
    · refine IvO_keep hO6 (fun x x0 x1 x2 => ?_)
      have q : x ≠ S 5 0 4 := fun z => by rw [z, n0, cif_f hd] at x2; omega
      rw [b6o x 0 q] at x2
      have hx : x < S 5 0 4 := by omega
      have dd := dis_w (f := S 3 h 1) (n := S 3 h 2) hO6 ⟨x0, hx⟩ x2 (fun c c0 c1 => by rw [hw1 c c0 c1]; decide)
      exact ⟨hx, x2, b6o x 1 q, b6o x 2 q, fun c c0 c1 => by rw [h13, bec_out (dd c c0 c1)]⟩
  · rw [e3, e4]
    have e := sm_upd (f := fun x => bi (S 3 x 0 = 1)) (g := fun x => bi (buyS S h 3 x 0 = 1)) (k := h) (n := (S 5 0 3).toNat) hh.1 (by omega) (fun i a b c => by rw [b3o i 0 c])
    have e5 : bi (buyS S h 3 h 0 = 1) = 1 := bi_t b3h
    have e6 : bi (S 3 h 0 = 1) = 0 := bi_f (by omega)
    simp only [e5, e6] at e
    omega
/-- a hold ends: x is its new state -/
theorem Inv_endH (hI : Inv m S) (hm : m + 1 ≤ 62000) {h x : Int} (hh : 0 ≤ h ∧ h < S 5 0 3) (ho : S 3 h 0 = 0) (hx : x = 2 ∨ x = 3) : Inv (m + 1) (bec (st S 3 h 0 x) (S 3 h 1) (S 3 h 2) 0) := by
  have hHO := HO_h hI hh
  have hI2 := hI
  obtain ⟨⟨a1, a2, a3, a4, a5, a6, a7, a8, a9, a10, a11⟩, hB, hC, hH, hT, hO3, hO6, hN⟩ := hI2
  have b3h : bec (st S 3 h 0 x) (S 3 h 1) (S 3 h 2) 0 3 h 0 = x := by
    show st S 3 h 0 x 3 h 0 = x
    rw [st_eq]
  have b3o : ∀ y s, y ≠ h → bec (st S 3 h 0 x) (S 3 h 1) (S 3 h 2) 0 3 y s = S 3 y s := fun y s q => by
    show st S 3 h 0 x 3 y s = _
    rw [st_nei q]
  have b3s : ∀ y s, s ≠ 0 → bec (st S 3 h 0 x) (S 3 h 1) (S 3 h 2) 0 3 y s = S 3 y s := fun y s q => by
    show st S 3 h 0 x 3 y s = _
    rw [st_nes q]
  have h13 : ∀ c, bec (st S 3 h 0 x) (S 3 h 1) (S 3 h 2) 0 13 0 c = bec S (S 3 h 1) (S 3 h 2) 0 13 0 c := fun _ => rfl
  have hw1 : ∀ c, S 3 h 1 ≤ c → c < S 3 h 1 + S 3 h 2 → S 13 0 c = 1 := (hO3 h hh.1 hh.2 ho).1
  refine ⟨⟨by omega, a2, a3, a4, a5, a6, a7, a8, ?_, ?_, ?_⟩, IvB_cg hB (fun _ _ => rfl) rfl, IvC_bec hI (fun _ _ => rfl) rfl rfl (fun _ => rfl) h13 hHO (by omega) (Or.inl rfl), ?_, ?_, ?_, ?_, ?_⟩
  · show 0 ≤ S 5 0 7 ∧ S 5 0 7 ≤ 5000 * (m + 1); omega
  · show 0 ≤ S 5 0 8 ∧ S 5 0 8 ≤ 5000 * (m + 1); omega
  · show 0 ≤ S 5 0 9 ∧ S 5 0 9 ≤ 20 * (m + 1); omega
  · intro y y0 y1
    obtain ⟨p1, p2, p3⟩ := hH y y0 y1
    rw [b3s y 1 (by decide), b3s y 2 (by decide), b3s y 3 (by decide)]
    refine ⟨HO_cg (fun _ _ => rfl) rfl p1, ?_, p3⟩
    by_cases q : y = h
    · rw [q, b3h]; omega
    · rw [b3o y 0 q]; exact p2
  · intro t t0 t1
    obtain ⟨p1, p2, p3, p4⟩ := hT t t0 t1
    exact ⟨HO_cg (fun _ _ => rfl) rfl p1, p2, p3, show 0 ≤ S 6 t 4 ∧ S 6 t 4 ≤ 20 * (m + 1) by omega⟩
  · refine IvO_free hO3 (fun y y0 y1 y2 => ?_) h13
    have q : y ≠ h := fun z => by rw [z, b3h] at y2; omega
    rw [b3o y 0 q] at y2
    exact ⟨y2, b3o y 1 q, b3o y 2 q, dis_of hO3 ⟨y0, y1⟩ hh y2 ho q⟩
  · exact IvO_free hO6 (fun y y0 y1 y2 => ⟨y2, rfl, rfl, dis_w hO6 ⟨y0, y1⟩ y2 (fun c c0 c1 => by rw [hw1 c c0 c1]; decide)⟩) h13
  · refine Eq.trans (sm_congr (fun k k0 k1 => ?_)) hN
    by_cases q : k = h
    · rw [q, b3h, bi_f (by omega), bi_f (by omega)]
    · rw [b3o k 0 q]
/-- a ticket is no longer valid: x is its new state, v its chairs', d what is paid back -/
theorem Inv_endT (hI : Inv m S) (hm : m + 1 ≤ 62000) {t x v d : Int} (ht : 0 ≤ t ∧ t < S 5 0 4) (ho : S 6 t 0 = 0) (hx : x = 1 ∨ x = 2 ∨ x = 3) (hv : v = 0 ∨ v = 3) (hd : 0 ≤ d ∧ d ≤ 5000) : Inv (m + 1) (bec (st (st S 6 t 0 x) 5 0 8 (S 5 0 8 + d)) (S 6 t 1) (S 6 t 2) v) := by
  have hHO := HO_t hI ht
  have hI2 := hI
  obtain ⟨⟨a1, a2, a3, a4, a5, a6, a7, a8, a9, a10, a11⟩, hB, hC, hH, hT, hO3, hO6, hN⟩ := hI2
  have b3h : bec (st (st S 6 t 0 x) 5 0 8 (S 5 0 8 + d)) (S 6 t 1) (S 6 t 2) v 6 t 0 = x := by
    show st S 6 t 0 x 6 t 0 = x
    rw [st_eq]
  have b3o : ∀ y s, y ≠ t → bec (st (st S 6 t 0 x) 5 0 8 (S 5 0 8 + d)) (S 6 t 1) (S 6 t 2) v 6 y s = S 6 y s := fun y s q => by
    show st S 6 t 0 x 6 y s = _
    rw [st_nei q]
  have b3s : ∀ y s, s ≠ 0 → bec (st (st S 6 t 0 x) 5 0 8 (S 5 0 8 + d)) (S 6 t 1) (S 6 t 2) v 6 y s = S 6 y s := fun y s q => by
    show st S 6 t 0 x 6 y s = _
    rw [st_nes q]
  have h13 : ∀ c, bec (st (st S 6 t 0 x) 5 0 8 (S 5 0 8 + d)) (S 6 t 1) (S 6 t 2) v 13 0 c = bec S (S 6 t 1) (S 6 t 2) v 13 0 c := fun _ => rfl
  have hw1 : ∀ c, S 6 t 1 ≤ c → c < S 6 t 1 + S 6 t 2 → S 13 0 c = 2 := (hO6 t ht.1 ht.2 ho).1
  have hcr := HO_r hI hHO
  have hnk : ∀ c, S 6 t 1 ≤ c → c < S 6 t 1 + S 6 t 2 → ¬ kl S c := fun c c0 c1 z => by
    have := (hC c (by omega) (by omega)).2.2.2 z
    rw [hw1 c c0 c1] at this; omega
  refine ⟨⟨by omega, a2, a3, a4, a5, a6, a7, a8, ?_, ?_, ?_⟩, IvB_cg hB (fun _ _ => rfl) rfl, IvC_bec hI (fun _ _ => rfl) rfl rfl (fun _ => rfl) h13 hHO (by omega) (Or.inr hnk), ?_, ?_, ?_, ?_, hN⟩
  · show 0 ≤ S 5 0 7 ∧ S 5 0 7 ≤ 5000 * (m + 1); omega
  · show 0 ≤ S 5 0 8 + d ∧ S 5 0 8 + d ≤ 5000 * (m + 1); omega
  · show 0 ≤ S 5 0 9 ∧ S 5 0 9 ≤ 20 * (m + 1); omega
  · intro y y0 y1
    obtain ⟨p1, p2, p3⟩ := hH y y0 y1
    exact ⟨HO_cg (fun _ _ => rfl) rfl p1, p2, p3⟩
  · intro y y0 y1
    obtain ⟨p1, p2, p3, p4⟩ := hT y y0 y1
    rw [b3s y 1 (by decide), b3s y 2 (by decide), b3s y 3 (by decide), b3s y 4 (by decide)]
    refine ⟨HO_cg (fun _ _ => rfl) rfl p1, ?_, p3, by omega⟩
    by_cases q : y = t
    · rw [q, b3h]; omega
    · rw [b3o y 0 q]; exact p2
  · exact IvO_free hO3 (fun y y0 y1 y2 => ⟨y2, rfl, rfl, dis_w hO3 ⟨y0, y1⟩ y2 (fun c c0 c1 => by rw [hw1 c c0 c1]; decide)⟩) h13
  · refine IvO_free hO6 (fun y y0 y1 y2 => ?_) h13
    have q : y ≠ t := fun z => by rw [z, b3h] at y2; omega
    rw [b3o y 0 q] at y2
    exact ⟨y2, b3o y 1 q, b3o y 2 q, dis_of hO6 ⟨y0, y1⟩ ht y2 ho q⟩
/-- a number beside: the minute, the doors -/
theorem Inv_sc (hI : Inv m S) {s v : Int} (h : (s = 5 ∧ 0 ≤ v ∧ v ≤ 9999) ∨ (s = 6 ∧ (v = 0 ∨ v = 1))) : Inv m (st S 5 0 s v) := by
  obtain ⟨⟨a1, a2, a3, a4, a5, a6, a7, a8, a9, a10, a11⟩, hB, hC, hH, hT, hO3, hO6, hN⟩ := hI
  have e3 : st S 5 0 s v 5 0 3 = S 5 0 3 := st_nes (by omega)
  have e4 : st S 5 0 s v 5 0 4 = S 5 0 4 := st_nes (by omega)
  have e7 : st S 5 0 s v 5 0 7 = S 5 0 7 := st_nes (by omega)
  have e8 : st S 5 0 s v 5 0 8 = S 5 0 8 := st_nes (by omega)
  have e9 : st S 5 0 s v 5 0 9 = S 5 0 9 := st_nes (by omega)
  refine ⟨⟨a1, a2, a3, a4, by rw [e3]; exact a5, by rw [e4]; exact a6, ?_, ?_, by rw [e7]; exact a9, by rw [e8]; exact a10, by rw [e9]; exact a11⟩, IvB_cg hB (fun _ _ => rfl) rfl, IvC_same hC (fun _ _ => rfl) rfl rfl (fun _ => rfl) (fun _ => rfl), ?_, ?_, ?_, ?_, ?_⟩
  · rcases h with ⟨rfl, h⟩ | ⟨rfl, h⟩
    · rw [st_eq]; exact h
    · rw [st_nes (by decide)]; exact a7
  · rcases h with ⟨rfl, h⟩ | ⟨rfl, h⟩
    · rw [st_nes (by decide)]; exact a8
    · rw [st_eq]; exact h
  · intro x x0 x1
    obtain ⟨p1, p2⟩ := hH x x0 (by rw [← e3]; exact x1)
    exact ⟨HO_cg (fun _ _ => rfl) rfl p1, p2⟩
  · intro x x0 x1
    obtain ⟨p1, p2⟩ := hT x x0 (by rw [← e4]; exact x1)
    exact ⟨HO_cg (fun _ _ => rfl) rfl p1, p2⟩
  · rw [e3]; exact hO3
  · rw [e4]; exact hO6
  · rw [e3, e4]; exact hN
theorem fin_or : ∀ a, a < 16 → ∀ s, s < 4 → (decide (0 ≤ orI (a : Nat) (shlI 1 (s : Nat))) && decide (orI (a : Nat) (shlI 1 (s : Nat)) < 16)) = true := by decide +kernel
theorem fin_an : ∀ a, a < 16 → ∀ s, s < 4 → (decide (0 ≤ andI (a : Nat) (xorI (shlI 1 (s : Nat)) (-1))) && decide (andI (a : Nat) (xorI (shlI 1 (s : Nat)) (-1)) < 16)) = true := by decide +kernel
theorem fin_kl : ∀ a, a < 16 → ∀ u, u < 16 → ∀ s, s < 4 → (decide (andI (a : Nat) (orI (u : Nat) (shlI 1 (s : Nat))) = 0) || (!decide (andI (a : Nat) (u : Nat) = 0) || !decide (andI (a : Nat) (shlI 1 (s : Nat)) = 0))) = true := by decide +kernel
theorem fin_kn : ∀ a, a < 16 → ∀ u, u < 16 → ∀ s, s < 4 → (andI (a : Nat) (andI (u : Nat) (xorI (shlI 1 (s : Nat)) (-1))) ≠ 0 → andI (a : Nat) (u : Nat) ≠ 0) := by decide +kernel
theorem fin_kp : ∀ a, a < 16 → ∀ u, u < 16 → ∀ s, s < 4 → (decide (andI (shrI (u : Nat) (s : Nat)) 1 = 1) || (decide (andI (orI (a : Nat) (shlI 1 (s : Nat))) (u : Nat) = 0) || !decide (andI (a : Nat) (u : Nat) = 0))) = true := by decide +kernel
theorem k_or {a s : Int} (ha : 0 ≤ a ∧ a < 16) (hs : 0 ≤ s ∧ s < 4) : 0 ≤ orI a (shlI 1 s) ∧ orI a (shlI 1 s) < 16 := by
  obtain ⟨a, rfl⟩ := Int.eq_ofNat_of_zero_le ha.1
  obtain ⟨s, rfl⟩ := Int.eq_ofNat_of_zero_le hs.1
  have := fin_or a (by omega) s (by omega)
  simp only [Bool.and_eq_true, decide_eq_true_eq] at this
  exact this
theorem b_an {a s : Int} (ha : 0 ≤ a ∧ a < 16) (hs : 0 ≤ s ∧ s < 4) : 0 ≤ andI a (xorI (shlI 1 s) (-1)) ∧ andI a (xorI (shlI 1 s) (-1)) < 16 := by
  obtain ⟨a, rfl⟩ := Int.eq_ofNat_of_zero_le ha.1
  obtain ⟨s, rfl⟩ := Int.eq_ofNat_of_zero_le hs.1
  have := fin_an a (by omega) s (by omega)
  simp only [Bool.and_eq_true, decide_eq_true_eq] at this
  exact this
theorem b_kl {a u s : Int} (ha : 0 ≤ a ∧ a < 16) (hu : 0 ≤ u ∧ u < 16) (hs : 0 ≤ s ∧ s < 4) (h : andI a (orI u (shlI 1 s)) ≠ 0) : andI a u ≠ 0 ∨ andI a (shlI 1 s) ≠ 0 := by
  obtain ⟨a, rfl⟩ := Int.eq_ofNat_of_zero_le ha.1
  obtain ⟨s, rfl⟩ := Int.eq_ofNat_of_zero_le hs.1
  obtain ⟨u, rfl⟩ := Int.eq_ofNat_of_zero_le hu.1
  have := fin_kl a (by omega) u (by omega) s (by omega)
  simp only [Bool.or_eq_true, Bool.not_eq_true', decide_eq_true_eq, decide_eq_false_iff_not] at this
  exact this.resolve_left h
theorem b_kn {a u s : Int} (ha : 0 ≤ a ∧ a < 16) (hu : 0 ≤ u ∧ u < 16) (hs : 0 ≤ s ∧ s < 4) (h : andI a (andI u (xorI (shlI 1 s) (-1))) ≠ 0) : andI a u ≠ 0 := by
  obtain ⟨a, rfl⟩ := Int.eq_ofNat_of_zero_le ha.1
  obtain ⟨s, rfl⟩ := Int.eq_ofNat_of_zero_le hs.1
  obtain ⟨u, rfl⟩ := Int.eq_ofNat_of_zero_le hu.1
  exact fin_kn a (by omega) u (by omega) s (by omega) h
theorem b_kp {a u s : Int} (ha : 0 ≤ a ∧ a < 16) (hu : 0 ≤ u ∧ u < 16) (hs : 0 ≤ s ∧ s < 4) (hn : ¬ andI (shrI u s) 1 = 1) (h : andI (orI a (shlI 1 s)) u ≠ 0) : andI a u ≠ 0 := by
  obtain ⟨a, rfl⟩ := Int.eq_ofNat_of_zero_le ha.1
  obtain ⟨s, rfl⟩ := Int.eq_ofNat_of_zero_le hs.1
  obtain ⟨u, rfl⟩ := Int.eq_ofNat_of_zero_le hu.1
  have := fin_kp a (by omega) u (by omega) s (by omega)
  simp only [Bool.or_eq_true, Bool.not_eq_true', decide_eq_true_eq, decide_eq_false_iff_not] at this
  exact (this.resolve_left hn).resolve_left h
/-- other stages are up: what is killed then is free -/
theorem Inv_stg (hI : Inv m S) {v : Int} (hv : 0 ≤ v ∧ v < 16) (hk : ∀ c, 0 ≤ c → c < 600 → andI (S 14 0 c) v ≠ 0 → S 13 0 c = 0) : Inv m (st S 1 0 5 v) := by
  obtain ⟨⟨a1, a2, a3, a4, a5, a6, a7, a8, a9, a10, a11⟩, hB, hC, hH, hT, hO3, hO6, hN⟩ := hI
  refine ⟨⟨a1, a2, a3, by rw [st_eq]; exact hv, a5, a6, a7, a8, a9, a10, a11⟩, IvB_cg hB (fun _ _ => rfl) rfl, ?_, ?_, ?_, hO3, hO6, hN⟩
  · intro c c0 c1
    obtain ⟨p1, p2, p3, p4⟩ := hC c c0 c1
    refine ⟨p1, p2, fun z => p3 (fun y => z ((isCh_cg (fun _ _ => rfl) rfl c).mpr y)), fun z => hk c c0 c1 ?_⟩
    have e : st S 1 0 5 v 1 0 5 = v := st_eq
    unfold kl at z
    rw [e] at z
    exact z
  · intro x x0 x1
    obtain ⟨p1, p2⟩ := hH x x0 x1
    exact ⟨HO_cg (fun _ _ => rfl) rfl p1, p2⟩
  · intro x x0 x1
    obtain ⟨p1, p2⟩ := hT x x0 x1
    exact ⟨HO_cg (fun _ _ => rfl) rfl p1, p2⟩
theorem Inv_piece (hI : Inv m S) {s f t : Int} (hs : 0 ≤ s ∧ s < S 1 0 4) (hp : isPc S f t) (hu : ¬ upP S s) : Inv m (pcS S s f t) := by
  have hI2 := hI
  obtain ⟨⟨a1, a2, a3, a4, a5, a6, a7, a8, a9, a10, a11⟩, hB, hC, hH, hT, hO3, hO6, hN⟩ := hI2
  have ho : ∀ K i c, K ≠ 14 → pcS S s f t K i c = S K i c := fun K i c q => cif_f (fun z => q z.1)
  have h0 : ∀ b w', pcS S s f t 0 b w' = S 0 b w' := fun _ _ => ho _ _ _ (by decide)
  have o1 : ∀ i c, pcS S s f t 1 i c = S 1 i c := fun _ _ => ho _ _ _ (by decide)
  have o3 : ∀ i c, pcS S s f t 3 i c = S 3 i c := fun _ _ => ho _ _ _ (by decide)
  have o5 : ∀ i c, pcS S s f t 5 i c = S 5 i c := fun _ _ => ho _ _ _ (by decide)
  have o6 : ∀ i c, pcS S s f t 6 i c = S 6 i c := fun _ _ => ho _ _ _ (by decide)
  have o13 : ∀ i c, pcS S s f t 13 i c = S 13 i c := fun _ _ => ho _ _ _ (by decide)
  have hcf := isCh_r hI hp.1
  have hct := isCh_r hI hp.2.1
  obtain ⟨⟨pf0, pf1, pf2, pf3⟩, ⟨pt0, pt1, pt2, pt3⟩, pe, pr, pc⟩ := hp
  have hin : ∀ c, pcI f t c → isCh S c := fun c z => by
    obtain ⟨z1, z2, z3, z4⟩ := z
    have e1 : c / 100 = f / 100 := by omega
    unfold isCh
    rw [e1]
    refine ⟨by omega, pf1, ?_, ?_⟩
    · rw [← pe] at pt2; omega
    · rw [← pe] at pt3; omega
  have in14 : ∀ c, pcI f t c → pcS S s f t 14 0 c = orI (S 14 0 c) (shlI 1 s) := fun c z => cif_t ⟨rfl, rfl, z⟩
  have out14 : ∀ c, ¬ pcI f t c → pcS S s f t 14 0 c = S 14 0 c := fun c z => cif_f (fun y => z y.2.2)
  refine ⟨⟨a1, by rw [o1]; exact a2, by rw [o1]; exact a3, by rw [o1]; exact a4, by rw [o5]; exact a5, by rw [o5]; exact a6, by rw [o5]; exact a7, by rw [o5]; exact a8, by rw [o5]; exact a9, by rw [o5]; exact a10, by rw [o5]; exact a11⟩, IvB_cg hB h0 (o1 _ _), ?_, ?_, ?_, ?_, ?_, ?_⟩
  · intro c c0 c1
    obtain ⟨p1, p2, p3, p4⟩ := hC c c0 c1
    rw [o13, isCh_cg h0 (o1 _ _)]
    by_cases z : pcI f t c
    · rw [in14 c z]
      refine ⟨p1, k_or p2 (by omega), fun y => absurd (hin c z) y, fun y => p4 ?_⟩
      unfold kl at y ⊢
      rw [in14 c z, o1] at y
      exact b_kp p2 a4 (by omega) hu y
    · rw [out14 c z]
      refine ⟨p1, p2, p3, fun y => p4 ?_⟩
      unfold kl at y ⊢
      rw [out14 c z, o1] at y
      exact y
  · intro x x0 x1
    rw [o5] at x1
    obtain ⟨p1, p2⟩ := hH x x0 x1
    rw [o3, o3, o3, o3]
    exact ⟨HO_cg h0 (o1 _ _) p1, p2⟩
  · intro x x0 x1
    rw [o5] at x1
    obtain ⟨p1, p2⟩ := hT x x0 x1
    rw [o6, o6, o6, o6, o6]
    exact ⟨HO_cg h0 (o1 _ _) p1, p2⟩
  · rw [o5]
    exact IvO_keep hO3 (fun x x0 x1 x2 => by rw [o3] at x2; exact ⟨x1, x2, o3 _ _, o3 _ _, fun c _ _ => o13 _ _⟩)
  · rw [o5]
    exact IvO_keep hO6 (fun x x0 x1 x2 => by rw [o6] at x2; exact ⟨x1, x2, o6 _ _, o6 _ _, fun c _ _ => o13 _ _⟩)
  · rw [o5, o5, ← hN]
    exact sm_congr (fun k k0 k1 => by rw [o3])
theorem Inv_stage (hI : Inv m S) (h : S 1 0 4 < 4) : Inv m (st S 1 0 4 (S 1 0 4 + 1)) := by
  obtain ⟨⟨a1, a2, a3, a4, a5, a6, a7, a8, a9, a10, a11⟩, hB, hC, hH, hT, hO3, hO6, hN⟩ := hI
  refine ⟨⟨a1, a2, by rw [st_eq]; omega, a4, a5, a6, a7, a8, a9, a10, a11⟩, IvB_cg hB (fun _ _ => rfl) rfl, IvC_same hC (fun _ _ => rfl) rfl rfl (fun _ => rfl) (fun _ => rfl), ?_, ?_, hO3, hO6, hN⟩
  · intro x x0 x1
    obtain ⟨p1, p2⟩ := hH x x0 x1
    exact ⟨HO_cg (fun _ _ => rfl) rfl p1, p2⟩
  · intro x x0 x1
    obtain ⟨p1, p2⟩ := hT x x0 x1
    exact ⟨HO_cg (fun _ _ => rfl) rfl p1, p2⟩
theorem Inv_block (hI : Inv m S) {x y z : Int} (hx : 1 ≤ x ∧ x ≤ 6) (hy : 1 ≤ y ∧ y ≤ 10) (hz : 1 ≤ z ∧ z ≤ 500) (h : S 1 0 3 < 6) : Inv m (blkS S x y z) := by
  have hI2 := hI
  obtain ⟨⟨a1, a2, a3, a4, a5, a6, a7, a8, a9, a10, a11⟩, hB, hC, hH, hT, hO3, hO6, hN⟩ := hI2
  have e3 : blkS S x y z 1 0 3 = S 1 0 3 + 1 := rfl
  have b0 : ∀ b w, blkS S x y z 0 b w = st (st (st S 0 (S 1 0 3) 0 x) 0 (S 1 0 3) 1 y) 0 (S 1 0 3) 2 z 0 b w := fun _ _ => rfl
  have bo : ∀ b w, b ≠ S 1 0 3 → blkS S x y z 0 b w = S 0 b w := fun b w q => by rw [b0, st_nei q, st_nei q, st_nei q]
  have n0 : blkS S x y z 0 (S 1 0 3) 0 = x := by rw [b0, st_nes (by decide), st_nes (by decide), st_eq]
  have n1 : blkS S x y z 0 (S 1 0 3) 1 = y := by rw [b0, st_nes (by decide), st_eq]
  have n2 : blkS S x y z 0 (S 1 0 3) 2 = z := by rw [b0, st_eq]
  have hHO : ∀ f n, HO S f n → HO (blkS S x y z) f n := fun f n q => by
    obtain ⟨q0, q1, q2, q3, q4, q5⟩ := q
    unfold HO
    rw [e3, bo _ _ (by omega), bo _ _ (by omega)]
    exact ⟨q0, q1, q2, by omega, q4, q5⟩
  refine ⟨⟨a1, by rw [e3]; omega, a3, a4, a5, a6, a7, a8, a9, a10, a11⟩, ?_, ?_, ?_, ?_, hO3, hO6, hN⟩
  · intro b b0 b1
    rw [e3] at b1
    by_cases q : b = S 1 0 3
    · subst q; rw [n0, n1, n2]; exact ⟨hx, hy, hz⟩
    · rw [bo b 0 q, bo b 1 q, bo b 2 q]; exact hB b b0 (by omega)
  · intro c c0 c1
    obtain ⟨p1, p2, p3, p4⟩ := hC c c0 c1
    refine ⟨p1, p2, fun w => p3 (fun v => w ?_), fun w => p4 w⟩
    obtain ⟨v0, v1, v2, v3⟩ := v
    unfold isCh
    rw [e3, bo _ _ (by omega), bo _ _ (by omega)]
    exact ⟨v0, by omega, v2, v3⟩
  · intro u u0 u1
    obtain ⟨p1, p2⟩ := hH u u0 u1
    exact ⟨hHO _ _ p1, p2⟩
  · intro u u0 u1
    obtain ⟨p1, p2⟩ := hT u u0 u1
    exact ⟨hHO _ _ p1, p2⟩
end
end
section
/-! 18: the class: what its orders do -/
section
variable {X : XI}
theorem d_mark {M : NM} {j f n w : Int} (hf : 0 ≤ f ∧ f ≤ 590) (hn : 0 ≤ n ∧ n ≤ 10) : HT X z_X1_mark [.inr (.inr (some (1, j, 0))), .inl f, .inl n, .inl w] M (fun rr MM => rr = none ∧ MM = bcM M j f n w) := by
  refine ht_of (e := E_X1_mark) rfl (?_ : EvI X E_X1_mark (0, [some (.inr (.inr (some (1, j, 0)))), some (.inl f), some (.inl n), some (.inl w), none], [], M) _)
  refine seg_ok 2 (?_ : EvI X E_X1_mark (if f < 0 then 17 else 4, [some (.inr (.inr (some (1, j, 0)))), some (.inl f), some (.inl n), some (.inl w), none], [], M) _)
  refine ev_if (fun h1 => ?_) (fun h1 => ?_)
  · exfalso
    omega
  · refine seg_ok 3 (?_ : EvI X E_X1_mark (if 10 < n then 17 else 10, [some (.inr (.inr (some (1, j, 0)))), some (.inl f), some (.inl n), some (.inl w), none], [], M) _)
    refine ev_if (fun h7 => ?_) (fun h7 => ?_)
    · exfalso
      omega
    · refine seg_ok 3 (?_ : EvI X E_X1_mark (if 590 < f then 17 else 18, [some (.inr (.inr (some (1, j, 0)))), some (.inl f), some (.inl n), some (.inl w), none], [], M) _)
      refine ev_if (fun h14 => ?_) (fun h14 => ?_)
      · exfalso
        omega
      · refine seg_ok 2 (?_ : EvI X E_X1_mark (21, [some (.inr (.inr (some (1, j, 0)))), some (.inl f), some (.inl n), some (.inl w), some (.inl 0)], [], M) _)
        have L21 : ∀ (m21 : Nat) (k : Int) (M1 : NM), n - k < (m21 : Int) → (0 ≤ k) → (k ≤ n) → (M1 = bcM M j f k w) → EvI X E_X1_mark (21, [some (.inr (.inr (some (1, j, 0)))), some (.inl f), some (.inl n), some (.inl w), some (.inl k)], [], M1) (fun rr MM => rr = none ∧ MM = bcM M j f n w) := by
          intro m21
          induction m21 with
          | zero => intro k M1 hm21 q1 q2 q3; exact absurd hm21 (by omega)
          | succ m21 ih21 =>
            intro k M1 hm21 q1 q2 q3
            refine seg_ok 3 (?_ : EvI X E_X1_mark (if k < n then 27 else 43, [some (.inr (.inr (some (1, j, 0)))), some (.inl f), some (.inl n), some (.inl w), some (.inl k)], [], M1) _)
            refine ev_if (fun h24 => ?_) (fun h24 => ?_)
            · refine seg_ok 9 (⟨by omega, by omega, by omega, ?_⟩ : ((-2147483648 : Int) ≤ (f + k) ∧ (f + k) < 2147483648) ∧ ((0 : Int) ≤ (f + k) ∧ (f + k) < 600) ∧ ((-2147483648 : Int) ≤ (k + 1) ∧ (k + 1) < 2147483648) ∧ EvI X E_X1_mark (21, [some (.inr (.inr (some (1, j, 0)))), some (.inl f), some (.inl n), some (.inl w), some (.inl (k + 1))], [], (wri M1 13 j 0 (f + k) w)) _)
              refine ih21 (k + 1) (wri M1 13 j 0 (f + k) w) (by omega) (by omega) (by omega) (by rw [q3]; exact bcM_s q1)
            · refine ev_rt (r := none) rfl (?_)
              exact ⟨rfl, by rw [q3, show k = n by omega]⟩
        refine L21 ((n - 0) + 1 : Int).toNat 0 M (by omega) (by omega) (by omega) bcM_0
set_option maxRecDepth 2220 in
theorem d_makeBlock {m : Int} {M : NM} {j : Int} (hI : Inv m (sl M j)) {x y z : Int} : HT X z_X1_makeBlock [.inr (.inr (some (1, j, 0))), .inl x, .inl y, .inl z] M (fun rr MM => rr = some (.inl (opBlock (sl M j) x y z).1) ∧ sl MM j = (opBlock (sl M j) x y z).2 ∧ FR j M MM) := by
  have hi := hI.1
  simp only [Iv0, sl] at hi
  refine ht_of (e := E_X1_makeBlock) rfl (?_ : EvI X E_X1_makeBlock (0, [some (.inr (.inr (some (1, j, 0)))), some (.inl x), some (.inl y), some (.inl z), none], [], M) _)
  refine seg_ok 3 (?_ : EvI X E_X1_makeBlock (if x < 1 then 22 else 5, [some (.inr (.inr (some (1, j, 0)))), some (.inl x), some (.inl y), some (.inl z), none], [], M) _)
  refine ev_if (fun h2 => ?_) (fun h2 => ?_)
  · refine seg_ok 1 (?_ : EvI X E_X1_makeBlock (23, [some (.inr (.inr (some (1, j, 0)))), some (.inl x), some (.inl y), some (.inl z), none], [.inl (-1)], M) _)
    refine ev_rt (r := some (.inl (-1))) rfl (?_)
    have e : opBlock (sl M j) x y z = (-1, sl M j) := cif_t (by first | omega | (simp only [sl]; omega))
    exact ⟨rint (by rw [e]), by rw [e], FR_rf⟩
  · refine seg_ok 3 (?_ : EvI X E_X1_makeBlock (if 6 < x then 22 else 11, [some (.inr (.inr (some (1, j, 0)))), some (.inl x), some (.inl y), some (.inl z), none], [], M) _)
    refine ev_if (fun h8 => ?_) (fun h8 => ?_)
    · refine seg_ok 1 (?_ : EvI X E_X1_makeBlock (23, [some (.inr (.inr (some (1, j, 0)))), some (.inl x), some (.inl y), some (.inl z), none], [.inl (-1)], M) _)
      refine ev_rt (r := some (.inl (-1))) rfl (?_)
      have e : opBlock (sl M j) x y z = (-1, sl M j) := cif_t (by first | omega | (simp only [sl]; omega))
      exact ⟨rint (by rw [e]), by rw [e], FR_rf⟩
    · refine seg_ok 3 (?_ : EvI X E_X1_makeBlock (if y < 1 then 22 else 16, [some (.inr (.inr (some (1, j, 0)))), some (.inl x), some (.inl y), some (.inl z), none], [], M) _)
      refine ev_if (fun h13 => ?_) (fun h13 => ?_)
      · refine seg_ok 1 (?_ : EvI X E_X1_makeBlock (23, [some (.inr (.inr (some (1, j, 0)))), some (.inl x), some (.inl y), some (.inl z), none], [.inl (-1)], M) _)
        refine ev_rt (r := some (.inl (-1))) rfl (?_)
        have e : opBlock (sl M j) x y z = (-1, sl M j) := cif_t (by first | omega | (simp only [sl]; omega))
        exact ⟨rint (by rw [e]), by rw [e], FR_rf⟩
      · refine seg_ok 3 (?_ : EvI X E_X1_makeBlock (if 10 < y then 22 else 24, [some (.inr (.inr (some (1, j, 0)))), some (.inl x), some (.inl y), some (.inl z), none], [], M) _)
        refine ev_if (fun h19 => ?_) (fun h19 => ?_)
        · refine seg_ok 1 (?_ : EvI X E_X1_makeBlock (23, [some (.inr (.inr (some (1, j, 0)))), some (.inl x), some (.inl y), some (.inl z), none], [.inl (-1)], M) _)
          refine ev_rt (r := some (.inl (-1))) rfl (?_)
          have e : opBlock (sl M j) x y z = (-1, sl M j) := cif_t (by first | omega | (simp only [sl]; omega))
          exact ⟨rint (by rw [e]), by rw [e], FR_rf⟩
        · refine seg_ok 3 (?_ : EvI X E_X1_makeBlock (if z < 1 then 36 else 29, [some (.inr (.inr (some (1, j, 0)))), some (.inl x), some (.inl y), some (.inl z), none], [], M) _)
          refine ev_if (fun h26 => ?_) (fun h26 => ?_)
          · refine seg_ok 1 (?_ : EvI X E_X1_makeBlock (37, [some (.inr (.inr (some (1, j, 0)))), some (.inl x), some (.inl y), some (.inl z), none], [.inl (-1)], M) _)
            refine ev_rt (r := some (.inl (-1))) rfl (?_)
            have e : opBlock (sl M j) x y z = (-1, sl M j) := cif_t (by first | omega | (simp only [sl]; omega))
            exact ⟨rint (by rw [e]), by rw [e], FR_rf⟩
          · refine seg_ok 3 (?_ : EvI X E_X1_makeBlock (if 500 < z then 36 else 38, [some (.inr (.inr (some (1, j, 0)))), some (.inl x), some (.inl y), some (.inl z), none], [], M) _)
            refine ev_if (fun h33 => ?_) (fun h33 => ?_)
            · refine seg_ok 1 (?_ : EvI X E_X1_makeBlock (37, [some (.inr (.inr (some (1, j, 0)))), some (.inl x), some (.inl y), some (.inl z), none], [.inl (-1)], M) _)
              refine ev_rt (r := some (.inl (-1))) rfl (?_)
              have e : opBlock (sl M j) x y z = (-1, sl M j) := cif_t (by first | omega | (simp only [sl]; omega))
              exact ⟨rint (by rw [e]), by rw [e], FR_rf⟩
            · refine seg_ok 4 (?_ : EvI X E_X1_makeBlock (if (M 1 j 0 3) < 6 then 50 else 47, [some (.inr (.inr (some (1, j, 0)))), some (.inl x), some (.inl y), some (.inl z), none], [], M) _)
              refine ev_if (fun h44 => ?_) (fun h44 => ?_)
              · refine seg_ok 23 (⟨by omega, by omega, ?_⟩ : ((0 : Int) ≤ (M 1 j 0 3) ∧ (M 1 j 0 3) < 6) ∧ ((-2147483648 : Int) ≤ ((M 1 j 0 3) + 1) ∧ ((M 1 j 0 3) + 1) < 2147483648) ∧ EvI X E_X1_makeBlock (93, [some (.inr (.inr (some (1, j, 0)))), some (.inl x), some (.inl y), some (.inl z), some (.inr (.inr (some (0, j, (M 1 j 0 3)))))], [.inl ((wri (wri (wri (wri M 0 j (M 1 j 0 3) 0 x) 0 j (M 1 j 0 3) 1 y) 0 j (M 1 j 0 3) 2 z) 1 j 0 3 ((M 1 j 0 3) + 1)) 1 j 0 3)], (wri (wri (wri (wri M 0 j (M 1 j 0 3) 0 x) 0 j (M 1 j 0 3) 1 y) 0 j (M 1 j 0 3) 2 z) 1 j 0 3 ((M 1 j 0 3) + 1))) _)
                rw [show ((wri (wri (wri (wri M 0 j (M 1 j 0 3) 0 x) 0 j (M 1 j 0 3) 1 y) 0 j (M 1 j 0 3) 2 z) 1 j 0 3 ((M 1 j 0 3) + 1)) 1 j 0 3) = ((M 1 j 0 3) + 1) from wri_eq]
                refine seg_ok 2 (⟨by omega, ?_⟩ : ((-2147483648 : Int) ≤ (((M 1 j 0 3) + 1) - 1) ∧ (((M 1 j 0 3) + 1) - 1) < 2147483648) ∧ EvI X E_X1_makeBlock (95, [some (.inr (.inr (some (1, j, 0)))), some (.inl x), some (.inl y), some (.inl z), some (.inr (.inr (some (0, j, (M 1 j 0 3)))))], [.inl (((M 1 j 0 3) + 1) - 1)], (wri (wri (wri (wri M 0 j (M 1 j 0 3) 0 x) 0 j (M 1 j 0 3) 1 y) 0 j (M 1 j 0 3) 2 z) 1 j 0 3 ((M 1 j 0 3) + 1))) _)
                refine ev_rt (r := some (.inl (((M 1 j 0 3) + 1) - 1))) rfl (?_)
                have e : opBlock (sl M j) x y z = (M 1 j 0 3, blkS (sl M j) x y z) := (cif_f (by first | omega | (simp only [sl]; omega))).trans (cif_f (by first | omega | (simp only [sl]; omega)))
                exact ⟨rint (by rw [e] <;> first | rfl | (dsimp only; omega)), by rw [e] <;> simp only [sl_wri, sl_bcM, blkS] <;> try rfl, FR_wri stK_1 (FR_wri stK_0 (FR_wri stK_0 (FR_wri stK_0 (FR_rf))))⟩
              · refine seg_ok 1 (?_ : EvI X E_X1_makeBlock (49, [some (.inr (.inr (some (1, j, 0)))), some (.inl x), some (.inl y), some (.inl z), none], [.inl (-3)], M) _)
                refine ev_rt (r := some (.inl (-3))) rfl (?_)
                have e : opBlock (sl M j) x y z = (-3, sl M j) := (cif_f (by first | omega | (simp only [sl]; omega))).trans (cif_t (by first | omega | (simp only [sl]; omega)))
                exact ⟨rint (by rw [e]), by rw [e], FR_rf⟩
theorem d_makeStage {m : Int} {M : NM} {j : Int} (hI : Inv m (sl M j))  : HT X z_X1_makeStage [.inr (.inr (some (1, j, 0)))] M (fun rr MM => rr = some (.inl (opStage (sl M j)).1) ∧ sl MM j = (opStage (sl M j)).2 ∧ FR j M MM) := by
  have hi := hI.1
  simp only [Iv0, sl] at hi
  refine ht_of (e := E_X1_makeStage) rfl (?_ : EvI X E_X1_makeStage (0, [some (.inr (.inr (some (1, j, 0))))], [], M) _)
  refine seg_ok 4 (?_ : EvI X E_X1_makeStage (if (M 1 j 0 4) < 4 then 11 else 8, [some (.inr (.inr (some (1, j, 0))))], [], M) _)
  refine ev_if (fun h5 => ?_) (fun h5 => ?_)
  · refine seg_ok 8 (⟨by omega, ?_⟩ : ((-2147483648 : Int) ≤ ((M 1 j 0 4) + 1) ∧ ((M 1 j 0 4) + 1) < 2147483648) ∧ EvI X E_X1_makeStage (25, [some (.inr (.inr (some (1, j, 0))))], [.inl ((wri M 1 j 0 4 ((M 1 j 0 4) + 1)) 1 j 0 4)], (wri M 1 j 0 4 ((M 1 j 0 4) + 1))) _)
    rw [show ((wri M 1 j 0 4 ((M 1 j 0 4) + 1)) 1 j 0 4) = ((M 1 j 0 4) + 1) from wri_eq]
    refine seg_ok 2 (⟨by omega, ?_⟩ : ((-2147483648 : Int) ≤ (((M 1 j 0 4) + 1) - 1) ∧ (((M 1 j 0 4) + 1) - 1) < 2147483648) ∧ EvI X E_X1_makeStage (27, [some (.inr (.inr (some (1, j, 0))))], [.inl (((M 1 j 0 4) + 1) - 1)], (wri M 1 j 0 4 ((M 1 j 0 4) + 1))) _)
    refine ev_rt (r := some (.inl (((M 1 j 0 4) + 1) - 1))) rfl (?_)
    have e : opStage (sl M j) = (M 1 j 0 4, st (sl M j) 1 0 4 (M 1 j 0 4 + 1)) := cif_f (by first | omega | (simp only [sl]; omega))
    exact ⟨rint (by rw [e] <;> first | rfl | (dsimp only; omega)), by rw [e] <;> simp only [sl_wri, sl_bcM, sl] <;> try rfl, FR_wri stK_1 (FR_rf)⟩
  · refine seg_ok 1 (?_ : EvI X E_X1_makeStage (10, [some (.inr (.inr (some (1, j, 0))))], [.inl (-3)], M) _)
    refine ev_rt (r := some (.inl (-3))) rfl (?_)
    have e : opStage (sl M j) = (-3, sl M j) := cif_t (by first | omega | (simp only [sl]; omega))
    exact ⟨rint (by rw [e]), by rw [e], FR_rf⟩
set_option maxRecDepth 2730 in
theorem d_makeHold {m : Int} {M : NM} {j : Int} (hI : Inv m (sl M j)) {b n w : Int} : HT X z_X5_makeHold [.inr (.inr (some (5, j, 0))), .inl b, .inl n, .inl w] M (fun rr MM => rr = some (.inl (opHold (sl M j) b n w).1) ∧ sl MM j = (opHold (sl M j) b n w).2 ∧ FR j M MM) := by
  have hi := hI.1
  simp only [Iv0, sl] at hi
  refine ht_of (e := E_X5_makeHold) rfl (?_ : EvI X E_X5_makeHold (0, [some (.inr (.inr (some (5, j, 0)))), some (.inl b), some (.inl n), some (.inl w), none, none], [], M) _)
  refine seg_ok 3 (?_ : EvI X E_X5_makeHold (5, [some (.inr (.inr (some (5, j, 0)))), some (.inl b), some (.inl n), some (.inl w), none, none], [.inl b, .inr (.inr (some (1, j, 0)))], M) _)
  by_cases hb : 0 ≤ b ∧ b < M 1 j 0 3
  · refine ev_clp (v := .inr (.inr (some (0, j, b)))) (z := z_X1_blockAt) (as := [.inr (.inr (some (1, j, 0))), .inl b]) (rest := []) rfl (d_blockAt_t hb (by omega)) (?_ : EvI X E_X5_makeHold (8, [some (.inr (.inr (some (5, j, 0)))), some (.inl b), some (.inl n), some (.inl w), none, none], [.inr (.inr (some (0, j, b)))], M) _)
    refine seg_ok 2 (?_ : EvI X E_X5_makeHold (12, [some (.inr (.inr (some (5, j, 0)))), some (.inl b), some (.inl n), some (.inl w), none, none], [.inl n], M) _)
    refine ev_clp (v := .inl (bi (1 ≤ n ∧ n ≤ 10))) (z := z_X1_isGroup) (as := [.inl n]) (rest := []) rfl d_isGroup (?_ : EvI X E_X5_makeHold (15, [some (.inr (.inr (some (5, j, 0)))), some (.inl b), some (.inl n), some (.inl w), none, none], [.inl (bi (1 ≤ n ∧ n ≤ 10))], M) _)
    refine seg_ok 1 (?_ : EvI X E_X5_makeHold (if (bi (1 ≤ n ∧ n ≤ 10)) = 0 then 25 else 18, [some (.inr (.inr (some (5, j, 0)))), some (.inl b), some (.inl n), some (.inl w), none, none], [], M) _)
    refine ev_ifb (fun h15 => ?_) (fun h15 => ?_)
    · refine seg_ok 1 (?_ : EvI X E_X5_makeHold (26, [some (.inr (.inr (some (5, j, 0)))), some (.inl b), some (.inl n), some (.inl w), none, none], [.inl (-1)], M) _)
      refine ev_rt (r := some (.inl (-1))) rfl (?_)
      have e : opHold (sl M j) b n w = (-1, sl M j) := cif_t (by first | omega | (simp only [sl]; omega))
      exact ⟨rint (by rw [e]), by rw [e], FR_rf⟩
    · refine seg_ok 1 (?_ : EvI X E_X5_makeHold (19, [some (.inr (.inr (some (5, j, 0)))), some (.inl b), some (.inl n), some (.inl w), none, none], [.inl w], M) _)
      refine ev_clp (v := .inl (bi (1 ≤ w ∧ w ≤ 999))) (z := z_X5_isWait) (as := [.inl w]) (rest := []) rfl d_isWait (?_ : EvI X E_X5_makeHold (22, [some (.inr (.inr (some (5, j, 0)))), some (.inl b), some (.inl n), some (.inl w), none, none], [.inl (bi (1 ≤ w ∧ w ≤ 999))], M) _)
      refine seg_ok 1 (?_ : EvI X E_X5_makeHold (if (bi (1 ≤ w ∧ w ≤ 999)) = 0 then 25 else 27, [some (.inr (.inr (some (5, j, 0)))), some (.inl b), some (.inl n), some (.inl w), none, none], [], M) _)
      refine ev_ifb (fun h22 => ?_) (fun h22 => ?_)
      · refine seg_ok 1 (?_ : EvI X E_X5_makeHold (26, [some (.inr (.inr (some (5, j, 0)))), some (.inl b), some (.inl n), some (.inl w), none, none], [.inl (-1)], M) _)
        refine ev_rt (r := some (.inl (-1))) rfl (?_)
        have e : opHold (sl M j) b n w = (-1, sl M j) := cif_t (by first | omega | (simp only [sl]; omega))
        exact ⟨rint (by rw [e]), by rw [e], FR_rf⟩
      · refine seg_ok 4 (?_ : EvI X E_X5_makeHold (33, [some (.inr (.inr (some (5, j, 0)))), some (.inl b), some (.inl n), some (.inl w), none, none], [.inl n, .inl b, .inr (.inr (some (1, j, 0)))], M) _)
        refine ev_clp (v := .inl (pl (sl M j) b n)) (z := z_X1_findPlace) (as := [.inr (.inr (some (1, j, 0))), .inl b, .inl n]) (rest := []) rfl (d_findPlace hI (by omega) (by omega)) (?_ : EvI X E_X5_makeHold (36, [some (.inr (.inr (some (5, j, 0)))), some (.inl b), some (.inl n), some (.inl w), none, none], [.inl (pl (sl M j) b n)], M) _)
        refine seg_ok 4 (?_ : EvI X E_X5_makeHold (if (pl (sl M j) b n) = (-9) then 45 else 48, [some (.inr (.inr (some (5, j, 0)))), some (.inl b), some (.inl n), some (.inl w), some (.inl (pl (sl M j) b n)), none], [], M) _)
        refine ev_if (fun h42 => ?_) (fun h42 => ?_)
        · refine seg_ok 1 (?_ : EvI X E_X5_makeHold (47, [some (.inr (.inr (some (5, j, 0)))), some (.inl b), some (.inl n), some (.inl w), some (.inl (pl (sl M j) b n)), none], [.inl (-2)], M) _)
          refine ev_rt (r := some (.inl (-2))) rfl (?_)
          have e : opHold (sl M j) b n w = (-2, sl M j) := (cif_f (by first | omega | (simp only [sl]; omega))).trans (cif_t h42)
          exact ⟨rint (by rw [e]), by rw [e], FR_rf⟩
        · have hp := (HO_r hI (pl_HO hI hb (by omega) h42).1)
          refine seg_ok 4 (?_ : EvI X E_X5_makeHold (if (M 5 j 0 3) < 20 then 60 else 57, [some (.inr (.inr (some (5, j, 0)))), some (.inl b), some (.inl n), some (.inl w), some (.inl (pl (sl M j) b n)), none], [], M) _)
          refine ev_if (fun h54 => ?_) (fun h54 => ?_)
          · refine seg_ok 29 (⟨by omega, by omega, ?_⟩ : ((0 : Int) ≤ (M 5 j 0 3) ∧ (M 5 j 0 3) < 20) ∧ ((-2147483648 : Int) ≤ ((M 5 j 0 5) + w) ∧ ((M 5 j 0 5) + w) < 2147483648) ∧ EvI X E_X5_makeHold (116, [some (.inr (.inr (some (5, j, 0)))), some (.inl b), some (.inl n), some (.inl w), some (.inl (pl (sl M j) b n)), some (.inr (.inr (some (3, j, (M 5 j 0 3)))))], [.inl 1, .inl n, .inl (pl (sl M j) b n), .inr (.inr (some (1, j, 0)))], (wri (wri (wri (wri (wri M 3 j (M 5 j 0 3) 0 0) 3 j (M 5 j 0 3) 1 (pl (sl M j) b n)) 3 j (M 5 j 0 3) 2 n) 3 j (M 5 j 0 3) 3 ((M 5 j 0 5) + w)) 3 j (M 5 j 0 3) 4 (-9))) _)
            refine ev_cl (z := z_X1_mark) (as := [.inr (.inr (some (1, j, 0))), .inl (pl (sl M j) b n), .inl n, .inl 1]) (rest := []) rfl (d_mark (by omega) (by omega)) ?_
            intro rr M1 hqM1
            obtain ⟨rfl, hM1⟩ := hqM1
            subst hM1
            show EvI X E_X5_makeHold (119, [some (.inr (.inr (some (5, j, 0)))), some (.inl b), some (.inl n), some (.inl w), some (.inl (pl (sl M j) b n)), some (.inr (.inr (some (3, j, (M 5 j 0 3)))))], [], (bcM (wri (wri (wri (wri (wri M 3 j (M 5 j 0 3) 0 0) 3 j (M 5 j 0 3) 1 (pl (sl M j) b n)) 3 j (M 5 j 0 3) 2 n) 3 j (M 5 j 0 3) 3 ((M 5 j 0 5) + w)) 3 j (M 5 j 0 3) 4 (-9)) j (pl (sl M j) b n) n 1)) _
            refine seg_ok 8 (⟨by omega, ?_⟩ : ((-2147483648 : Int) ≤ ((M 5 j 0 3) + 1) ∧ ((M 5 j 0 3) + 1) < 2147483648) ∧ EvI X E_X5_makeHold (133, [some (.inr (.inr (some (5, j, 0)))), some (.inl b), some (.inl n), some (.inl w), some (.inl (pl (sl M j) b n)), some (.inr (.inr (some (3, j, (M 5 j 0 3)))))], [.inl ((wri (bcM (wri (wri (wri (wri (wri M 3 j (M 5 j 0 3) 0 0) 3 j (M 5 j 0 3) 1 (pl (sl M j) b n)) 3 j (M 5 j 0 3) 2 n) 3 j (M 5 j 0 3) 3 ((M 5 j 0 5) + w)) 3 j (M 5 j 0 3) 4 (-9)) j (pl (sl M j) b n) n 1) 5 j 0 3 ((M 5 j 0 3) + 1)) 5 j 0 3)], (wri (bcM (wri (wri (wri (wri (wri M 3 j (M 5 j 0 3) 0 0) 3 j (M 5 j 0 3) 1 (pl (sl M j) b n)) 3 j (M 5 j 0 3) 2 n) 3 j (M 5 j 0 3) 3 ((M 5 j 0 5) + w)) 3 j (M 5 j 0 3) 4 (-9)) j (pl (sl M j) b n) n 1) 5 j 0 3 ((M 5 j 0 3) + 1))) _)
            rw [show ((wri (bcM (wri (wri (wri (wri (wri M 3 j (M 5 j 0 3) 0 0) 3 j (M 5 j 0 3) 1 (pl (sl M j) b n)) 3 j (M 5 j 0 3) 2 n) 3 j (M 5 j 0 3) 3 ((M 5 j 0 5) + w)) 3 j (M 5 j 0 3) 4 (-9)) j (pl (sl M j) b n) n 1) 5 j 0 3 ((M 5 j 0 3) + 1)) 5 j 0 3) = ((M 5 j 0 3) + 1) from wri_eq]
            refine seg_ok 2 (⟨by omega, ?_⟩ : ((-2147483648 : Int) ≤ (((M 5 j 0 3) + 1) - 1) ∧ (((M 5 j 0 3) + 1) - 1) < 2147483648) ∧ EvI X E_X5_makeHold (135, [some (.inr (.inr (some (5, j, 0)))), some (.inl b), some (.inl n), some (.inl w), some (.inl (pl (sl M j) b n)), some (.inr (.inr (some (3, j, (M 5 j 0 3)))))], [.inl (((M 5 j 0 3) + 1) - 1)], (wri (bcM (wri (wri (wri (wri (wri M 3 j (M 5 j 0 3) 0 0) 3 j (M 5 j 0 3) 1 (pl (sl M j) b n)) 3 j (M 5 j 0 3) 2 n) 3 j (M 5 j 0 3) 3 ((M 5 j 0 5) + w)) 3 j (M 5 j 0 3) 4 (-9)) j (pl (sl M j) b n) n 1) 5 j 0 3 ((M 5 j 0 3) + 1))) _)
            refine ev_rt (r := some (.inl (((M 5 j 0 3) + 1) - 1))) rfl (?_)
            have e : opHold (sl M j) b n w = (M 5 j 0 3, holdS (sl M j) (pl (sl M j) b n) n w) := (cif_f (by first | omega | (simp only [sl]; omega))).trans ((cif_f h42).trans (cif_f (by first | omega | (simp only [sl]; omega))))
            exact ⟨rint (by rw [e] <;> first | rfl | (dsimp only; omega)), by rw [e] <;> simp only [sl_wri, sl_bcM, holdS] <;> try rfl, FR_wri stK_5 (FR_bc (FR_wri stK_3 (FR_wri stK_3 (FR_wri stK_3 (FR_wri stK_3 (FR_wri stK_3 (FR_rf)))))))⟩
          · refine seg_ok 1 (?_ : EvI X E_X5_makeHold (59, [some (.inr (.inr (some (5, j, 0)))), some (.inl b), some (.inl n), some (.inl w), some (.inl (pl (sl M j) b n)), none], [.inl (-3)], M) _)
            refine ev_rt (r := some (.inl (-3))) rfl (?_)
            have e : opHold (sl M j) b n w = (-3, sl M j) := (cif_f (by first | omega | (simp only [sl]; omega))).trans ((cif_f h42).trans (cif_t (by first | omega | (simp only [sl]; omega))))
            exact ⟨rint (by rw [e]), by rw [e], FR_rf⟩
  · refine ev_clp (v := .inr (.inr none)) (z := z_X1_blockAt) (as := [.inr (.inr (some (1, j, 0))), .inl b]) (rest := []) rfl (d_blockAt_f hb) (?_ : EvI X E_X5_makeHold (8, [some (.inr (.inr (some (5, j, 0)))), some (.inl b), some (.inl n), some (.inl w), none, none], [.inr (.inr none)], M) _)
    refine seg_ok 2 (?_ : EvI X E_X5_makeHold (26, [some (.inr (.inr (some (5, j, 0)))), some (.inl b), some (.inl n), some (.inl w), none, none], [.inl (-1)], M) _)
    refine ev_rt (r := some (.inl (-1))) rfl (?_)
    have e : opHold (sl M j) b n w = (-1, sl M j) := cif_t (by first | omega | (simp only [sl]; omega))
    exact ⟨rint (by rw [e]), by rw [e], FR_rf⟩
set_option maxRecDepth 3360 in
theorem d_buyHold {m : Int} {M : NM} {j : Int} (hI : Inv m (sl M j)) {x : Int} : HT X z_X5_buyHold [.inr (.inr (some (5, j, 0))), .inl x] M (fun rr MM => rr = some (.inl (opBuy (sl M j) x).1) ∧ sl MM j = (opBuy (sl M j) x).2 ∧ FR j M MM) := by
  have hi := hI.1
  simp only [Iv0, sl] at hi
  refine ht_of (e := E_X5_buyHold) rfl (?_ : EvI X E_X5_buyHold (0, [some (.inr (.inr (some (5, j, 0)))), some (.inl x), none, none], [], M) _)
  refine seg_ok 2 (?_ : EvI X E_X5_buyHold (2, [some (.inr (.inr (some (5, j, 0)))), some (.inl x), none, none], [.inl x, .inr (.inr (some (5, j, 0)))], M) _)
  by_cases hb : 0 ≤ x ∧ x < M 5 j 0 3
  · have hO := HO_h hI hb
    have hh := HO_r hI hO
    have hp := pr_r hI hO
    simp only [HO, sl] at hO hh hp
    refine ev_clp (v := .inr (.inr (some (3, j, x)))) (z := z_X5_holdAt) (as := [.inr (.inr (some (5, j, 0))), .inl x]) (rest := []) rfl (d_holdAt_t hb (by omega)) (?_ : EvI X E_X5_buyHold (5, [some (.inr (.inr (some (5, j, 0)))), some (.inl x), none, none], [.inr (.inr (some (3, j, x)))], M) _)
    refine seg_ok 6 (?_ : EvI X E_X5_buyHold (if (M 3 j x 0) = 0 then 19 else 28, [some (.inr (.inr (some (5, j, 0)))), some (.inl x), some (.inr (.inr (some (3, j, x)))), none], [], M) _)
    refine ev_if (fun h16 => ?_) (fun h16 => ?_)
    · have hk := nT_lt hI hb h16
      simp only [sl] at hk
      refine seg_ok 4 (?_ : EvI X E_X5_buyHold (if (M 5 j 0 4) < 20 then 31 else 28, [some (.inr (.inr (some (5, j, 0)))), some (.inl x), some (.inr (.inr (some (3, j, x)))), none], [], M) _)
      refine ev_if (fun h25 => ?_) (fun h25 => ?_)
      · refine seg_ok 10 (⟨by omega, ?_⟩ : ((0 : Int) ≤ (M 5 j 0 4) ∧ (M 5 j 0 4) < 20) ∧ EvI X E_X5_buyHold (if (M 5 j 0 6) = 0 then 53 else 49, [some (.inr (.inr (some (5, j, 0)))), some (.inl x), some (.inr (.inr (some (3, j, x)))), some (.inr (.inr (some (6, j, (M 5 j 0 4)))))], [.inr (.inr (some (6, j, (M 5 j 0 4))))], M) _)
        refine ev_if (fun h46 => ?_) (fun h46 => ?_)
        · refine seg_ok 19 (⟨by omega, ?_⟩ : ((0 : Int) ≤ (M 3 j x 1) ∧ (0 : Int) < 100) ∧ EvI X E_X5_buyHold (89, [some (.inr (.inr (some (5, j, 0)))), some (.inl x), some (.inr (.inr (some (3, j, x)))), some (.inr (.inr (some (6, j, (M 5 j 0 4)))))], [.inl ((M 3 j x 1) / 100), .inr (.inr (some (1, j, 0))), .inl (M 3 j x 2), .inr (.inr (some (6, j, (M 5 j 0 4))))], (wri (wri (wri M 6 j (M 5 j 0 4) 0 0) 6 j (M 5 j 0 4) 1 (M 3 j x 1)) 6 j (M 5 j 0 4) 2 (M 3 j x 2))) _)
          refine ev_clp (v := .inl (M 0 j ((M 3 j x 1) / 100) 2)) (z := z_X1_priceOf) (as := [.inr (.inr (some (1, j, 0))), .inl ((M 3 j x 1) / 100)]) (rest := [.inl (M 3 j x 2), .inr (.inr (some (6, j, (M 5 j 0 4))))]) rfl (d_priceOf (show 0 ≤ ((M 3 j x 1) / 100) ∧ ((M 3 j x 1) / 100) < M 1 j 0 3 from by omega) (show M 1 j 0 3 ≤ 6 from by omega)) (?_ : EvI X E_X5_buyHold (92, [some (.inr (.inr (some (5, j, 0)))), some (.inl x), some (.inr (.inr (some (3, j, x)))), some (.inr (.inr (some (6, j, (M 5 j 0 4)))))], [.inl (M 0 j ((M 3 j x 1) / 100) 2), .inl (M 3 j x 2), .inr (.inr (some (6, j, (M 5 j 0 4))))], (wri (wri (wri M 6 j (M 5 j 0 4) 0 0) 6 j (M 5 j 0 4) 1 (M 3 j x 1)) 6 j (M 5 j 0 4) 2 (M 3 j x 2))) _)
          refine seg_ok 10 (⟨by omega, ?_⟩ : ((-2147483648 : Int) ≤ ((M 3 j x 2) * (M 0 j ((M 3 j x 1) / 100) 2)) ∧ ((M 3 j x 2) * (M 0 j ((M 3 j x 1) / 100) 2)) < 2147483648) ∧ EvI X E_X5_buyHold (110, [some (.inr (.inr (some (5, j, 0)))), some (.inl x), some (.inr (.inr (some (3, j, x)))), some (.inr (.inr (some (6, j, (M 5 j 0 4)))))], [.inl ((wri (wri (wri (wri (wri M 6 j (M 5 j 0 4) 0 0) 6 j (M 5 j 0 4) 1 (M 3 j x 1)) 6 j (M 5 j 0 4) 2 (M 3 j x 2)) 6 j (M 5 j 0 4) 3 ((M 3 j x 2) * (M 0 j ((M 3 j x 1) / 100) 2))) 6 j (M 5 j 0 4) 4 0) 6 j (M 5 j 0 4) 3), .inl (M 5 j 0 7), .inr (.inr (some (5, j, 0)))], (wri (wri (wri (wri (wri M 6 j (M 5 j 0 4) 0 0) 6 j (M 5 j 0 4) 1 (M 3 j x 1)) 6 j (M 5 j 0 4) 2 (M 3 j x 2)) 6 j (M 5 j 0 4) 3 ((M 3 j x 2) * (M 0 j ((M 3 j x 1) / 100) 2))) 6 j (M 5 j 0 4) 4 0)) _)
          rw [show ((wri (wri (wri (wri (wri M 6 j (M 5 j 0 4) 0 0) 6 j (M 5 j 0 4) 1 (M 3 j x 1)) 6 j (M 5 j 0 4) 2 (M 3 j x 2)) 6 j (M 5 j 0 4) 3 ((M 3 j x 2) * (M 0 j ((M 3 j x 1) / 100) 2))) 6 j (M 5 j 0 4) 4 0) 6 j (M 5 j 0 4) 3) = ((M 3 j x 2) * (M 0 j ((M 3 j x 1) / 100) 2)) from (wri_nes (by decide)).trans (wri_eq)]
          refine seg_ok 6 (⟨by omega, ?_⟩ : ((-2147483648 : Int) ≤ ((M 5 j 0 7) + ((M 3 j x 2) * (M 0 j ((M 3 j x 1) / 100) 2))) ∧ ((M 5 j 0 7) + ((M 3 j x 2) * (M 0 j ((M 3 j x 1) / 100) 2))) < 2147483648) ∧ EvI X E_X5_buyHold (122, [some (.inr (.inr (some (5, j, 0)))), some (.inl x), some (.inr (.inr (some (3, j, x)))), some (.inr (.inr (some (6, j, (M 5 j 0 4)))))], [.inl ((wri (wri (wri (wri (wri M 6 j (M 5 j 0 4) 0 0) 6 j (M 5 j 0 4) 1 (M 3 j x 1)) 6 j (M 5 j 0 4) 2 (M 3 j x 2)) 6 j (M 5 j 0 4) 3 ((M 3 j x 2) * (M 0 j ((M 3 j x 1) / 100) 2))) 6 j (M 5 j 0 4) 4 0) 6 j (M 5 j 0 4) 1), .inr (.inr (some (1, j, 0)))], (wri (wri (wri (wri (wri (wri M 6 j (M 5 j 0 4) 0 0) 6 j (M 5 j 0 4) 1 (M 3 j x 1)) 6 j (M 5 j 0 4) 2 (M 3 j x 2)) 6 j (M 5 j 0 4) 3 ((M 3 j x 2) * (M 0 j ((M 3 j x 1) / 100) 2))) 6 j (M 5 j 0 4) 4 0) 5 j 0 7 ((M 5 j 0 7) + ((M 3 j x 2) * (M 0 j ((M 3 j x 1) / 100) 2))))) _)
          rw [show ((wri (wri (wri (wri (wri M 6 j (M 5 j 0 4) 0 0) 6 j (M 5 j 0 4) 1 (M 3 j x 1)) 6 j (M 5 j 0 4) 2 (M 3 j x 2)) 6 j (M 5 j 0 4) 3 ((M 3 j x 2) * (M 0 j ((M 3 j x 1) / 100) 2))) 6 j (M 5 j 0 4) 4 0) 6 j (M 5 j 0 4) 1) = (M 3 j x 1) from (wri_nes (by decide)).trans ((wri_nes (by decide)).trans ((wri_nes (by decide)).trans (wri_eq)))]
          refine seg_ok 2 (?_ : EvI X E_X5_buyHold (126, [some (.inr (.inr (some (5, j, 0)))), some (.inl x), some (.inr (.inr (some (3, j, x)))), some (.inr (.inr (some (6, j, (M 5 j 0 4)))))], [.inl ((wri (wri (wri (wri (wri M 6 j (M 5 j 0 4) 0 0) 6 j (M 5 j 0 4) 1 (M 3 j x 1)) 6 j (M 5 j 0 4) 2 (M 3 j x 2)) 6 j (M 5 j 0 4) 3 ((M 3 j x 2) * (M 0 j ((M 3 j x 1) / 100) 2))) 6 j (M 5 j 0 4) 4 0) 6 j (M 5 j 0 4) 2), .inl (M 3 j x 1), .inr (.inr (some (1, j, 0)))], (wri (wri (wri (wri (wri (wri M 6 j (M 5 j 0 4) 0 0) 6 j (M 5 j 0 4) 1 (M 3 j x 1)) 6 j (M 5 j 0 4) 2 (M 3 j x 2)) 6 j (M 5 j 0 4) 3 ((M 3 j x 2) * (M 0 j ((M 3 j x 1) / 100) 2))) 6 j (M 5 j 0 4) 4 0) 5 j 0 7 ((M 5 j 0 7) + ((M 3 j x 2) * (M 0 j ((M 3 j x 1) / 100) 2))))) _)
          rw [show ((wri (wri (wri (wri (wri M 6 j (M 5 j 0 4) 0 0) 6 j (M 5 j 0 4) 1 (M 3 j x 1)) 6 j (M 5 j 0 4) 2 (M 3 j x 2)) 6 j (M 5 j 0 4) 3 ((M 3 j x 2) * (M 0 j ((M 3 j x 1) / 100) 2))) 6 j (M 5 j 0 4) 4 0) 6 j (M 5 j 0 4) 2) = (M 3 j x 2) from (wri_nes (by decide)).trans ((wri_nes (by decide)).trans (wri_eq))]
          refine seg_ok 2 (?_ : EvI X E_X5_buyHold (130, [some (.inr (.inr (some (5, j, 0)))), some (.inl x), some (.inr (.inr (some (3, j, x)))), some (.inr (.inr (some (6, j, (M 5 j 0 4)))))], [.inl ((wri (wri (wri (wri (wri (wri M 6 j (M 5 j 0 4) 0 0) 6 j (M 5 j 0 4) 1 (M 3 j x 1)) 6 j (M 5 j 0 4) 2 (M 3 j x 2)) 6 j (M 5 j 0 4) 3 ((M 3 j x 2) * (M 0 j ((M 3 j x 1) / 100) 2))) 6 j (M 5 j 0 4) 4 0) 5 j 0 7 ((M 5 j 0 7) + ((M 3 j x 2) * (M 0 j ((M 3 j x 1) / 100) 2)))) 5 j 0 6), .inl (M 3 j x 2), .inl (M 3 j x 1), .inr (.inr (some (1, j, 0)))], (wri (wri (wri (wri (wri (wri M 6 j (M 5 j 0 4) 0 0) 6 j (M 5 j 0 4) 1 (M 3 j x 1)) 6 j (M 5 j 0 4) 2 (M 3 j x 2)) 6 j (M 5 j 0 4) 3 ((M 3 j x 2) * (M 0 j ((M 3 j x 1) / 100) 2))) 6 j (M 5 j 0 4) 4 0) 5 j 0 7 ((M 5 j 0 7) + ((M 3 j x 2) * (M 0 j ((M 3 j x 1) / 100) 2))))) _)
          rw [show ((wri (wri (wri (wri (wri (wri M 6 j (M 5 j 0 4) 0 0) 6 j (M 5 j 0 4) 1 (M 3 j x 1)) 6 j (M 5 j 0 4) 2 (M 3 j x 2)) 6 j (M 5 j 0 4) 3 ((M 3 j x 2) * (M 0 j ((M 3 j x 1) / 100) 2))) 6 j (M 5 j 0 4) 4 0) 5 j 0 7 ((M 5 j 0 7) + ((M 3 j x 2) * (M 0 j ((M 3 j x 1) / 100) 2)))) 5 j 0 6) = (M 5 j 0 6) from wri_nes (by decide)]
          refine seg_ok 1 (?_ : EvI X E_X5_buyHold (if (M 5 j 0 6) = 0 then 137 else 133, [some (.inr (.inr (some (5, j, 0)))), some (.inl x), some (.inr (.inr (some (3, j, x)))), some (.inr (.inr (some (6, j, (M 5 j 0 4)))))], [.inl (M 3 j x 2), .inl (M 3 j x 1), .inr (.inr (some (1, j, 0)))], (wri (wri (wri (wri (wri (wri M 6 j (M 5 j 0 4) 0 0) 6 j (M 5 j 0 4) 1 (M 3 j x 1)) 6 j (M 5 j 0 4) 2 (M 3 j x 2)) 6 j (M 5 j 0 4) 3 ((M 3 j x 2) * (M 0 j ((M 3 j x 1) / 100) 2))) 6 j (M 5 j 0 4) 4 0) 5 j 0 7 ((M 5 j 0 7) + ((M 3 j x 2) * (M 0 j ((M 3 j x 1) / 100) 2))))) _)
          refine ev_if (fun h130 => ?_) (fun h130 => ?_)
          · refine seg_ok 1 (?_ : EvI X E_X5_buyHold (138, [some (.inr (.inr (some (5, j, 0)))), some (.inl x), some (.inr (.inr (some (3, j, x)))), some (.inr (.inr (some (6, j, (M 5 j 0 4)))))], [.inl 2, .inl (M 3 j x 2), .inl (M 3 j x 1), .inr (.inr (some (1, j, 0)))], (wri (wri (wri (wri (wri (wri M 6 j (M 5 j 0 4) 0 0) 6 j (M 5 j 0 4) 1 (M 3 j x 1)) 6 j (M 5 j 0 4) 2 (M 3 j x 2)) 6 j (M 5 j 0 4) 3 ((M 3 j x 2) * (M 0 j ((M 3 j x 1) / 100) 2))) 6 j (M 5 j 0 4) 4 0) 5 j 0 7 ((M 5 j 0 7) + ((M 3 j x 2) * (M 0 j ((M 3 j x 1) / 100) 2))))) _)
            refine ev_cl (z := z_X1_mark) (as := [.inr (.inr (some (1, j, 0))), .inl (M 3 j x 1), .inl (M 3 j x 2), .inl 2]) (rest := []) rfl (d_mark (by omega) (by omega)) ?_
            intro rr M1 hqM1
            obtain ⟨rfl, hM1⟩ := hqM1
            subst hM1
            show EvI X E_X5_buyHold (141, [some (.inr (.inr (some (5, j, 0)))), some (.inl x), some (.inr (.inr (some (3, j, x)))), some (.inr (.inr (some (6, j, (M 5 j 0 4)))))], [], (bcM (wri (wri (wri (wri (wri (wri M 6 j (M 5 j 0 4) 0 0) 6 j (M 5 j 0 4) 1 (M 3 j x 1)) 6 j (M 5 j 0 4) 2 (M 3 j x 2)) 6 j (M 5 j 0 4) 3 ((M 3 j x 2) * (M 0 j ((M 3 j x 1) / 100) 2))) 6 j (M 5 j 0 4) 4 0) 5 j 0 7 ((M 5 j 0 7) + ((M 3 j x 2) * (M 0 j ((M 3 j x 1) / 100) 2)))) j (M 3 j x 1) (M 3 j x 2) 2)) _
            refine seg_ok 6 (?_ : EvI X E_X5_buyHold (151, [some (.inr (.inr (some (5, j, 0)))), some (.inl x), some (.inr (.inr (some (3, j, x)))), some (.inr (.inr (some (6, j, (M 5 j 0 4)))))], [.inl ((wri (wri (wri (wri (wri (wri M 6 j (M 5 j 0 4) 0 0) 6 j (M 5 j 0 4) 1 (M 3 j x 1)) 6 j (M 5 j 0 4) 2 (M 3 j x 2)) 6 j (M 5 j 0 4) 3 ((M 3 j x 2) * (M 0 j ((M 3 j x 1) / 100) 2))) 6 j (M 5 j 0 4) 4 0) 5 j 0 7 ((M 5 j 0 7) + ((M 3 j x 2) * (M 0 j ((M 3 j x 1) / 100) 2)))) 5 j 0 4), .inr (.inr (some (3, j, x)))], (wri (bcM (wri (wri (wri (wri (wri (wri M 6 j (M 5 j 0 4) 0 0) 6 j (M 5 j 0 4) 1 (M 3 j x 1)) 6 j (M 5 j 0 4) 2 (M 3 j x 2)) 6 j (M 5 j 0 4) 3 ((M 3 j x 2) * (M 0 j ((M 3 j x 1) / 100) 2))) 6 j (M 5 j 0 4) 4 0) 5 j 0 7 ((M 5 j 0 7) + ((M 3 j x 2) * (M 0 j ((M 3 j x 1) / 100) 2)))) j (M 3 j x 1) (M 3 j x 2) 2) 3 j x 0 1)) _)
            rw [show ((wri (wri (wri (wri (wri (wri M 6 j (M 5 j 0 4) 0 0) 6 j (M 5 j 0 4) 1 (M 3 j x 1)) 6 j (M 5 j 0 4) 2 (M 3 j x 2)) 6 j (M 5 j 0 4) 3 ((M 3 j x 2) * (M 0 j ((M 3 j x 1) / 100) 2))) 6 j (M 5 j 0 4) 4 0) 5 j 0 7 ((M 5 j 0 7) + ((M 3 j x 2) * (M 0 j ((M 3 j x 1) / 100) 2)))) 5 j 0 4) = (M 5 j 0 4) from wri_nes (by decide)]
            refine seg_ok 4 (?_ : EvI X E_X5_buyHold (159, [some (.inr (.inr (some (5, j, 0)))), some (.inl x), some (.inr (.inr (some (3, j, x)))), some (.inr (.inr (some (6, j, (M 5 j 0 4)))))], [.inl ((wri (wri (wri (wri (wri (wri M 6 j (M 5 j 0 4) 0 0) 6 j (M 5 j 0 4) 1 (M 3 j x 1)) 6 j (M 5 j 0 4) 2 (M 3 j x 2)) 6 j (M 5 j 0 4) 3 ((M 3 j x 2) * (M 0 j ((M 3 j x 1) / 100) 2))) 6 j (M 5 j 0 4) 4 0) 5 j 0 7 ((M 5 j 0 7) + ((M 3 j x 2) * (M 0 j ((M 3 j x 1) / 100) 2)))) 5 j 0 4), .inr (.inr (some (5, j, 0)))], (wri (wri (bcM (wri (wri (wri (wri (wri (wri M 6 j (M 5 j 0 4) 0 0) 6 j (M 5 j 0 4) 1 (M 3 j x 1)) 6 j (M 5 j 0 4) 2 (M 3 j x 2)) 6 j (M 5 j 0 4) 3 ((M 3 j x 2) * (M 0 j ((M 3 j x 1) / 100) 2))) 6 j (M 5 j 0 4) 4 0) 5 j 0 7 ((M 5 j 0 7) + ((M 3 j x 2) * (M 0 j ((M 3 j x 1) / 100) 2)))) j (M 3 j x 1) (M 3 j x 2) 2) 3 j x 0 1) 3 j x 4 (M 5 j 0 4))) _)
            rw [show ((wri (wri (wri (wri (wri (wri M 6 j (M 5 j 0 4) 0 0) 6 j (M 5 j 0 4) 1 (M 3 j x 1)) 6 j (M 5 j 0 4) 2 (M 3 j x 2)) 6 j (M 5 j 0 4) 3 ((M 3 j x 2) * (M 0 j ((M 3 j x 1) / 100) 2))) 6 j (M 5 j 0 4) 4 0) 5 j 0 7 ((M 5 j 0 7) + ((M 3 j x 2) * (M 0 j ((M 3 j x 1) / 100) 2)))) 5 j 0 4) = (M 5 j 0 4) from wri_nes (by decide)]
            refine seg_ok 5 (⟨by omega, ?_⟩ : ((-2147483648 : Int) ≤ ((M 5 j 0 4) + 1) ∧ ((M 5 j 0 4) + 1) < 2147483648) ∧ EvI X E_X5_buyHold (168, [some (.inr (.inr (some (5, j, 0)))), some (.inl x), some (.inr (.inr (some (3, j, x)))), some (.inr (.inr (some (6, j, (M 5 j 0 4)))))], [.inl ((wri (wri (wri (bcM (wri (wri (wri (wri (wri (wri M 6 j (M 5 j 0 4) 0 0) 6 j (M 5 j 0 4) 1 (M 3 j x 1)) 6 j (M 5 j 0 4) 2 (M 3 j x 2)) 6 j (M 5 j 0 4) 3 ((M 3 j x 2) * (M 0 j ((M 3 j x 1) / 100) 2))) 6 j (M 5 j 0 4) 4 0) 5 j 0 7 ((M 5 j 0 7) + ((M 3 j x 2) * (M 0 j ((M 3 j x 1) / 100) 2)))) j (M 3 j x 1) (M 3 j x 2) 2) 3 j x 0 1) 3 j x 4 (M 5 j 0 4)) 5 j 0 4 ((M 5 j 0 4) + 1)) 5 j 0 4)], (wri (wri (wri (bcM (wri (wri (wri (wri (wri (wri M 6 j (M 5 j 0 4) 0 0) 6 j (M 5 j 0 4) 1 (M 3 j x 1)) 6 j (M 5 j 0 4) 2 (M 3 j x 2)) 6 j (M 5 j 0 4) 3 ((M 3 j x 2) * (M 0 j ((M 3 j x 1) / 100) 2))) 6 j (M 5 j 0 4) 4 0) 5 j 0 7 ((M 5 j 0 7) + ((M 3 j x 2) * (M 0 j ((M 3 j x 1) / 100) 2)))) j (M 3 j x 1) (M 3 j x 2) 2) 3 j x 0 1) 3 j x 4 (M 5 j 0 4)) 5 j 0 4 ((M 5 j 0 4) + 1))) _)
            rw [show ((wri (wri (wri (bcM (wri (wri (wri (wri (wri (wri M 6 j (M 5 j 0 4) 0 0) 6 j (M 5 j 0 4) 1 (M 3 j x 1)) 6 j (M 5 j 0 4) 2 (M 3 j x 2)) 6 j (M 5 j 0 4) 3 ((M 3 j x 2) * (M 0 j ((M 3 j x 1) / 100) 2))) 6 j (M 5 j 0 4) 4 0) 5 j 0 7 ((M 5 j 0 7) + ((M 3 j x 2) * (M 0 j ((M 3 j x 1) / 100) 2)))) j (M 3 j x 1) (M 3 j x 2) 2) 3 j x 0 1) 3 j x 4 (M 5 j 0 4)) 5 j 0 4 ((M 5 j 0 4) + 1)) 5 j 0 4) = ((M 5 j 0 4) + 1) from wri_eq]
            refine seg_ok 2 (⟨by omega, ?_⟩ : ((-2147483648 : Int) ≤ (((M 5 j 0 4) + 1) - 1) ∧ (((M 5 j 0 4) + 1) - 1) < 2147483648) ∧ EvI X E_X5_buyHold (170, [some (.inr (.inr (some (5, j, 0)))), some (.inl x), some (.inr (.inr (some (3, j, x)))), some (.inr (.inr (some (6, j, (M 5 j 0 4)))))], [.inl (((M 5 j 0 4) + 1) - 1)], (wri (wri (wri (bcM (wri (wri (wri (wri (wri (wri M 6 j (M 5 j 0 4) 0 0) 6 j (M 5 j 0 4) 1 (M 3 j x 1)) 6 j (M 5 j 0 4) 2 (M 3 j x 2)) 6 j (M 5 j 0 4) 3 ((M 3 j x 2) * (M 0 j ((M 3 j x 1) / 100) 2))) 6 j (M 5 j 0 4) 4 0) 5 j 0 7 ((M 5 j 0 7) + ((M 3 j x 2) * (M 0 j ((M 3 j x 1) / 100) 2)))) j (M 3 j x 1) (M 3 j x 2) 2) 3 j x 0 1) 3 j x 4 (M 5 j 0 4)) 5 j 0 4 ((M 5 j 0 4) + 1))) _)
            refine ev_rt (r := some (.inl (((M 5 j 0 4) + 1) - 1))) rfl (?_)
            have e : opBuy (sl M j) x = (M 5 j 0 4, buyS (sl M j) x) := (cif_f (fun z => z hb)).trans (cif_f (fun z => z h16))
            exact ⟨rint (by rw [e] <;> first | rfl | (dsimp only; omega)), by rw [e] <;> simp only [sl_wri, sl_bcM, buyS, cif_t (show sl M j 5 0 6 = 0 from h46)] <;> try rfl, FR_wri stK_5 (FR_wri stK_3 (FR_wri stK_3 (FR_bc (FR_wri stK_5 (FR_wri stK_6 (FR_wri stK_6 (FR_wri stK_6 (FR_wri stK_6 (FR_wri stK_6 (FR_rf))))))))))⟩
          · exact absurd h46 h130
        · refine seg_ok 20 (⟨by omega, ?_⟩ : ((0 : Int) ≤ (M 3 j x 1) ∧ (0 : Int) < 100) ∧ EvI X E_X5_buyHold (89, [some (.inr (.inr (some (5, j, 0)))), some (.inl x), some (.inr (.inr (some (3, j, x)))), some (.inr (.inr (some (6, j, (M 5 j 0 4)))))], [.inl ((M 3 j x 1) / 100), .inr (.inr (some (1, j, 0))), .inl (M 3 j x 2), .inr (.inr (some (6, j, (M 5 j 0 4))))], (wri (wri (wri M 6 j (M 5 j 0 4) 0 2) 6 j (M 5 j 0 4) 1 (M 3 j x 1)) 6 j (M 5 j 0 4) 2 (M 3 j x 2))) _)
          refine ev_clp (v := .inl (M 0 j ((M 3 j x 1) / 100) 2)) (z := z_X1_priceOf) (as := [.inr (.inr (some (1, j, 0))), .inl ((M 3 j x 1) / 100)]) (rest := [.inl (M 3 j x 2), .inr (.inr (some (6, j, (M 5 j 0 4))))]) rfl (d_priceOf (show 0 ≤ ((M 3 j x 1) / 100) ∧ ((M 3 j x 1) / 100) < M 1 j 0 3 from by omega) (show M 1 j 0 3 ≤ 6 from by omega)) (?_ : EvI X E_X5_buyHold (92, [some (.inr (.inr (some (5, j, 0)))), some (.inl x), some (.inr (.inr (some (3, j, x)))), some (.inr (.inr (some (6, j, (M 5 j 0 4)))))], [.inl (M 0 j ((M 3 j x 1) / 100) 2), .inl (M 3 j x 2), .inr (.inr (some (6, j, (M 5 j 0 4))))], (wri (wri (wri M 6 j (M 5 j 0 4) 0 2) 6 j (M 5 j 0 4) 1 (M 3 j x 1)) 6 j (M 5 j 0 4) 2 (M 3 j x 2))) _)
          refine seg_ok 10 (⟨by omega, ?_⟩ : ((-2147483648 : Int) ≤ ((M 3 j x 2) * (M 0 j ((M 3 j x 1) / 100) 2)) ∧ ((M 3 j x 2) * (M 0 j ((M 3 j x 1) / 100) 2)) < 2147483648) ∧ EvI X E_X5_buyHold (110, [some (.inr (.inr (some (5, j, 0)))), some (.inl x), some (.inr (.inr (some (3, j, x)))), some (.inr (.inr (some (6, j, (M 5 j 0 4)))))], [.inl ((wri (wri (wri (wri (wri M 6 j (M 5 j 0 4) 0 2) 6 j (M 5 j 0 4) 1 (M 3 j x 1)) 6 j (M 5 j 0 4) 2 (M 3 j x 2)) 6 j (M 5 j 0 4) 3 ((M 3 j x 2) * (M 0 j ((M 3 j x 1) / 100) 2))) 6 j (M 5 j 0 4) 4 0) 6 j (M 5 j 0 4) 3), .inl (M 5 j 0 7), .inr (.inr (some (5, j, 0)))], (wri (wri (wri (wri (wri M 6 j (M 5 j 0 4) 0 2) 6 j (M 5 j 0 4) 1 (M 3 j x 1)) 6 j (M 5 j 0 4) 2 (M 3 j x 2)) 6 j (M 5 j 0 4) 3 ((M 3 j x 2) * (M 0 j ((M 3 j x 1) / 100) 2))) 6 j (M 5 j 0 4) 4 0)) _)
          rw [show ((wri (wri (wri (wri (wri M 6 j (M 5 j 0 4) 0 2) 6 j (M 5 j 0 4) 1 (M 3 j x 1)) 6 j (M 5 j 0 4) 2 (M 3 j x 2)) 6 j (M 5 j 0 4) 3 ((M 3 j x 2) * (M 0 j ((M 3 j x 1) / 100) 2))) 6 j (M 5 j 0 4) 4 0) 6 j (M 5 j 0 4) 3) = ((M 3 j x 2) * (M 0 j ((M 3 j x 1) / 100) 2)) from (wri_nes (by decide)).trans (wri_eq)]
          refine seg_ok 6 (⟨by omega, ?_⟩ : ((-2147483648 : Int) ≤ ((M 5 j 0 7) + ((M 3 j x 2) * (M 0 j ((M 3 j x 1) / 100) 2))) ∧ ((M 5 j 0 7) + ((M 3 j x 2) * (M 0 j ((M 3 j x 1) / 100) 2))) < 2147483648) ∧ EvI X E_X5_buyHold (122, [some (.inr (.inr (some (5, j, 0)))), some (.inl x), some (.inr (.inr (some (3, j, x)))), some (.inr (.inr (some (6, j, (M 5 j 0 4)))))], [.inl ((wri (wri (wri (wri (wri M 6 j (M 5 j 0 4) 0 2) 6 j (M 5 j 0 4) 1 (M 3 j x 1)) 6 j (M 5 j 0 4) 2 (M 3 j x 2)) 6 j (M 5 j 0 4) 3 ((M 3 j x 2) * (M 0 j ((M 3 j x 1) / 100) 2))) 6 j (M 5 j 0 4) 4 0) 6 j (M 5 j 0 4) 1), .inr (.inr (some (1, j, 0)))], (wri (wri (wri (wri (wri (wri M 6 j (M 5 j 0 4) 0 2) 6 j (M 5 j 0 4) 1 (M 3 j x 1)) 6 j (M 5 j 0 4) 2 (M 3 j x 2)) 6 j (M 5 j 0 4) 3 ((M 3 j x 2) * (M 0 j ((M 3 j x 1) / 100) 2))) 6 j (M 5 j 0 4) 4 0) 5 j 0 7 ((M 5 j 0 7) + ((M 3 j x 2) * (M 0 j ((M 3 j x 1) / 100) 2))))) _)
          rw [show ((wri (wri (wri (wri (wri M 6 j (M 5 j 0 4) 0 2) 6 j (M 5 j 0 4) 1 (M 3 j x 1)) 6 j (M 5 j 0 4) 2 (M 3 j x 2)) 6 j (M 5 j 0 4) 3 ((M 3 j x 2) * (M 0 j ((M 3 j x 1) / 100) 2))) 6 j (M 5 j 0 4) 4 0) 6 j (M 5 j 0 4) 1) = (M 3 j x 1) from (wri_nes (by decide)).trans ((wri_nes (by decide)).trans ((wri_nes (by decide)).trans (wri_eq)))]
          refine seg_ok 2 (?_ : EvI X E_X5_buyHold (126, [some (.inr (.inr (some (5, j, 0)))), some (.inl x), some (.inr (.inr (some (3, j, x)))), some (.inr (.inr (some (6, j, (M 5 j 0 4)))))], [.inl ((wri (wri (wri (wri (wri M 6 j (M 5 j 0 4) 0 2) 6 j (M 5 j 0 4) 1 (M 3 j x 1)) 6 j (M 5 j 0 4) 2 (M 3 j x 2)) 6 j (M 5 j 0 4) 3 ((M 3 j x 2) * (M 0 j ((M 3 j x 1) / 100) 2))) 6 j (M 5 j 0 4) 4 0) 6 j (M 5 j 0 4) 2), .inl (M 3 j x 1), .inr (.inr (some (1, j, 0)))], (wri (wri (wri (wri (wri (wri M 6 j (M 5 j 0 4) 0 2) 6 j (M 5 j 0 4) 1 (M 3 j x 1)) 6 j (M 5 j 0 4) 2 (M 3 j x 2)) 6 j (M 5 j 0 4) 3 ((M 3 j x 2) * (M 0 j ((M 3 j x 1) / 100) 2))) 6 j (M 5 j 0 4) 4 0) 5 j 0 7 ((M 5 j 0 7) + ((M 3 j x 2) * (M 0 j ((M 3 j x 1) / 100) 2))))) _)
          rw [show ((wri (wri (wri (wri (wri M 6 j (M 5 j 0 4) 0 2) 6 j (M 5 j 0 4) 1 (M 3 j x 1)) 6 j (M 5 j 0 4) 2 (M 3 j x 2)) 6 j (M 5 j 0 4) 3 ((M 3 j x 2) * (M 0 j ((M 3 j x 1) / 100) 2))) 6 j (M 5 j 0 4) 4 0) 6 j (M 5 j 0 4) 2) = (M 3 j x 2) from (wri_nes (by decide)).trans ((wri_nes (by decide)).trans (wri_eq))]
          refine seg_ok 2 (?_ : EvI X E_X5_buyHold (130, [some (.inr (.inr (some (5, j, 0)))), some (.inl x), some (.inr (.inr (some (3, j, x)))), some (.inr (.inr (some (6, j, (M 5 j 0 4)))))], [.inl ((wri (wri (wri (wri (wri (wri M 6 j (M 5 j 0 4) 0 2) 6 j (M 5 j 0 4) 1 (M 3 j x 1)) 6 j (M 5 j 0 4) 2 (M 3 j x 2)) 6 j (M 5 j 0 4) 3 ((M 3 j x 2) * (M 0 j ((M 3 j x 1) / 100) 2))) 6 j (M 5 j 0 4) 4 0) 5 j 0 7 ((M 5 j 0 7) + ((M 3 j x 2) * (M 0 j ((M 3 j x 1) / 100) 2)))) 5 j 0 6), .inl (M 3 j x 2), .inl (M 3 j x 1), .inr (.inr (some (1, j, 0)))], (wri (wri (wri (wri (wri (wri M 6 j (M 5 j 0 4) 0 2) 6 j (M 5 j 0 4) 1 (M 3 j x 1)) 6 j (M 5 j 0 4) 2 (M 3 j x 2)) 6 j (M 5 j 0 4) 3 ((M 3 j x 2) * (M 0 j ((M 3 j x 1) / 100) 2))) 6 j (M 5 j 0 4) 4 0) 5 j 0 7 ((M 5 j 0 7) + ((M 3 j x 2) * (M 0 j ((M 3 j x 1) / 100) 2))))) _)
          rw [show ((wri (wri (wri (wri (wri (wri M 6 j (M 5 j 0 4) 0 2) 6 j (M 5 j 0 4) 1 (M 3 j x 1)) 6 j (M 5 j 0 4) 2 (M 3 j x 2)) 6 j (M 5 j 0 4) 3 ((M 3 j x 2) * (M 0 j ((M 3 j x 1) / 100) 2))) 6 j (M 5 j 0 4) 4 0) 5 j 0 7 ((M 5 j 0 7) + ((M 3 j x 2) * (M 0 j ((M 3 j x 1) / 100) 2)))) 5 j 0 6) = (M 5 j 0 6) from wri_nes (by decide)]
          refine seg_ok 1 (?_ : EvI X E_X5_buyHold (if (M 5 j 0 6) = 0 then 137 else 133, [some (.inr (.inr (some (5, j, 0)))), some (.inl x), some (.inr (.inr (some (3, j, x)))), some (.inr (.inr (some (6, j, (M 5 j 0 4)))))], [.inl (M 3 j x 2), .inl (M 3 j x 1), .inr (.inr (some (1, j, 0)))], (wri (wri (wri (wri (wri (wri M 6 j (M 5 j 0 4) 0 2) 6 j (M 5 j 0 4) 1 (M 3 j x 1)) 6 j (M 5 j 0 4) 2 (M 3 j x 2)) 6 j (M 5 j 0 4) 3 ((M 3 j x 2) * (M 0 j ((M 3 j x 1) / 100) 2))) 6 j (M 5 j 0 4) 4 0) 5 j 0 7 ((M 5 j 0 7) + ((M 3 j x 2) * (M 0 j ((M 3 j x 1) / 100) 2))))) _)
          refine ev_if (fun h130 => ?_) (fun h130 => ?_)
          · exact absurd h130 h46
          · refine seg_ok 2 (?_ : EvI X E_X5_buyHold (138, [some (.inr (.inr (some (5, j, 0)))), some (.inl x), some (.inr (.inr (some (3, j, x)))), some (.inr (.inr (some (6, j, (M 5 j 0 4)))))], [.inl 3, .inl (M 3 j x 2), .inl (M 3 j x 1), .inr (.inr (some (1, j, 0)))], (wri (wri (wri (wri (wri (wri M 6 j (M 5 j 0 4) 0 2) 6 j (M 5 j 0 4) 1 (M 3 j x 1)) 6 j (M 5 j 0 4) 2 (M 3 j x 2)) 6 j (M 5 j 0 4) 3 ((M 3 j x 2) * (M 0 j ((M 3 j x 1) / 100) 2))) 6 j (M 5 j 0 4) 4 0) 5 j 0 7 ((M 5 j 0 7) + ((M 3 j x 2) * (M 0 j ((M 3 j x 1) / 100) 2))))) _)
            refine ev_cl (z := z_X1_mark) (as := [.inr (.inr (some (1, j, 0))), .inl (M 3 j x 1), .inl (M 3 j x 2), .inl 3]) (rest := []) rfl (d_mark (by omega) (by omega)) ?_
            intro rr M2 hqM2
            obtain ⟨rfl, hM2⟩ := hqM2
            subst hM2
            show EvI X E_X5_buyHold (141, [some (.inr (.inr (some (5, j, 0)))), some (.inl x), some (.inr (.inr (some (3, j, x)))), some (.inr (.inr (some (6, j, (M 5 j 0 4)))))], [], (bcM (wri (wri (wri (wri (wri (wri M 6 j (M 5 j 0 4) 0 2) 6 j (M 5 j 0 4) 1 (M 3 j x 1)) 6 j (M 5 j 0 4) 2 (M 3 j x 2)) 6 j (M 5 j 0 4) 3 ((M 3 j x 2) * (M 0 j ((M 3 j x 1) / 100) 2))) 6 j (M 5 j 0 4) 4 0) 5 j 0 7 ((M 5 j 0 7) + ((M 3 j x 2) * (M 0 j ((M 3 j x 1) / 100) 2)))) j (M 3 j x 1) (M 3 j x 2) 3)) _
            refine seg_ok 6 (?_ : EvI X E_X5_buyHold (151, [some (.inr (.inr (some (5, j, 0)))), some (.inl x), some (.inr (.inr (some (3, j, x)))), some (.inr (.inr (some (6, j, (M 5 j 0 4)))))], [.inl ((wri (wri (wri (wri (wri (wri M 6 j (M 5 j 0 4) 0 2) 6 j (M 5 j 0 4) 1 (M 3 j x 1)) 6 j (M 5 j 0 4) 2 (M 3 j x 2)) 6 j (M 5 j 0 4) 3 ((M 3 j x 2) * (M 0 j ((M 3 j x 1) / 100) 2))) 6 j (M 5 j 0 4) 4 0) 5 j 0 7 ((M 5 j 0 7) + ((M 3 j x 2) * (M 0 j ((M 3 j x 1) / 100) 2)))) 5 j 0 4), .inr (.inr (some (3, j, x)))], (wri (bcM (wri (wri (wri (wri (wri (wri M 6 j (M 5 j 0 4) 0 2) 6 j (M 5 j 0 4) 1 (M 3 j x 1)) 6 j (M 5 j 0 4) 2 (M 3 j x 2)) 6 j (M 5 j 0 4) 3 ((M 3 j x 2) * (M 0 j ((M 3 j x 1) / 100) 2))) 6 j (M 5 j 0 4) 4 0) 5 j 0 7 ((M 5 j 0 7) + ((M 3 j x 2) * (M 0 j ((M 3 j x 1) / 100) 2)))) j (M 3 j x 1) (M 3 j x 2) 3) 3 j x 0 1)) _)
            rw [show ((wri (wri (wri (wri (wri (wri M 6 j (M 5 j 0 4) 0 2) 6 j (M 5 j 0 4) 1 (M 3 j x 1)) 6 j (M 5 j 0 4) 2 (M 3 j x 2)) 6 j (M 5 j 0 4) 3 ((M 3 j x 2) * (M 0 j ((M 3 j x 1) / 100) 2))) 6 j (M 5 j 0 4) 4 0) 5 j 0 7 ((M 5 j 0 7) + ((M 3 j x 2) * (M 0 j ((M 3 j x 1) / 100) 2)))) 5 j 0 4) = (M 5 j 0 4) from wri_nes (by decide)]
            refine seg_ok 4 (?_ : EvI X E_X5_buyHold (159, [some (.inr (.inr (some (5, j, 0)))), some (.inl x), some (.inr (.inr (some (3, j, x)))), some (.inr (.inr (some (6, j, (M 5 j 0 4)))))], [.inl ((wri (wri (wri (wri (wri (wri M 6 j (M 5 j 0 4) 0 2) 6 j (M 5 j 0 4) 1 (M 3 j x 1)) 6 j (M 5 j 0 4) 2 (M 3 j x 2)) 6 j (M 5 j 0 4) 3 ((M 3 j x 2) * (M 0 j ((M 3 j x 1) / 100) 2))) 6 j (M 5 j 0 4) 4 0) 5 j 0 7 ((M 5 j 0 7) + ((M 3 j x 2) * (M 0 j ((M 3 j x 1) / 100) 2)))) 5 j 0 4), .inr (.inr (some (5, j, 0)))], (wri (wri (bcM (wri (wri (wri (wri (wri (wri M 6 j (M 5 j 0 4) 0 2) 6 j (M 5 j 0 4) 1 (M 3 j x 1)) 6 j (M 5 j 0 4) 2 (M 3 j x 2)) 6 j (M 5 j 0 4) 3 ((M 3 j x 2) * (M 0 j ((M 3 j x 1) / 100) 2))) 6 j (M 5 j 0 4) 4 0) 5 j 0 7 ((M 5 j 0 7) + ((M 3 j x 2) * (M 0 j ((M 3 j x 1) / 100) 2)))) j (M 3 j x 1) (M 3 j x 2) 3) 3 j x 0 1) 3 j x 4 (M 5 j 0 4))) _)
            rw [show ((wri (wri (wri (wri (wri (wri M 6 j (M 5 j 0 4) 0 2) 6 j (M 5 j 0 4) 1 (M 3 j x 1)) 6 j (M 5 j 0 4) 2 (M 3 j x 2)) 6 j (M 5 j 0 4) 3 ((M 3 j x 2) * (M 0 j ((M 3 j x 1) / 100) 2))) 6 j (M 5 j 0 4) 4 0) 5 j 0 7 ((M 5 j 0 7) + ((M 3 j x 2) * (M 0 j ((M 3 j x 1) / 100) 2)))) 5 j 0 4) = (M 5 j 0 4) from wri_nes (by decide)]
            refine seg_ok 5 (⟨by omega, ?_⟩ : ((-2147483648 : Int) ≤ ((M 5 j 0 4) + 1) ∧ ((M 5 j 0 4) + 1) < 2147483648) ∧ EvI X E_X5_buyHold (168, [some (.inr (.inr (some (5, j, 0)))), some (.inl x), some (.inr (.inr (some (3, j, x)))), some (.inr (.inr (some (6, j, (M 5 j 0 4)))))], [.inl ((wri (wri (wri (bcM (wri (wri (wri (wri (wri (wri M 6 j (M 5 j 0 4) 0 2) 6 j (M 5 j 0 4) 1 (M 3 j x 1)) 6 j (M 5 j 0 4) 2 (M 3 j x 2)) 6 j (M 5 j 0 4) 3 ((M 3 j x 2) * (M 0 j ((M 3 j x 1) / 100) 2))) 6 j (M 5 j 0 4) 4 0) 5 j 0 7 ((M 5 j 0 7) + ((M 3 j x 2) * (M 0 j ((M 3 j x 1) / 100) 2)))) j (M 3 j x 1) (M 3 j x 2) 3) 3 j x 0 1) 3 j x 4 (M 5 j 0 4)) 5 j 0 4 ((M 5 j 0 4) + 1)) 5 j 0 4)], (wri (wri (wri (bcM (wri (wri (wri (wri (wri (wri M 6 j (M 5 j 0 4) 0 2) 6 j (M 5 j 0 4) 1 (M 3 j x 1)) 6 j (M 5 j 0 4) 2 (M 3 j x 2)) 6 j (M 5 j 0 4) 3 ((M 3 j x 2) * (M 0 j ((M 3 j x 1) / 100) 2))) 6 j (M 5 j 0 4) 4 0) 5 j 0 7 ((M 5 j 0 7) + ((M 3 j x 2) * (M 0 j ((M 3 j x 1) / 100) 2)))) j (M 3 j x 1) (M 3 j x 2) 3) 3 j x 0 1) 3 j x 4 (M 5 j 0 4)) 5 j 0 4 ((M 5 j 0 4) + 1))) _)
            rw [show ((wri (wri (wri (bcM (wri (wri (wri (wri (wri (wri M 6 j (M 5 j 0 4) 0 2) 6 j (M 5 j 0 4) 1 (M 3 j x 1)) 6 j (M 5 j 0 4) 2 (M 3 j x 2)) 6 j (M 5 j 0 4) 3 ((M 3 j x 2) * (M 0 j ((M 3 j x 1) / 100) 2))) 6 j (M 5 j 0 4) 4 0) 5 j 0 7 ((M 5 j 0 7) + ((M 3 j x 2) * (M 0 j ((M 3 j x 1) / 100) 2)))) j (M 3 j x 1) (M 3 j x 2) 3) 3 j x 0 1) 3 j x 4 (M 5 j 0 4)) 5 j 0 4 ((M 5 j 0 4) + 1)) 5 j 0 4) = ((M 5 j 0 4) + 1) from wri_eq]
            refine seg_ok 2 (⟨by omega, ?_⟩ : ((-2147483648 : Int) ≤ (((M 5 j 0 4) + 1) - 1) ∧ (((M 5 j 0 4) + 1) - 1) < 2147483648) ∧ EvI X E_X5_buyHold (170, [some (.inr (.inr (some (5, j, 0)))), some (.inl x), some (.inr (.inr (some (3, j, x)))), some (.inr (.inr (some (6, j, (M 5 j 0 4)))))], [.inl (((M 5 j 0 4) + 1) - 1)], (wri (wri (wri (bcM (wri (wri (wri (wri (wri (wri M 6 j (M 5 j 0 4) 0 2) 6 j (M 5 j 0 4) 1 (M 3 j x 1)) 6 j (M 5 j 0 4) 2 (M 3 j x 2)) 6 j (M 5 j 0 4) 3 ((M 3 j x 2) * (M 0 j ((M 3 j x 1) / 100) 2))) 6 j (M 5 j 0 4) 4 0) 5 j 0 7 ((M 5 j 0 7) + ((M 3 j x 2) * (M 0 j ((M 3 j x 1) / 100) 2)))) j (M 3 j x 1) (M 3 j x 2) 3) 3 j x 0 1) 3 j x 4 (M 5 j 0 4)) 5 j 0 4 ((M 5 j 0 4) + 1))) _)
            refine ev_rt (r := some (.inl (((M 5 j 0 4) + 1) - 1))) rfl (?_)
            have e : opBuy (sl M j) x = (M 5 j 0 4, buyS (sl M j) x) := (cif_f (fun z => z hb)).trans (cif_f (fun z => z h16))
            exact ⟨rint (by rw [e] <;> first | rfl | (dsimp only; omega)), by rw [e] <;> simp only [sl_wri, sl_bcM, buyS, cif_f (show ¬ sl M j 5 0 6 = 0 from h46)] <;> try rfl, FR_wri stK_5 (FR_wri stK_3 (FR_wri stK_3 (FR_bc (FR_wri stK_5 (FR_wri stK_6 (FR_wri stK_6 (FR_wri stK_6 (FR_wri stK_6 (FR_wri stK_6 (FR_rf))))))))))⟩
      · exfalso
        omega
    · refine seg_ok 1 (?_ : EvI X E_X5_buyHold (30, [some (.inr (.inr (some (5, j, 0)))), some (.inl x), some (.inr (.inr (some (3, j, x)))), none], [.inl (-2)], M) _)
      refine ev_rt (r := some (.inl (-2))) rfl (?_)
      have e : opBuy (sl M j) x = (-2, sl M j) := (cif_f (fun z => z hb)).trans (cif_t h16)
      exact ⟨rint (by rw [e]), by rw [e], FR_rf⟩
  · refine ev_clp (v := .inr (.inr none)) (z := z_X5_holdAt) (as := [.inr (.inr (some (5, j, 0))), .inl x]) (rest := []) rfl (d_holdAt_f hb) (?_ : EvI X E_X5_buyHold (5, [some (.inr (.inr (some (5, j, 0)))), some (.inl x), none, none], [.inr (.inr none)], M) _)
    refine seg_ok 4 (?_ : EvI X E_X5_buyHold (11, [some (.inr (.inr (some (5, j, 0)))), some (.inl x), some (.inr (.inr none)), none], [.inl (-1)], M) _)
    refine ev_rt (r := some (.inl (-1))) rfl (?_)
    have e : opBuy (sl M j) x = (-1, sl M j) := cif_t hb
    exact ⟨rint (by rw [e]), by rw [e], FR_rf⟩
theorem d_dropHold {m : Int} {M : NM} {j : Int} (hI : Inv m (sl M j)) {x : Int} : HT X z_X5_dropHold [.inr (.inr (some (5, j, 0))), .inl x] M (fun rr MM => rr = some (.inl (opDrop (sl M j) x).1) ∧ sl MM j = (opDrop (sl M j) x).2 ∧ FR j M MM) := by
  have hi := hI.1
  simp only [Iv0, sl] at hi
  refine ht_of (e := E_X5_dropHold) rfl (?_ : EvI X E_X5_dropHold (0, [some (.inr (.inr (some (5, j, 0)))), some (.inl x), none], [], M) _)
  refine seg_ok 2 (?_ : EvI X E_X5_dropHold (2, [some (.inr (.inr (some (5, j, 0)))), some (.inl x), none], [.inl x, .inr (.inr (some (5, j, 0)))], M) _)
  by_cases hb : 0 ≤ x ∧ x < M 5 j 0 3
  · have hh := HO_r hI (HO_h hI hb)
    simp only [sl] at hh
    refine ev_clp (v := .inr (.inr (some (3, j, x)))) (z := z_X5_holdAt) (as := [.inr (.inr (some (5, j, 0))), .inl x]) (rest := []) rfl (d_holdAt_t hb (by omega)) (?_ : EvI X E_X5_dropHold (5, [some (.inr (.inr (some (5, j, 0)))), some (.inl x), none], [.inr (.inr (some (3, j, x)))], M) _)
    refine seg_ok 6 (?_ : EvI X E_X5_dropHold (if (M 3 j x 0) = 0 then 22 else 19, [some (.inr (.inr (some (5, j, 0)))), some (.inl x), some (.inr (.inr (some (3, j, x))))], [], M) _)
    refine ev_if (fun h16 => ?_) (fun h16 => ?_)
    · refine seg_ok 7 (?_ : EvI X E_X5_dropHold (35, [some (.inr (.inr (some (5, j, 0)))), some (.inl x), some (.inr (.inr (some (3, j, x))))], [.inl ((wri M 3 j x 0 2) 3 j x 1), .inr (.inr (some (1, j, 0)))], (wri M 3 j x 0 2)) _)
      rw [show ((wri M 3 j x 0 2) 3 j x 1) = (M 3 j x 1) from wri_nes (by decide)]
      refine seg_ok 2 (?_ : EvI X E_X5_dropHold (39, [some (.inr (.inr (some (5, j, 0)))), some (.inl x), some (.inr (.inr (some (3, j, x))))], [.inl ((wri M 3 j x 0 2) 3 j x 2), .inl (M 3 j x 1), .inr (.inr (some (1, j, 0)))], (wri M 3 j x 0 2)) _)
      rw [show ((wri M 3 j x 0 2) 3 j x 2) = (M 3 j x 2) from wri_nes (by decide)]
      refine seg_ok 1 (?_ : EvI X E_X5_dropHold (40, [some (.inr (.inr (some (5, j, 0)))), some (.inl x), some (.inr (.inr (some (3, j, x))))], [.inl 0, .inl (M 3 j x 2), .inl (M 3 j x 1), .inr (.inr (some (1, j, 0)))], (wri M 3 j x 0 2)) _)
      refine ev_cl (z := z_X1_mark) (as := [.inr (.inr (some (1, j, 0))), .inl (M 3 j x 1), .inl (M 3 j x 2), .inl 0]) (rest := []) rfl (d_mark (by omega) (by omega)) ?_
      intro rr M1 hqM1
      obtain ⟨rfl, hM1⟩ := hqM1
      subst hM1
      show EvI X E_X5_dropHold (43, [some (.inr (.inr (some (5, j, 0)))), some (.inl x), some (.inr (.inr (some (3, j, x))))], [], (bcM (wri M 3 j x 0 2) j (M 3 j x 1) (M 3 j x 2) 0)) _
      refine seg_ok 2 (?_ : EvI X E_X5_dropHold (47, [some (.inr (.inr (some (5, j, 0)))), some (.inl x), some (.inr (.inr (some (3, j, x))))], [.inl ((wri M 3 j x 0 2) 3 j x 2)], (bcM (wri M 3 j x 0 2) j (M 3 j x 1) (M 3 j x 2) 0)) _)
      rw [show ((wri M 3 j x 0 2) 3 j x 2) = (M 3 j x 2) from wri_nes (by decide)]
      refine ev_rt (r := some (.inl (M 3 j x 2))) rfl (?_)
      have e : opDrop (sl M j) x = (M 3 j x 2, bec (st (sl M j) 3 x 0 2) (M 3 j x 1) (M 3 j x 2) 0) := (cif_f (fun z => z hb)).trans (cif_f (fun z => z h16))
      exact ⟨rint (by rw [e] <;> first | rfl | (dsimp only; omega)), by rw [e] <;> simp only [sl_wri, sl_bcM, sl] <;> try rfl, FR_bc (FR_wri stK_3 (FR_rf))⟩
    · refine seg_ok 1 (?_ : EvI X E_X5_dropHold (21, [some (.inr (.inr (some (5, j, 0)))), some (.inl x), some (.inr (.inr (some (3, j, x))))], [.inl (-2)], M) _)
      refine ev_rt (r := some (.inl (-2))) rfl (?_)
      have e : opDrop (sl M j) x = (-2, sl M j) := (cif_f (fun z => z hb)).trans (cif_t h16)
      exact ⟨rint (by rw [e]), by rw [e], FR_rf⟩
  · refine ev_clp (v := .inr (.inr none)) (z := z_X5_holdAt) (as := [.inr (.inr (some (5, j, 0))), .inl x]) (rest := []) rfl (d_holdAt_f hb) (?_ : EvI X E_X5_dropHold (5, [some (.inr (.inr (some (5, j, 0)))), some (.inl x), none], [.inr (.inr none)], M) _)
    refine seg_ok 4 (?_ : EvI X E_X5_dropHold (11, [some (.inr (.inr (some (5, j, 0)))), some (.inl x), some (.inr (.inr none))], [.inl (-1)], M) _)
    refine ev_rt (r := some (.inl (-1))) rfl (?_)
    have e : opDrop (sl M j) x = (-1, sl M j) := cif_t hb
    exact ⟨rint (by rw [e]), by rw [e], FR_rf⟩
theorem d_returnTicket {m : Int} {M : NM} {j : Int} (hI : Inv m (sl M j)) {x : Int} : HT X z_X5_returnTicket [.inr (.inr (some (5, j, 0))), .inl x] M (fun rr MM => rr = some (.inl (opBack (sl M j) x).1) ∧ sl MM j = (opBack (sl M j) x).2 ∧ FR j M MM) := by
  have hi := hI.1
  simp only [Iv0, sl] at hi
  refine ht_of (e := E_X5_returnTicket) rfl (?_ : EvI X E_X5_returnTicket (0, [some (.inr (.inr (some (5, j, 0)))), some (.inl x), none, none], [], M) _)
  refine seg_ok 2 (?_ : EvI X E_X5_returnTicket (2, [some (.inr (.inr (some (5, j, 0)))), some (.inl x), none, none], [.inl x, .inr (.inr (some (5, j, 0)))], M) _)
  by_cases hb : 0 ≤ x ∧ x < M 5 j 0 4
  · have hh := HO_r hI (HO_t hI hb)
    have ht := (hI.2.2.2.2.1 x hb.1 hb.2).2
    simp only [sl] at hh ht
    refine ev_clp (v := .inr (.inr (some (6, j, x)))) (z := z_X5_ticketAt) (as := [.inr (.inr (some (5, j, 0))), .inl x]) (rest := []) rfl (d_ticketAt_t hb (by omega)) (?_ : EvI X E_X5_returnTicket (5, [some (.inr (.inr (some (5, j, 0)))), some (.inl x), none, none], [.inr (.inr (some (6, j, x)))], M) _)
    refine seg_ok 6 (?_ : EvI X E_X5_returnTicket (if (M 6 j x 0) = 0 then 22 else 19, [some (.inr (.inr (some (5, j, 0)))), some (.inl x), some (.inr (.inr (some (6, j, x)))), none], [], M) _)
    refine ev_if (fun h16 => ?_) (fun h16 => ?_)
    · refine seg_ok 20 (⟨by omega, by omega, by omega, ?_⟩ : ((-2147483648 : Int) ≤ ((M 6 j x 3) * 3) ∧ ((M 6 j x 3) * 3) < 2147483648) ∧ ((0 : Int) ≤ ((M 6 j x 3) * 3) ∧ (0 : Int) < 4) ∧ ((-2147483648 : Int) ≤ ((M 5 j 0 8) + (((M 6 j x 3) * 3) / 4)) ∧ ((M 5 j 0 8) + (((M 6 j x 3) * 3) / 4)) < 2147483648) ∧ EvI X E_X5_returnTicket (54, [some (.inr (.inr (some (5, j, 0)))), some (.inl x), some (.inr (.inr (some (6, j, x)))), some (.inl (((M 6 j x 3) * 3) / 4))], [.inl ((wri M 6 j x 0 1) 6 j x 1), .inr (.inr (some (1, j, 0)))], (wri (wri M 6 j x 0 1) 5 j 0 8 ((M 5 j 0 8) + (((M 6 j x 3) * 3) / 4)))) _)
      rw [show ((wri M 6 j x 0 1) 6 j x 1) = (M 6 j x 1) from wri_nes (by decide)]
      refine seg_ok 2 (?_ : EvI X E_X5_returnTicket (58, [some (.inr (.inr (some (5, j, 0)))), some (.inl x), some (.inr (.inr (some (6, j, x)))), some (.inl (((M 6 j x 3) * 3) / 4))], [.inl ((wri M 6 j x 0 1) 6 j x 2), .inl (M 6 j x 1), .inr (.inr (some (1, j, 0)))], (wri (wri M 6 j x 0 1) 5 j 0 8 ((M 5 j 0 8) + (((M 6 j x 3) * 3) / 4)))) _)
      rw [show ((wri M 6 j x 0 1) 6 j x 2) = (M 6 j x 2) from wri_nes (by decide)]
      refine seg_ok 1 (?_ : EvI X E_X5_returnTicket (59, [some (.inr (.inr (some (5, j, 0)))), some (.inl x), some (.inr (.inr (some (6, j, x)))), some (.inl (((M 6 j x 3) * 3) / 4))], [.inl 0, .inl (M 6 j x 2), .inl (M 6 j x 1), .inr (.inr (some (1, j, 0)))], (wri (wri M 6 j x 0 1) 5 j 0 8 ((M 5 j 0 8) + (((M 6 j x 3) * 3) / 4)))) _)
      refine ev_cl (z := z_X1_mark) (as := [.inr (.inr (some (1, j, 0))), .inl (M 6 j x 1), .inl (M 6 j x 2), .inl 0]) (rest := []) rfl (d_mark (by omega) (by omega)) ?_
      intro rr M1 hqM1
      obtain ⟨rfl, hM1⟩ := hqM1
      subst hM1
      show EvI X E_X5_returnTicket (62, [some (.inr (.inr (some (5, j, 0)))), some (.inl x), some (.inr (.inr (some (6, j, x)))), some (.inl (((M 6 j x 3) * 3) / 4))], [], (bcM (wri (wri M 6 j x 0 1) 5 j 0 8 ((M 5 j 0 8) + (((M 6 j x 3) * 3) / 4))) j (M 6 j x 1) (M 6 j x 2) 0)) _
      refine seg_ok 1 (?_ : EvI X E_X5_returnTicket (63, [some (.inr (.inr (some (5, j, 0)))), some (.inl x), some (.inr (.inr (some (6, j, x)))), some (.inl (((M 6 j x 3) * 3) / 4))], [.inl (((M 6 j x 3) * 3) / 4)], (bcM (wri (wri M 6 j x 0 1) 5 j 0 8 ((M 5 j 0 8) + (((M 6 j x 3) * 3) / 4))) j (M 6 j x 1) (M 6 j x 2) 0)) _)
      refine ev_rt (r := some (.inl (((M 6 j x 3) * 3) / 4))) rfl (?_)
      have e : opBack (sl M j) x = (M 6 j x 3 * 3 / 4, bec (st (st (sl M j) 6 x 0 1) 5 0 8 (M 5 j 0 8 + M 6 j x 3 * 3 / 4)) (M 6 j x 1) (M 6 j x 2) 0) := (cif_f (fun z => z hb)).trans (cif_f (fun z => z h16))
      exact ⟨rint (by rw [e] <;> first | rfl | (dsimp only; omega)), by rw [e] <;> simp only [sl_wri, sl_bcM, sl] <;> try rfl, FR_bc (FR_wri stK_5 (FR_wri stK_6 (FR_rf)))⟩
    · refine seg_ok 1 (?_ : EvI X E_X5_returnTicket (21, [some (.inr (.inr (some (5, j, 0)))), some (.inl x), some (.inr (.inr (some (6, j, x)))), none], [.inl (-2)], M) _)
      refine ev_rt (r := some (.inl (-2))) rfl (?_)
      have e : opBack (sl M j) x = (-2, sl M j) := (cif_f (fun z => z hb)).trans (cif_t h16)
      exact ⟨rint (by rw [e]), by rw [e], FR_rf⟩
  · refine ev_clp (v := .inr (.inr none)) (z := z_X5_ticketAt) (as := [.inr (.inr (some (5, j, 0))), .inl x]) (rest := []) rfl (d_ticketAt_f hb) (?_ : EvI X E_X5_returnTicket (5, [some (.inr (.inr (some (5, j, 0)))), some (.inl x), none, none], [.inr (.inr none)], M) _)
    refine seg_ok 4 (?_ : EvI X E_X5_returnTicket (11, [some (.inr (.inr (some (5, j, 0)))), some (.inl x), some (.inr (.inr none)), none], [.inl (-1)], M) _)
    refine ev_rt (r := some (.inl (-1))) rfl (?_)
    have e : opBack (sl M j) x = (-1, sl M j) := cif_t hb
    exact ⟨rint (by rw [e]), by rw [e], FR_rf⟩
theorem d_chairsIn {m : Int} {M : NM} {j : Int} (hI : Inv m (sl M j))  : HT X z_X1_chairsIn [.inr (.inr (some (1, j, 0)))] M (fun rr MM => rr = some (.inl (ctA (sl M j) (fun c => M 13 j 0 c = 3))) ∧ MM = M) := by
  have hi := hI.1
  simp only [Iv0, sl] at hi
  refine ht_of (e := E_X1_chairsIn) rfl (?_ : EvI X E_X1_chairsIn (0, [some (.inr (.inr (some (1, j, 0)))), none, none], [], M) _)
  refine seg_ok 4 (?_ : EvI X E_X1_chairsIn (4, [some (.inr (.inr (some (1, j, 0)))), some (.inl 0), some (.inl 0)], [], M) _)
  have L4 : ∀ (m4 : Nat) (n b : Int), M 1 j 0 3 - b < (m4 : Int) → (0 ≤ b) → (b ≤ M 1 j 0 3) → (n = sm (fun b => ct (sl M j) b (fun c => M 13 j 0 c = 3)) b.toNat) → EvI X E_X1_chairsIn (4, [some (.inr (.inr (some (1, j, 0)))), some (.inl n), some (.inl b)], [], M) (fun rr MM => rr = some (.inl (ctA (sl M j) (fun c => M 13 j 0 c = 3))) ∧ MM = M) := by
    intro m4
    induction m4 with
    | zero => intro n b hm4 q1 q2 q3; exact absurd hm4 (by omega)
    | succ m4 ih4 =>
      intro n b hm4 q1 q2 q3
      subst q3
      have g1 := ctA_bnd hI (fun c => M 13 j 0 c = 3) (n := b.toNat) (by show (b.toNat : Int) ≤ M 1 j 0 3; omega)
      have g2 : b < M 1 j 0 3 → 0 ≤ ct (sl M j) b (fun c => M 13 j 0 c = 3) ∧ ct (sl M j) b (fun c => M 13 j 0 c = 3) ≤ 60 := fun z => ct_bnd hI _ ⟨q1, z⟩
      refine seg_ok 4 (?_ : EvI X E_X1_chairsIn (if b < (M 1 j 0 3) then 12 else 27, [some (.inr (.inr (some (1, j, 0)))), some (.inl (sm (fun b => ct (sl M j) b (fun c => M 13 j 0 c = 3)) b.toNat)), some (.inl b)], [], M) _)
      refine ev_if (fun h9 => ?_) (fun h9 => ?_)
      · refine seg_ok 4 (?_ : EvI X E_X1_chairsIn (16, [some (.inr (.inr (some (1, j, 0)))), some (.inl (sm (fun b => ct (sl M j) b (fun c => M 13 j 0 c = 3)) b.toNat)), some (.inl b)], [.inl b, .inl 3, .inr (.inr (some (1, j, 0))), .inl (sm (fun b => ct (sl M j) b (fun c => M 13 j 0 c = 3)) b.toNat)], M) _)
        refine ev_clp (v := .inl (ct (sl M j) b (fun c => M 13 j 0 c = 3))) (z := z_X1_chairsThatAre) (as := [.inr (.inr (some (1, j, 0))), .inl 3, .inl b]) (rest := [.inl (sm (fun b => ct (sl M j) b (fun c => M 13 j 0 c = 3)) b.toNat)]) rfl (d_chairsThatAre hI (by omega)) (?_ : EvI X E_X1_chairsIn (19, [some (.inr (.inr (some (1, j, 0)))), some (.inl (sm (fun b => ct (sl M j) b (fun c => M 13 j 0 c = 3)) b.toNat)), some (.inl b)], [.inl (ct (sl M j) b (fun c => M 13 j 0 c = 3)), .inl (sm (fun b => ct (sl M j) b (fun c => M 13 j 0 c = 3)) b.toNat)], M) _)
        refine seg_ok 4 (⟨by omega, by omega, ?_⟩ : ((-2147483648 : Int) ≤ ((sm (fun b => ct (sl M j) b (fun c => M 13 j 0 c = 3)) b.toNat) + (ct (sl M j) b (fun c => M 13 j 0 c = 3))) ∧ ((sm (fun b => ct (sl M j) b (fun c => M 13 j 0 c = 3)) b.toNat) + (ct (sl M j) b (fun c => M 13 j 0 c = 3))) < 2147483648) ∧ ((-2147483648 : Int) ≤ (b + 1) ∧ (b + 1) < 2147483648) ∧ EvI X E_X1_chairsIn (4, [some (.inr (.inr (some (1, j, 0)))), some (.inl ((sm (fun b => ct (sl M j) b (fun c => M 13 j 0 c = 3)) b.toNat) + (ct (sl M j) b (fun c => M 13 j 0 c = 3)))), some (.inl (b + 1))], [], M) _)
        refine ih4 ((sm (fun b => ct (sl M j) b (fun c => M 13 j 0 c = 3)) b.toNat) + (ct (sl M j) b (fun c => M 13 j 0 c = 3))) (b + 1) (by omega) (by omega) (by omega) (by rw [sm_step q1])
      · refine seg_ok 1 (?_ : EvI X E_X1_chairsIn (28, [some (.inr (.inr (some (1, j, 0)))), some (.inl (sm (fun b => ct (sl M j) b (fun c => M 13 j 0 c = 3)) b.toNat)), some (.inl b)], [.inl (sm (fun b => ct (sl M j) b (fun c => M 13 j 0 c = 3)) b.toNat)], M) _)
        refine ev_rt (r := some (.inl (sm (fun b => ct (sl M j) b (fun c => M 13 j 0 c = 3)) b.toNat))) rfl (?_)
        exact ⟨rint (by rw [show b = M 1 j 0 3 by omega]; rfl), rfl⟩
  refine L4 ((M 1 j 0 3 - 0) + 1 : Int).toNat 0 0 (by omega) (by omega) (by omega) rfl
theorem inS_eq {S : Sl} {t : Int} : inS S t = bec (st (st S 6 t 0 2) 5 0 8 (S 5 0 8 + 0)) (S 6 t 1) (S 6 t 2) 3 := by
  have e : st (st S 6 t 0 2) 5 0 8 (S 5 0 8 + 0) = st S 6 t 0 2 := by
    funext K i s
    by_cases h : K = 5 ∧ i = 0 ∧ s = 8
    · obtain ⟨rfl, rfl, rfl⟩ := h
      rw [st_eq, Int.add_zero]; rfl
    · exact if_neg h
  rw [e]; rfl
theorem Inv_in {m : Int} {S : Sl} (hI : Inv m S) (hm : m + 1 ≤ 62000) {t : Int} (ht : 0 ≤ t ∧ t < S 5 0 4) (ho : S 6 t 0 = 0) : Inv (m + 1) (inS S t) := by
  rw [inS_eq]; exact Inv_endT hI hm ht ho (Or.inr (Or.inl rfl)) (Or.inr rfl) (by decide)
theorem sl_admit {M : NM} {j x : Int} : sl (bcM (wri M 6 j x 0 2) j (M 6 j x 1) (M 6 j x 2) 3) j = inS (sl M j) x := by rw [sl_bcM, sl_wri]; rfl
theorem d_admit {m : Int} {M : NM} {j : Int} (hI : Inv m (sl M j)) (hm : m + 1 ≤ 62000) {x : Int} : HT X z_X5_admit [.inr (.inr (some (5, j, 0))), .inl x] M (fun rr MM => rr = some (.inl (opIn (sl M j) x).1) ∧ sl MM j = (opIn (sl M j) x).2 ∧ FR j M MM) := by
  have hi := hI.1
  simp only [Iv0, sl] at hi
  refine ht_of (e := E_X5_admit) rfl (?_ : EvI X E_X5_admit (0, [some (.inr (.inr (some (5, j, 0)))), some (.inl x), none], [], M) _)
  refine seg_ok 2 (?_ : EvI X E_X5_admit (2, [some (.inr (.inr (some (5, j, 0)))), some (.inl x), none], [.inl x, .inr (.inr (some (5, j, 0)))], M) _)
  by_cases hb : 0 ≤ x ∧ x < M 5 j 0 4
  · have hh := HO_r hI (HO_t hI hb)
    simp only [sl] at hh
    refine ev_clp (v := .inr (.inr (some (6, j, x)))) (z := z_X5_ticketAt) (as := [.inr (.inr (some (5, j, 0))), .inl x]) (rest := []) rfl (d_ticketAt_t hb (by omega)) (?_ : EvI X E_X5_admit (5, [some (.inr (.inr (some (5, j, 0)))), some (.inl x), none], [.inr (.inr (some (6, j, x)))], M) _)
    refine seg_ok 6 (?_ : EvI X E_X5_admit (if (M 6 j x 0) = 0 then 22 else 19, [some (.inr (.inr (some (5, j, 0)))), some (.inl x), some (.inr (.inr (some (6, j, x))))], [], M) _)
    refine ev_if (fun h16 => ?_) (fun h16 => ?_)
    · refine seg_ok 7 (?_ : EvI X E_X5_admit (35, [some (.inr (.inr (some (5, j, 0)))), some (.inl x), some (.inr (.inr (some (6, j, x))))], [.inl ((wri M 6 j x 0 2) 6 j x 1), .inr (.inr (some (1, j, 0)))], (wri M 6 j x 0 2)) _)
      rw [show ((wri M 6 j x 0 2) 6 j x 1) = (M 6 j x 1) from wri_nes (by decide)]
      refine seg_ok 2 (?_ : EvI X E_X5_admit (39, [some (.inr (.inr (some (5, j, 0)))), some (.inl x), some (.inr (.inr (some (6, j, x))))], [.inl ((wri M 6 j x 0 2) 6 j x 2), .inl (M 6 j x 1), .inr (.inr (some (1, j, 0)))], (wri M 6 j x 0 2)) _)
      rw [show ((wri M 6 j x 0 2) 6 j x 2) = (M 6 j x 2) from wri_nes (by decide)]
      refine seg_ok 1 (?_ : EvI X E_X5_admit (40, [some (.inr (.inr (some (5, j, 0)))), some (.inl x), some (.inr (.inr (some (6, j, x))))], [.inl 3, .inl (M 6 j x 2), .inl (M 6 j x 1), .inr (.inr (some (1, j, 0)))], (wri M 6 j x 0 2)) _)
      refine ev_cl (z := z_X1_mark) (as := [.inr (.inr (some (1, j, 0))), .inl (M 6 j x 1), .inl (M 6 j x 2), .inl 3]) (rest := []) rfl (d_mark (by omega) (by omega)) ?_
      intro rr M1 hqM1
      obtain ⟨rfl, hM1⟩ := hqM1
      subst hM1
      show EvI X E_X5_admit (43, [some (.inr (.inr (some (5, j, 0)))), some (.inl x), some (.inr (.inr (some (6, j, x))))], [], (bcM (wri M 6 j x 0 2) j (M 6 j x 1) (M 6 j x 2) 3)) _
      refine seg_ok 2 (?_ : EvI X E_X5_admit (47, [some (.inr (.inr (some (5, j, 0)))), some (.inl x), some (.inr (.inr (some (6, j, x))))], [.inr (.inr (some (1, j, 0)))], (bcM (wri M 6 j x 0 2) j (M 6 j x 1) (M 6 j x 2) 3)) _)
      refine ev_clp (v := .inl (ctA (sl (bcM (wri M 6 j x 0 2) j (M 6 j x 1) (M 6 j x 2) 3) j) (fun c => (bcM (wri M 6 j x 0 2) j (M 6 j x 1) (M 6 j x 2) 3) 13 j 0 c = 3))) (z := z_X1_chairsIn) (as := [.inr (.inr (some (1, j, 0)))]) (rest := []) rfl (d_chairsIn (m := m + 1) (by rw [sl_bcM, sl_wri]; exact Inv_in hI hm hb h16)) (?_ : EvI X E_X5_admit (50, [some (.inr (.inr (some (5, j, 0)))), some (.inl x), some (.inr (.inr (some (6, j, x))))], [.inl (ctA (sl (bcM (wri M 6 j x 0 2) j (M 6 j x 1) (M 6 j x 2) 3) j) (fun c => (bcM (wri M 6 j x 0 2) j (M 6 j x 1) (M 6 j x 2) 3) 13 j 0 c = 3))], (bcM (wri M 6 j x 0 2) j (M 6 j x 1) (M 6 j x 2) 3)) _)
      refine ev_rt (r := some (.inl (ctA (sl (bcM (wri M 6 j x 0 2) j (M 6 j x 1) (M 6 j x 2) 3) j) (fun c => (bcM (wri M 6 j x 0 2) j (M 6 j x 1) (M 6 j x 2) 3) 13 j 0 c = 3)))) rfl (?_)
      have e : opIn (sl M j) x = (ctA (sl (bcM (wri M 6 j x 0 2) j (M 6 j x 1) (M 6 j x 2) 3) j) (fun c => sl (bcM (wri M 6 j x 0 2) j (M 6 j x 1) (M 6 j x 2) 3) j 13 0 c = 3), sl (bcM (wri M 6 j x 0 2) j (M 6 j x 1) (M 6 j x 2) 3) j) := ((cif_f (fun z => z hb)).trans (cif_f (fun z => z h16))).trans (by rw [sl_admit])
      exact ⟨rint (by rw [e] <;> first | rfl | (dsimp only; omega)), by rw [e] <;> simp only [sl_wri, sl_bcM, sl] <;> try rfl, FR_bc (FR_wri stK_6 (FR_rf))⟩
    · refine seg_ok 1 (?_ : EvI X E_X5_admit (21, [some (.inr (.inr (some (5, j, 0)))), some (.inl x), some (.inr (.inr (some (6, j, x))))], [.inl (-2)], M) _)
      refine ev_rt (r := some (.inl (-2))) rfl (?_)
      have e : opIn (sl M j) x = (-2, sl M j) := (cif_f (fun z => z hb)).trans (cif_t h16)
      exact ⟨rint (by rw [e]), by rw [e], FR_rf⟩
  · refine ev_clp (v := .inr (.inr none)) (z := z_X5_ticketAt) (as := [.inr (.inr (some (5, j, 0))), .inl x]) (rest := []) rfl (d_ticketAt_f hb) (?_ : EvI X E_X5_admit (5, [some (.inr (.inr (some (5, j, 0)))), some (.inl x), none], [.inr (.inr none)], M) _)
    refine seg_ok 4 (?_ : EvI X E_X5_admit (11, [some (.inr (.inr (some (5, j, 0)))), some (.inl x), some (.inr (.inr none))], [.inl (-1)], M) _)
    refine ev_rt (r := some (.inl (-1))) rfl (?_)
    have e : opIn (sl M j) x = (-1, sl M j) := cif_t hb
    exact ⟨rint (by rw [e]), by rw [e], FR_rf⟩
theorem d_raiseStage {m : Int} {M : NM} {j : Int} (hI : Inv m (sl M j)) {x : Int} : HT X z_X1_raiseStage [.inr (.inr (some (1, j, 0))), .inl x] M (fun rr MM => rr = some (.inl (opUp (sl M j) x).1) ∧ sl MM j = (opUp (sl M j) x).2 ∧ FR j M MM) := by
  have hi := hI.1
  simp only [Iv0, sl] at hi
  refine ht_of (e := E_X1_raiseStage) rfl (?_ : EvI X E_X1_raiseStage (0, [some (.inr (.inr (some (1, j, 0)))), some (.inl x)], [], M) _)
  refine seg_ok 2 (?_ : EvI X E_X1_raiseStage (2, [some (.inr (.inr (some (1, j, 0)))), some (.inl x)], [.inl x, .inr (.inr (some (1, j, 0)))], M) _)
  refine ev_clp (v := .inl (bi (0 ≤ x ∧ x < M 1 j 0 4))) (z := z_X1_isStage) (as := [.inr (.inr (some (1, j, 0))), .inl x]) (rest := []) rfl d_isStage (?_ : EvI X E_X1_raiseStage (5, [some (.inr (.inr (some (1, j, 0)))), some (.inl x)], [.inl (bi (0 ≤ x ∧ x < M 1 j 0 4))], M) _)
  refine seg_ok 1 (?_ : EvI X E_X1_raiseStage (if (bi (0 ≤ x ∧ x < M 1 j 0 4)) = 0 then 8 else 10, [some (.inr (.inr (some (1, j, 0)))), some (.inl x)], [], M) _)
  refine ev_ifb (fun h5 => ?_) (fun h5 => ?_)
  · refine seg_ok 1 (?_ : EvI X E_X1_raiseStage (9, [some (.inr (.inr (some (1, j, 0)))), some (.inl x)], [.inl (-1)], M) _)
    refine ev_rt (r := some (.inl (-1))) rfl (?_)
    have e : opUp (sl M j) x = (-1, sl M j) := cif_t h5
    exact ⟨rint (by rw [e]), by rw [e], FR_rf⟩
  · refine seg_ok 2 (?_ : EvI X E_X1_raiseStage (12, [some (.inr (.inr (some (1, j, 0)))), some (.inl x)], [.inl x, .inr (.inr (some (1, j, 0)))], M) _)
    refine ev_clp (v := .inl (bi (upP (sl M j) x))) (z := z_X1_isUp) (as := [.inr (.inr (some (1, j, 0))), .inl x]) (rest := []) rfl d_isUp (?_ : EvI X E_X1_raiseStage (15, [some (.inr (.inr (some (1, j, 0)))), some (.inl x)], [.inl (bi (upP (sl M j) x))], M) _)
    refine seg_ok 1 (?_ : EvI X E_X1_raiseStage (if (bi (upP (sl M j) x)) = 0 then 18 else 28, [some (.inr (.inr (some (1, j, 0)))), some (.inl x)], [], M) _)
    refine ev_ifb (fun h15 => ?_) (fun h15 => ?_)
    · refine seg_ok 4 (?_ : EvI X E_X1_raiseStage (22, [some (.inr (.inr (some (1, j, 0)))), some (.inl x)], [.inl (shlI 1 x), .inr (.inr (some (1, j, 0)))], M) _)
      refine ev_clp (v := .inl (bi (∃ c : Int, 0 ≤ c ∧ c < 600 ∧ andI (M 14 j 0 c) (shlI 1 x) ≠ 0 ∧ M 13 j 0 c ≠ 0))) (z := z_X1_hasTakenChairUnder) (as := [.inr (.inr (some (1, j, 0))), .inl (shlI 1 x)]) (rest := []) rfl d_hasTaken (?_ : EvI X E_X1_raiseStage (25, [some (.inr (.inr (some (1, j, 0)))), some (.inl x)], [.inl (bi (∃ c : Int, 0 ≤ c ∧ c < 600 ∧ andI (M 14 j 0 c) (shlI 1 x) ≠ 0 ∧ M 13 j 0 c ≠ 0))], M) _)
      refine seg_ok 1 (?_ : EvI X E_X1_raiseStage (if (bi (∃ c : Int, 0 ≤ c ∧ c < 600 ∧ andI (M 14 j 0 c) (shlI 1 x) ≠ 0 ∧ M 13 j 0 c ≠ 0)) = 0 then 31 else 28, [some (.inr (.inr (some (1, j, 0)))), some (.inl x)], [], M) _)
      refine ev_ifb (fun h25 => ?_) (fun h25 => ?_)
      · refine seg_ok 11 (?_ : EvI X E_X1_raiseStage (48, [some (.inr (.inr (some (1, j, 0)))), some (.inl x)], [.inl ((wri M 1 j 0 5 (orI (M 1 j 0 5) (shlI 1 x))) 1 j 0 5), .inr (.inr (some (1, j, 0)))], (wri M 1 j 0 5 (orI (M 1 j 0 5) (shlI 1 x)))) _)
        rw [show ((wri M 1 j 0 5 (orI (M 1 j 0 5) (shlI 1 x))) 1 j 0 5) = (orI (M 1 j 0 5) (shlI 1 x)) from wri_eq]
        refine ev_clp (v := .inl (sm (fun c => bi (andI ((wri M 1 j 0 5 (orI (M 1 j 0 5) (shlI 1 x))) 14 j 0 c) (orI (M 1 j 0 5) (shlI 1 x)) ≠ 0)) 600)) (z := z_X1_chairsUnder) (as := [.inr (.inr (some (1, j, 0))), .inl (orI (M 1 j 0 5) (shlI 1 x))]) (rest := []) rfl d_chairsUnder (?_ : EvI X E_X1_raiseStage (51, [some (.inr (.inr (some (1, j, 0)))), some (.inl x)], [.inl (sm (fun c => bi (andI ((wri M 1 j 0 5 (orI (M 1 j 0 5) (shlI 1 x))) 14 j 0 c) (orI (M 1 j 0 5) (shlI 1 x)) ≠ 0)) 600)], (wri M 1 j 0 5 (orI (M 1 j 0 5) (shlI 1 x)))) _)
        refine ev_rt (r := some (.inl (sm (fun c => bi (andI ((wri M 1 j 0 5 (orI (M 1 j 0 5) (shlI 1 x))) 14 j 0 c) (orI (M 1 j 0 5) (shlI 1 x)) ≠ 0)) 600))) rfl (?_)
        have e : opUp (sl M j) x = (sm (fun c => bi (andI (M 14 j 0 c) (orI (M 1 j 0 5) (shlI 1 x)) ≠ 0)) 600, upS (sl M j) x) := (cif_f (fun z => z h5)).trans (cif_f (fun z => z.elim h15 h25))
        exact ⟨rint (by rw [e] <;> first | rfl | (dsimp only; omega)), by rw [e] <;> simp only [sl_wri, sl_bcM, upS] <;> try rfl, FR_wri stK_1 (FR_rf)⟩
      · refine seg_ok 1 (?_ : EvI X E_X1_raiseStage (30, [some (.inr (.inr (some (1, j, 0)))), some (.inl x)], [.inl (-2)], M) _)
        refine ev_rt (r := some (.inl (-2))) rfl (?_)
        have e : opUp (sl M j) x = (-2, sl M j) := (cif_f (fun z => z h5)).trans (cif_t (Or.inr h25))
        exact ⟨rint (by rw [e]), by rw [e], FR_rf⟩
    · refine seg_ok 1 (?_ : EvI X E_X1_raiseStage (30, [some (.inr (.inr (some (1, j, 0)))), some (.inl x)], [.inl (-2)], M) _)
      refine ev_rt (r := some (.inl (-2))) rfl (?_)
      have e : opUp (sl M j) x = (-2, sl M j) := (cif_f (fun z => z h5)).trans (cif_t (Or.inl h15))
      exact ⟨rint (by rw [e]), by rw [e], FR_rf⟩
theorem d_lowerStage {m : Int} {M : NM} {j : Int} (hI : Inv m (sl M j)) {x : Int} : HT X z_X1_lowerStage [.inr (.inr (some (1, j, 0))), .inl x] M (fun rr MM => rr = some (.inl (opDown (sl M j) x).1) ∧ sl MM j = (opDown (sl M j) x).2 ∧ FR j M MM) := by
  have hi := hI.1
  simp only [Iv0, sl] at hi
  refine ht_of (e := E_X1_lowerStage) rfl (?_ : EvI X E_X1_lowerStage (0, [some (.inr (.inr (some (1, j, 0)))), some (.inl x)], [], M) _)
  refine seg_ok 2 (?_ : EvI X E_X1_lowerStage (2, [some (.inr (.inr (some (1, j, 0)))), some (.inl x)], [.inl x, .inr (.inr (some (1, j, 0)))], M) _)
  refine ev_clp (v := .inl (bi (0 ≤ x ∧ x < M 1 j 0 4))) (z := z_X1_isStage) (as := [.inr (.inr (some (1, j, 0))), .inl x]) (rest := []) rfl d_isStage (?_ : EvI X E_X1_lowerStage (5, [some (.inr (.inr (some (1, j, 0)))), some (.inl x)], [.inl (bi (0 ≤ x ∧ x < M 1 j 0 4))], M) _)
  refine seg_ok 1 (?_ : EvI X E_X1_lowerStage (if (bi (0 ≤ x ∧ x < M 1 j 0 4)) = 0 then 8 else 10, [some (.inr (.inr (some (1, j, 0)))), some (.inl x)], [], M) _)
  refine ev_ifb (fun h5 => ?_) (fun h5 => ?_)
  · refine seg_ok 1 (?_ : EvI X E_X1_lowerStage (9, [some (.inr (.inr (some (1, j, 0)))), some (.inl x)], [.inl (-1)], M) _)
    refine ev_rt (r := some (.inl (-1))) rfl (?_)
    have e : opDown (sl M j) x = (-1, sl M j) := cif_t h5
    exact ⟨rint (by rw [e]), by rw [e], FR_rf⟩
  · refine seg_ok 2 (?_ : EvI X E_X1_lowerStage (12, [some (.inr (.inr (some (1, j, 0)))), some (.inl x)], [.inl x, .inr (.inr (some (1, j, 0)))], M) _)
    refine ev_clp (v := .inl (bi (upP (sl M j) x))) (z := z_X1_isUp) (as := [.inr (.inr (some (1, j, 0))), .inl x]) (rest := []) rfl d_isUp (?_ : EvI X E_X1_lowerStage (15, [some (.inr (.inr (some (1, j, 0)))), some (.inl x)], [.inl (bi (upP (sl M j) x))], M) _)
    refine seg_ok 1 (?_ : EvI X E_X1_lowerStage (if (bi (upP (sl M j) x)) = 0 then 18 else 21, [some (.inr (.inr (some (1, j, 0)))), some (.inl x)], [], M) _)
    refine ev_ifb (fun h15 => ?_) (fun h15 => ?_)
    · refine seg_ok 1 (?_ : EvI X E_X1_lowerStage (20, [some (.inr (.inr (some (1, j, 0)))), some (.inl x)], [.inl (-2)], M) _)
      refine ev_rt (r := some (.inl (-2))) rfl (?_)
      have e : opDown (sl M j) x = (-2, sl M j) := (cif_f (fun z => z h5)).trans (cif_t h15)
      exact ⟨rint (by rw [e]), by rw [e], FR_rf⟩
    · refine seg_ok 13 (?_ : EvI X E_X1_lowerStage (40, [some (.inr (.inr (some (1, j, 0)))), some (.inl x)], [.inl ((wri M 1 j 0 5 (andI (M 1 j 0 5) (xorI (shlI 1 x) (-1)))) 1 j 0 5), .inr (.inr (some (1, j, 0)))], (wri M 1 j 0 5 (andI (M 1 j 0 5) (xorI (shlI 1 x) (-1))))) _)
      rw [show ((wri M 1 j 0 5 (andI (M 1 j 0 5) (xorI (shlI 1 x) (-1)))) 1 j 0 5) = (andI (M 1 j 0 5) (xorI (shlI 1 x) (-1))) from wri_eq]
      refine ev_clp (v := .inl (sm (fun c => bi (andI ((wri M 1 j 0 5 (andI (M 1 j 0 5) (xorI (shlI 1 x) (-1)))) 14 j 0 c) (andI (M 1 j 0 5) (xorI (shlI 1 x) (-1))) ≠ 0)) 600)) (z := z_X1_chairsUnder) (as := [.inr (.inr (some (1, j, 0))), .inl (andI (M 1 j 0 5) (xorI (shlI 1 x) (-1)))]) (rest := []) rfl d_chairsUnder (?_ : EvI X E_X1_lowerStage (43, [some (.inr (.inr (some (1, j, 0)))), some (.inl x)], [.inl (sm (fun c => bi (andI ((wri M 1 j 0 5 (andI (M 1 j 0 5) (xorI (shlI 1 x) (-1)))) 14 j 0 c) (andI (M 1 j 0 5) (xorI (shlI 1 x) (-1))) ≠ 0)) 600)], (wri M 1 j 0 5 (andI (M 1 j 0 5) (xorI (shlI 1 x) (-1))))) _)
      refine ev_rt (r := some (.inl (sm (fun c => bi (andI ((wri M 1 j 0 5 (andI (M 1 j 0 5) (xorI (shlI 1 x) (-1)))) 14 j 0 c) (andI (M 1 j 0 5) (xorI (shlI 1 x) (-1))) ≠ 0)) 600))) rfl (?_)
      have e : opDown (sl M j) x = (sm (fun c => bi (andI (M 14 j 0 c) (andI (M 1 j 0 5) (xorI (shlI 1 x) (-1))) ≠ 0)) 600, dnS (sl M j) x) := (cif_f (fun z => z h5)).trans (cif_f (fun z => z h15))
      exact ⟨rint (by rw [e] <;> first | rfl | (dsimp only; omega)), by rw [e] <;> simp only [sl_wri, sl_bcM, dnS] <;> try rfl, FR_wri stK_1 (FR_rf)⟩
end
end
