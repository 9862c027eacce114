section
-- ===== PART A: goes FIRST, ahead of the names: the tables' words, and 'selects' of the private methods out of them =====
/-- a private method of a class that the tables say can be made, by its rows of tables_1 -/
def lw_okq (q : MethodName × Nat) : Prop := (q.1.cls ≠ "java/lang/invoke/MethodHandle" ∧ q.1.cls ≠ "java/lang/invoke/VarHandle") ∧ Cond.instantiable q.1.cls q.2 ∈ tables_1 ∧ Cond.privateMethod q.1 ∈ tables_1 ∧ Cond.instanceMethod q.1 ∈ tables_1
theorem lw_p0 : lw_okq (⟨"WhalePost", "appendBytes", "(I)V"⟩, 16) := ⟨⟨by decide +kernel, by decide +kernel⟩, List.mem_of_getElem? (i := 27) (by decide +kernel), List.mem_of_getElem? (i := 499) (by decide +kernel), List.mem_of_getElem? (i := 500) (by decide +kernel)⟩
theorem lw_p1 : lw_okq (⟨"WhalePost", "refused", "(I)I"⟩, 16) := ⟨⟨by decide +kernel, by decide +kernel⟩, List.mem_of_getElem? (i := 27) (by decide +kernel), List.mem_of_getElem? (i := 507) (by decide +kernel), List.mem_of_getElem? (i := 508) (by decide +kernel)⟩
theorem lw_p2 : lw_okq (⟨"WhalePost$Reader", "readLine", "()Z"⟩, 13) := ⟨⟨by decide +kernel, by decide +kernel⟩, List.mem_of_getElem? (i := 250) (by decide +kernel), List.mem_of_getElem? (i := 522) (by decide +kernel), List.mem_of_getElem? (i := 523) (by decide +kernel)⟩
theorem lw_p3 : lw_okq (⟨"WhalePost$Reader", "nextToken", "()V"⟩, 13) := ⟨⟨by decide +kernel, by decide +kernel⟩, List.mem_of_getElem? (i := 250) (by decide +kernel), List.mem_of_getElem? (i := 526) (by decide +kernel), List.mem_of_getElem? (i := 527) (by decide +kernel)⟩
theorem lw_p4 : lw_okq (⟨"WhalePost$Reader", "passAll", "(CC)Z"⟩, 13) := ⟨⟨by decide +kernel, by decide +kernel⟩, List.mem_of_getElem? (i := 250) (by decide +kernel), List.mem_of_getElem? (i := 530) (by decide +kernel), List.mem_of_getElem? (i := 531) (by decide +kernel)⟩
theorem lw_p5 : lw_okq (⟨"WhalePost$Reader", "sortOfLine", "()I"⟩, 13) := ⟨⟨by decide +kernel, by decide +kernel⟩, List.mem_of_getElem? (i := 250) (by decide +kernel), List.mem_of_getElem? (i := 534) (by decide +kernel), List.mem_of_getElem? (i := 535) (by decide +kernel)⟩
theorem lw_p6 : lw_okq (⟨"WhalePost$Reader", "isToken", "(Ljava/lang/String;)Z"⟩, 13) := ⟨⟨by decide +kernel, by decide +kernel⟩, List.mem_of_getElem? (i := 250) (by decide +kernel), List.mem_of_getElem? (i := 539) (by decide +kernel), List.mem_of_getElem? (i := 540) (by decide +kernel)⟩
theorem lw_p7 : lw_okq (⟨"WhalePost$Reader", "faulty", "(I)Z"⟩, 13) := ⟨⟨by decide +kernel, by decide +kernel⟩, List.mem_of_getElem? (i := 250) (by decide +kernel), List.mem_of_getElem? (i := 596) (by decide +kernel), List.mem_of_getElem? (i := 597) (by decide +kernel)⟩
theorem lw_p8 : lw_okq (⟨"WhalePost$Reader", "readHead", "()Z"⟩, 13) := ⟨⟨by decide +kernel, by decide +kernel⟩, List.mem_of_getElem? (i := 250) (by decide +kernel), List.mem_of_getElem? (i := 600) (by decide +kernel), List.mem_of_getElem? (i := 601) (by decide +kernel)⟩
theorem lw_p9 : lw_okq (⟨"WhalePost$Reader", "word", "(Ljava/lang/String;)Z"⟩, 13) := ⟨⟨by decide +kernel, by decide +kernel⟩, List.mem_of_getElem? (i := 250) (by decide +kernel), List.mem_of_getElem? (i := 605) (by decide +kernel), List.mem_of_getElem? (i := 606) (by decide +kernel)⟩
theorem lw_p10 : lw_okq (⟨"WhalePost$Reader", "whole", "(II)Z"⟩, 13) := ⟨⟨by decide +kernel, by decide +kernel⟩, List.mem_of_getElem? (i := 250) (by decide +kernel), List.mem_of_getElem? (i := 609) (by decide +kernel), List.mem_of_getElem? (i := 610) (by decide +kernel)⟩
theorem lw_p11 : lw_okq (⟨"WhalePost$Reader", "readIsland", "()Z"⟩, 13) := ⟨⟨by decide +kernel, by decide +kernel⟩, List.mem_of_getElem? (i := 250) (by decide +kernel), List.mem_of_getElem? (i := 616) (by decide +kernel), List.mem_of_getElem? (i := 617) (by decide +kernel)⟩
theorem lw_p12 : lw_okq (⟨"WhalePost$Reader", "newName", "(II)Z"⟩, 13) := ⟨⟨by decide +kernel, by decide +kernel⟩, List.mem_of_getElem? (i := 250) (by decide +kernel), List.mem_of_getElem? (i := 620) (by decide +kernel), List.mem_of_getElem? (i := 621) (by decide +kernel)⟩
theorem lw_p13 : lw_okq (⟨"WhalePost$Reader", "nameOfToken", "()I"⟩, 13) := ⟨⟨by decide +kernel, by decide +kernel⟩, List.mem_of_getElem? (i := 250) (by decide +kernel), List.mem_of_getElem? (i := 624) (by decide +kernel), List.mem_of_getElem? (i := 625) (by decide +kernel)⟩
theorem lw_p14 : lw_okq (⟨"WhalePost$Reader", "letters", "()J"⟩, 13) := ⟨⟨by decide +kernel, by decide +kernel⟩, List.mem_of_getElem? (i := 250) (by decide +kernel), List.mem_of_getElem? (i := 628) (by decide +kernel), List.mem_of_getElem? (i := 629) (by decide +kernel)⟩
theorem lw_p15 : lw_okq (⟨"WhalePost$Reader", "songOfToken", "()I"⟩, 13) := ⟨⟨by decide +kernel, by decide +kernel⟩, List.mem_of_getElem? (i := 250) (by decide +kernel), List.mem_of_getElem? (i := 632) (by decide +kernel), List.mem_of_getElem? (i := 633) (by decide +kernel)⟩
def lw_privs_1 : List (MethodName × Nat) := [(⟨"WhalePost", "appendBytes", "(I)V"⟩, 16), (⟨"WhalePost", "refused", "(I)I"⟩, 16), (⟨"WhalePost$Reader", "readLine", "()Z"⟩, 13), (⟨"WhalePost$Reader", "nextToken", "()V"⟩, 13), (⟨"WhalePost$Reader", "passAll", "(CC)Z"⟩, 13), (⟨"WhalePost$Reader", "sortOfLine", "()I"⟩, 13), (⟨"WhalePost$Reader", "isToken", "(Ljava/lang/String;)Z"⟩, 13), (⟨"WhalePost$Reader", "faulty", "(I)Z"⟩, 13), (⟨"WhalePost$Reader", "readHead", "()Z"⟩, 13), (⟨"WhalePost$Reader", "word", "(Ljava/lang/String;)Z"⟩, 13), (⟨"WhalePost$Reader", "whole", "(II)Z"⟩, 13), (⟨"WhalePost$Reader", "readIsland", "()Z"⟩, 13), (⟨"WhalePost$Reader", "newName", "(II)Z"⟩, 13), (⟨"WhalePost$Reader", "nameOfToken", "()I"⟩, 13), (⟨"WhalePost$Reader", "letters", "()J"⟩, 13), (⟨"WhalePost$Reader", "songOfToken", "()I"⟩, 13)]
theorem lw_r1 : ∀ q ∈ lw_privs_1, lw_okq q := List.forall_mem_cons.mpr ⟨lw_p0, List.forall_mem_cons.mpr ⟨lw_p1, List.forall_mem_cons.mpr ⟨lw_p2, List.forall_mem_cons.mpr ⟨lw_p3, List.forall_mem_cons.mpr ⟨lw_p4, List.forall_mem_cons.mpr ⟨lw_p5, List.forall_mem_cons.mpr ⟨lw_p6, List.forall_mem_cons.mpr ⟨lw_p7, List.forall_mem_cons.mpr ⟨lw_p8, List.forall_mem_cons.mpr ⟨lw_p9, List.forall_mem_cons.mpr ⟨lw_p10, List.forall_mem_cons.mpr ⟨lw_p11, List.forall_mem_cons.mpr ⟨lw_p12, List.forall_mem_cons.mpr ⟨lw_p13, List.forall_mem_cons.mpr ⟨lw_p14, List.forall_mem_cons.mpr ⟨lw_p15, fun _ h => absurd h List.not_mem_nil⟩⟩⟩⟩⟩⟩⟩⟩⟩⟩⟩⟩⟩⟩⟩⟩
theorem lw_p16 : lw_okq (⟨"WhalePost$Reader", "readWay", "(LWhalePost$Way;)Z"⟩, 13) := ⟨⟨by decide +kernel, by decide +kernel⟩, List.mem_of_getElem? (i := 250) (by decide +kernel), List.mem_of_getElem? (i := 640) (by decide +kernel), List.mem_of_getElem? (i := 641) (by decide +kernel)⟩
theorem lw_p17 : lw_okq (⟨"WhalePost$Reader", "toldName", "(I)Z"⟩, 13) := ⟨⟨by decide +kernel, by decide +kernel⟩, List.mem_of_getElem? (i := 250) (by decide +kernel), List.mem_of_getElem? (i := 644) (by decide +kernel), List.mem_of_getElem? (i := 645) (by decide +kernel)⟩
theorem lw_p18 : lw_okq (⟨"WhalePost$Reader", "readWhale", "(LWhalePost$Whale;)Z"⟩, 13) := ⟨⟨by decide +kernel, by decide +kernel⟩, List.mem_of_getElem? (i := 250) (by decide +kernel), List.mem_of_getElem? (i := 654) (by decide +kernel), List.mem_of_getElem? (i := 655) (by decide +kernel)⟩
theorem lw_p19 : lw_okq (⟨"WhalePost$Reader", "kindOfToken", "()I"⟩, 13) := ⟨⟨by decide +kernel, by decide +kernel⟩, List.mem_of_getElem? (i := 250) (by decide +kernel), List.mem_of_getElem? (i := 658) (by decide +kernel), List.mem_of_getElem? (i := 659) (by decide +kernel)⟩
theorem lw_p20 : lw_okq (⟨"WhalePost$Reader", "readBox", "(LWhalePost$Box;)Z"⟩, 13) := ⟨⟨by decide +kernel, by decide +kernel⟩, List.mem_of_getElem? (i := 250) (by decide +kernel), List.mem_of_getElem? (i := 669) (by decide +kernel), List.mem_of_getElem? (i := 670) (by decide +kernel)⟩
theorem lw_p21 : lw_okq (⟨"WhalePost$Reader", "readSpout", "(LWhalePost$Spout;)Z"⟩, 13) := ⟨⟨by decide +kernel, by decide +kernel⟩, List.mem_of_getElem? (i := 250) (by decide +kernel), List.mem_of_getElem? (i := 677) (by decide +kernel), List.mem_of_getElem? (i := 678) (by decide +kernel)⟩
theorem lw_p22 : lw_okq (⟨"WhalePost", "takeDraft", "()V"⟩, 16) := ⟨⟨by decide +kernel, by decide +kernel⟩, List.mem_of_getElem? (i := 27) (by decide +kernel), List.mem_of_getElem? (i := 685) (by decide +kernel), List.mem_of_getElem? (i := 686) (by decide +kernel)⟩
theorem lw_p23 : lw_okq (⟨"WhalePost", "granted", "(I)I"⟩, 16) := ⟨⟨by decide +kernel, by decide +kernel⟩, List.mem_of_getElem? (i := 27) (by decide +kernel), List.mem_of_getElem? (i := 693) (by decide +kernel), List.mem_of_getElem? (i := 694) (by decide +kernel)⟩
theorem lw_p24 : lw_okq (⟨"WhalePost", "isWhale", "(I)Z"⟩, 16) := ⟨⟨by decide +kernel, by decide +kernel⟩, List.mem_of_getElem? (i := 27) (by decide +kernel), List.mem_of_getElem? (i := 709) (by decide +kernel), List.mem_of_getElem? (i := 710) (by decide +kernel)⟩
theorem lw_p25 : lw_okq (⟨"WhalePost", "isBox", "(I)Z"⟩, 16) := ⟨⟨by decide +kernel, by decide +kernel⟩, List.mem_of_getElem? (i := 27) (by decide +kernel), List.mem_of_getElem? (i := 717) (by decide +kernel), List.mem_of_getElem? (i := 718) (by decide +kernel)⟩
theorem lw_p26 : lw_okq (⟨"WhalePost", "isIsland", "(I)Z"⟩, 16) := ⟨⟨by decide +kernel, by decide +kernel⟩, List.mem_of_getElem? (i := 27) (by decide +kernel), List.mem_of_getElem? (i := 725) (by decide +kernel), List.mem_of_getElem? (i := 726) (by decide +kernel)⟩
theorem lw_p27 : lw_okq (⟨"WhalePost$Songs", "fallIn", "(I)I"⟩, 6) := ⟨⟨by decide +kernel, by decide +kernel⟩, List.mem_of_getElem? (i := 338) (by decide +kernel), List.mem_of_getElem? (i := 737) (by decide +kernel), List.mem_of_getElem? (i := 738) (by decide +kernel)⟩
theorem lw_p28 : lw_okq (⟨"WhalePost$Songs", "raised", "(III)I"⟩, 6) := ⟨⟨by decide +kernel, by decide +kernel⟩, List.mem_of_getElem? (i := 338) (by decide +kernel), List.mem_of_getElem? (i := 741) (by decide +kernel), List.mem_of_getElem? (i := 742) (by decide +kernel)⟩
theorem lw_p29 : lw_okq (⟨"WhalePost", "isNoteOfBox", "(II)Z"⟩, 16) := ⟨⟨by decide +kernel, by decide +kernel⟩, List.mem_of_getElem? (i := 27) (by decide +kernel), List.mem_of_getElem? (i := 753) (by decide +kernel), List.mem_of_getElem? (i := 754) (by decide +kernel)⟩
theorem lw_p30 : lw_okq (⟨"WhalePost", "hearerIn", "(II)I"⟩, 16) := ⟨⟨by decide +kernel, by decide +kernel⟩, List.mem_of_getElem? (i := 27) (by decide +kernel), List.mem_of_getElem? (i := 765) (by decide +kernel), List.mem_of_getElem? (i := 766) (by decide +kernel)⟩
theorem lw_p31 : lw_okq (⟨"WhalePost", "areTwoIslands", "(II)Z"⟩, 16) := ⟨⟨by decide +kernel, by decide +kernel⟩, List.mem_of_getElem? (i := 27) (by decide +kernel), List.mem_of_getElem? (i := 786) (by decide +kernel), List.mem_of_getElem? (i := 787) (by decide +kernel)⟩
def lw_privs_2 : List (MethodName × Nat) := [(⟨"WhalePost$Reader", "readWay", "(LWhalePost$Way;)Z"⟩, 13), (⟨"WhalePost$Reader", "toldName", "(I)Z"⟩, 13), (⟨"WhalePost$Reader", "readWhale", "(LWhalePost$Whale;)Z"⟩, 13), (⟨"WhalePost$Reader", "kindOfToken", "()I"⟩, 13), (⟨"WhalePost$Reader", "readBox", "(LWhalePost$Box;)Z"⟩, 13), (⟨"WhalePost$Reader", "readSpout", "(LWhalePost$Spout;)Z"⟩, 13), (⟨"WhalePost", "takeDraft", "()V"⟩, 16), (⟨"WhalePost", "granted", "(I)I"⟩, 16), (⟨"WhalePost", "isWhale", "(I)Z"⟩, 16), (⟨"WhalePost", "isBox", "(I)Z"⟩, 16), (⟨"WhalePost", "isIsland", "(I)Z"⟩, 16), (⟨"WhalePost$Songs", "fallIn", "(I)I"⟩, 6), (⟨"WhalePost$Songs", "raised", "(III)I"⟩, 6), (⟨"WhalePost", "isNoteOfBox", "(II)Z"⟩, 16), (⟨"WhalePost", "hearerIn", "(II)I"⟩, 16), (⟨"WhalePost", "areTwoIslands", "(II)Z"⟩, 16)]
theorem lw_r2 : ∀ q ∈ lw_privs_2, lw_okq q := List.forall_mem_cons.mpr ⟨lw_p16, List.forall_mem_cons.mpr ⟨lw_p17, List.forall_mem_cons.mpr ⟨lw_p18, List.forall_mem_cons.mpr ⟨lw_p19, List.forall_mem_cons.mpr ⟨lw_p20, List.forall_mem_cons.mpr ⟨lw_p21, List.forall_mem_cons.mpr ⟨lw_p22, List.forall_mem_cons.mpr ⟨lw_p23, List.forall_mem_cons.mpr ⟨lw_p24, List.forall_mem_cons.mpr ⟨lw_p25, List.forall_mem_cons.mpr ⟨lw_p26, List.forall_mem_cons.mpr ⟨lw_p27, List.forall_mem_cons.mpr ⟨lw_p28, List.forall_mem_cons.mpr ⟨lw_p29, List.forall_mem_cons.mpr ⟨lw_p30, List.forall_mem_cons.mpr ⟨lw_p31, fun _ h => absurd h List.not_mem_nil⟩⟩⟩⟩⟩⟩⟩⟩⟩⟩⟩⟩⟩⟩⟩⟩
theorem lw_p32 : lw_okq (⟨"WhalePost", "hasPost", "()Z"⟩, 16) := ⟨⟨by decide +kernel, by decide +kernel⟩, List.mem_of_getElem? (i := 27) (by decide +kernel), List.mem_of_getElem? (i := 799) (by decide +kernel), List.mem_of_getElem? (i := 800) (by decide +kernel)⟩
theorem lw_p33 : lw_okq (⟨"WhalePost", "isWay", "(I)Z"⟩, 16) := ⟨⟨by decide +kernel, by decide +kernel⟩, List.mem_of_getElem? (i := 27) (by decide +kernel), List.mem_of_getElem? (i := 811) (by decide +kernel), List.mem_of_getElem? (i := 812) (by decide +kernel)⟩
theorem lw_p34 : lw_okq (⟨"WhalePost", "sentPart", "(II)I"⟩, 16) := ⟨⟨by decide +kernel, by decide +kernel⟩, List.mem_of_getElem? (i := 27) (by decide +kernel), List.mem_of_getElem? (i := 827) (by decide +kernel), List.mem_of_getElem? (i := 828) (by decide +kernel)⟩
theorem lw_p35 : lw_okq (⟨"WhalePost", "refusalOfNewSong", "(II)I"⟩, 16) := ⟨⟨by decide +kernel, by decide +kernel⟩, List.mem_of_getElem? (i := 27) (by decide +kernel), List.mem_of_getElem? (i := 860) (by decide +kernel), List.mem_of_getElem? (i := 861) (by decide +kernel)⟩
theorem lw_p36 : lw_okq (⟨"WhalePost$Songs", "keepSongsOf", "(II)I"⟩, 6) := ⟨⟨by decide +kernel, by decide +kernel⟩, List.mem_of_getElem? (i := 338) (by decide +kernel), List.mem_of_getElem? (i := 868) (by decide +kernel), List.mem_of_getElem? (i := 869) (by decide +kernel)⟩
theorem lw_p37 : lw_okq (⟨"WhalePost$Songs", "isOfNotes", "(II)Z"⟩, 6) := ⟨⟨by decide +kernel, by decide +kernel⟩, List.mem_of_getElem? (i := 338) (by decide +kernel), List.mem_of_getElem? (i := 873) (by decide +kernel), List.mem_of_getElem? (i := 874) (by decide +kernel)⟩
theorem lw_p38 : lw_okq (⟨"WhalePost$Songs", "isFarFromKept", "(III)Z"⟩, 6) := ⟨⟨by decide +kernel, by decide +kernel⟩, List.mem_of_getElem? (i := 338) (by decide +kernel), List.mem_of_getElem? (i := 877) (by decide +kernel), List.mem_of_getElem? (i := 878) (by decide +kernel)⟩
theorem lw_p39 : lw_okq (⟨"WhalePost$Sea", "findFirstDays", "(III)V"⟩, 7) := ⟨⟨by decide +kernel, by decide +kernel⟩, List.mem_of_getElem? (i := 368) (by decide +kernel), List.mem_of_getElem? (i := 909) (by decide +kernel), List.mem_of_getElem? (i := 910) (by decide +kernel)⟩
theorem lw_p40 : lw_okq (⟨"WhalePost$Sea", "goes", "(ILWhalePost$Way;II)Z"⟩, 7) := ⟨⟨by decide +kernel, by decide +kernel⟩, List.mem_of_getElem? (i := 368) (by decide +kernel), List.mem_of_getElem? (i := 918) (by decide +kernel), List.mem_of_getElem? (i := 919) (by decide +kernel)⟩
theorem lw_p41 : lw_okq (⟨"WhalePost", "solveMatch", "()V"⟩, 16) := ⟨⟨by decide +kernel, by decide +kernel⟩, List.mem_of_getElem? (i := 27) (by decide +kernel), List.mem_of_getElem? (i := 977) (by decide +kernel), List.mem_of_getElem? (i := 978) (by decide +kernel)⟩
theorem lw_p42 : lw_okq (⟨"WhalePost$Matching", "worth", "(III)I"⟩, 5) := ⟨⟨by decide +kernel, by decide +kernel⟩, List.mem_of_getElem? (i := 419) (by decide +kernel), List.mem_of_getElem? (i := 986) (by decide +kernel), List.mem_of_getElem? (i := 987) (by decide +kernel)⟩
theorem lw_p43 : lw_okq (⟨"WhalePost$Matching", "choose", "(II)V"⟩, 5) := ⟨⟨by decide +kernel, by decide +kernel⟩, List.mem_of_getElem? (i := 419) (by decide +kernel), List.mem_of_getElem? (i := 992) (by decide +kernel), List.mem_of_getElem? (i := 993) (by decide +kernel)⟩
theorem lw_p44 : lw_okq (⟨"WhalePost$Matching", "firstBest", "(III)I"⟩, 5) := ⟨⟨by decide +kernel, by decide +kernel⟩, List.mem_of_getElem? (i := 419) (by decide +kernel), List.mem_of_getElem? (i := 996) (by decide +kernel), List.mem_of_getElem? (i := 997) (by decide +kernel)⟩
theorem lw_p45 : lw_okq (⟨"WhalePost$Sea", "isFitting", "(I)Z"⟩, 7) := ⟨⟨by decide +kernel, by decide +kernel⟩, List.mem_of_getElem? (i := 368) (by decide +kernel), List.mem_of_getElem? (i := 1025) (by decide +kernel), List.mem_of_getElem? (i := 1026) (by decide +kernel)⟩
theorem lw_p46 : lw_okq (⟨"WhalePost$Sea", "whalesReaching", "(II)I"⟩, 7) := ⟨⟨by decide +kernel, by decide +kernel⟩, List.mem_of_getElem? (i := 368) (by decide +kernel), List.mem_of_getElem? (i := 1048) (by decide +kernel), List.mem_of_getElem? (i := 1049) (by decide +kernel)⟩
theorem lw_p47 : lw_okq (⟨"WhalePost$Paths", "waysOutOf", "(I)I"⟩, 4) := ⟨⟨by decide +kernel, by decide +kernel⟩, List.mem_of_getElem? (i := 398) (by decide +kernel), List.mem_of_getElem? (i := 1064) (by decide +kernel), List.mem_of_getElem? (i := 1065) (by decide +kernel)⟩
def lw_privs_3 : List (MethodName × Nat) := [(⟨"WhalePost", "hasPost", "()Z"⟩, 16), (⟨"WhalePost", "isWay", "(I)Z"⟩, 16), (⟨"WhalePost", "sentPart", "(II)I"⟩, 16), (⟨"WhalePost", "refusalOfNewSong", "(II)I"⟩, 16), (⟨"WhalePost$Songs", "keepSongsOf", "(II)I"⟩, 6), (⟨"WhalePost$Songs", "isOfNotes", "(II)Z"⟩, 6), (⟨"WhalePost$Songs", "isFarFromKept", "(III)Z"⟩, 6), (⟨"WhalePost$Sea", "findFirstDays", "(III)V"⟩, 7), (⟨"WhalePost$Sea", "goes", "(ILWhalePost$Way;II)Z"⟩, 7), (⟨"WhalePost", "solveMatch", "()V"⟩, 16), (⟨"WhalePost$Matching", "worth", "(III)I"⟩, 5), (⟨"WhalePost$Matching", "choose", "(II)V"⟩, 5), (⟨"WhalePost$Matching", "firstBest", "(III)I"⟩, 5), (⟨"WhalePost$Sea", "isFitting", "(I)Z"⟩, 7), (⟨"WhalePost$Sea", "whalesReaching", "(II)I"⟩, 7), (⟨"WhalePost$Paths", "waysOutOf", "(I)I"⟩, 4)]
theorem lw_r3 : ∀ q ∈ lw_privs_3, lw_okq q := List.forall_mem_cons.mpr ⟨lw_p32, List.forall_mem_cons.mpr ⟨lw_p33, List.forall_mem_cons.mpr ⟨lw_p34, List.forall_mem_cons.mpr ⟨lw_p35, List.forall_mem_cons.mpr ⟨lw_p36, List.forall_mem_cons.mpr ⟨lw_p37, List.forall_mem_cons.mpr ⟨lw_p38, List.forall_mem_cons.mpr ⟨lw_p39, List.forall_mem_cons.mpr ⟨lw_p40, List.forall_mem_cons.mpr ⟨lw_p41, List.forall_mem_cons.mpr ⟨lw_p42, List.forall_mem_cons.mpr ⟨lw_p43, List.forall_mem_cons.mpr ⟨lw_p44, List.forall_mem_cons.mpr ⟨lw_p45, List.forall_mem_cons.mpr ⟨lw_p46, List.forall_mem_cons.mpr ⟨lw_p47, fun _ h => absurd h List.not_mem_nil⟩⟩⟩⟩⟩⟩⟩⟩⟩⟩⟩⟩⟩⟩⟩⟩
theorem lw_p48 : lw_okq (⟨"WhalePost$Paths", "findShortest", "(I)V"⟩, 4) := ⟨⟨by decide +kernel, by decide +kernel⟩, List.mem_of_getElem? (i := 398) (by decide +kernel), List.mem_of_getElem? (i := 1077) (by decide +kernel), List.mem_of_getElem? (i := 1078) (by decide +kernel)⟩
theorem lw_p49 : lw_okq (⟨"WhalePost$Paths", "findRests", "()V"⟩, 4) := ⟨⟨by decide +kernel, by decide +kernel⟩, List.mem_of_getElem? (i := 398) (by decide +kernel), List.mem_of_getElem? (i := 1084) (by decide +kernel), List.mem_of_getElem? (i := 1085) (by decide +kernel)⟩
theorem lw_p50 : lw_okq (⟨"WhalePost$Paths", "daysOver", "(III)I"⟩, 4) := ⟨⟨by decide +kernel, by decide +kernel⟩, List.mem_of_getElem? (i := 398) (by decide +kernel), List.mem_of_getElem? (i := 1088) (by decide +kernel), List.mem_of_getElem? (i := 1089) (by decide +kernel)⟩
theorem lw_p51 : lw_okq (⟨"WhalePost$Paths", "nextOf", "(II)I"⟩, 4) := ⟨⟨by decide +kernel, by decide +kernel⟩, List.mem_of_getElem? (i := 398) (by decide +kernel), List.mem_of_getElem? (i := 1092) (by decide +kernel), List.mem_of_getElem? (i := 1093) (by decide +kernel)⟩
theorem lw_p52 : lw_okq (⟨"WhalePost", "heardWithSlips", "(I)I"⟩, 16) := ⟨⟨by decide +kernel, by decide +kernel⟩, List.mem_of_getElem? (i := 27) (by decide +kernel), List.mem_of_getElem? (i := 1105) (by decide +kernel), List.mem_of_getElem? (i := 1106) (by decide +kernel)⟩
theorem lw_p53 : lw_okq (⟨"WhalePost$Songs", "draw", "()I"⟩, 6) := ⟨⟨by decide +kernel, by decide +kernel⟩, List.mem_of_getElem? (i := 338) (by decide +kernel), List.mem_of_getElem? (i := 1113) (by decide +kernel), List.mem_of_getElem? (i := 1114) (by decide +kernel)⟩
theorem lw_p54 : lw_okq (⟨"WhalePost", "keepForUndo", "()V"⟩, 16) := ⟨⟨by decide +kernel, by decide +kernel⟩, List.mem_of_getElem? (i := 27) (by decide +kernel), List.mem_of_getElem? (i := 1125) (by decide +kernel), List.mem_of_getElem? (i := 1126) (by decide +kernel)⟩
theorem lw_p55 : lw_okq (⟨"WhalePost", "hasRefused", "(I)Z"⟩, 16) := ⟨⟨by decide +kernel, by decide +kernel⟩, List.mem_of_getElem? (i := 27) (by decide +kernel), List.mem_of_getElem? (i := 1141) (by decide +kernel), List.mem_of_getElem? (i := 1142) (by decide +kernel)⟩
theorem lw_p56 : lw_okq (⟨"WhalePost", "hasGranted", "()Z"⟩, 16) := ⟨⟨by decide +kernel, by decide +kernel⟩, List.mem_of_getElem? (i := 27) (by decide +kernel), List.mem_of_getElem? (i := 1146) (by decide +kernel), List.mem_of_getElem? (i := 1147) (by decide +kernel)⟩
theorem lw_p57 : lw_okq (⟨"java/lang/Throwable", "fillInStackTrace", "(I)Ljava/lang/Throwable;"⟩, 6) := ⟨⟨by decide +kernel, by decide +kernel⟩, List.mem_of_getElem? (i := 1222) (by decide +kernel), List.mem_of_getElem? (i := 1220) (by decide +kernel), List.mem_of_getElem? (i := 1221) (by decide +kernel)⟩
theorem lw_p58 : lw_okq (⟨"WhalePostModel", "good", "()V"⟩, 39) := ⟨⟨by decide +kernel, by decide +kernel⟩, List.mem_of_getElem? (i := 1251) (by decide +kernel), List.mem_of_getElem? (i := 1387) (by decide +kernel), List.mem_of_getElem? (i := 1388) (by decide +kernel)⟩
theorem lw_p59 : lw_okq (⟨"WhalePostModel", "no", "(I)I"⟩, 39) := ⟨⟨by decide +kernel, by decide +kernel⟩, List.mem_of_getElem? (i := 1251) (by decide +kernel), List.mem_of_getElem? (i := 1394) (by decide +kernel), List.mem_of_getElem? (i := 1395) (by decide +kernel)⟩
theorem lw_p60 : lw_okq (⟨"WhalePostModel", "next", "()V"⟩, 39) := ⟨⟨by decide +kernel, by decide +kernel⟩, List.mem_of_getElem? (i := 1251) (by decide +kernel), List.mem_of_getElem? (i := 1398) (by decide +kernel), List.mem_of_getElem? (i := 1399) (by decide +kernel)⟩
theorem lw_p61 : lw_okq (⟨"WhalePostModel", "look", "(I)I"⟩, 39) := ⟨⟨by decide +kernel, by decide +kernel⟩, List.mem_of_getElem? (i := 1251) (by decide +kernel), List.mem_of_getElem? (i := 1402) (by decide +kernel), List.mem_of_getElem? (i := 1403) (by decide +kernel)⟩
theorem lw_p62 : lw_okq (⟨"WhalePostModel", "readLine", "()V"⟩, 39) := ⟨⟨by decide +kernel, by decide +kernel⟩, List.mem_of_getElem? (i := 1251) (by decide +kernel), List.mem_of_getElem? (i := 1412) (by decide +kernel), List.mem_of_getElem? (i := 1413) (by decide +kernel)⟩
theorem lw_p63 : lw_okq (⟨"WhalePostModel", "isWord", "(Ljava/lang/String;)Z"⟩, 39) := ⟨⟨by decide +kernel, by decide +kernel⟩, List.mem_of_getElem? (i := 1251) (by decide +kernel), List.mem_of_getElem? (i := 1417) (by decide +kernel), List.mem_of_getElem? (i := 1418) (by decide +kernel)⟩
def lw_privs_4 : List (MethodName × Nat) := [(⟨"WhalePost$Paths", "findShortest", "(I)V"⟩, 4), (⟨"WhalePost$Paths", "findRests", "()V"⟩, 4), (⟨"WhalePost$Paths", "daysOver", "(III)I"⟩, 4), (⟨"WhalePost$Paths", "nextOf", "(II)I"⟩, 4), (⟨"WhalePost", "heardWithSlips", "(I)I"⟩, 16), (⟨"WhalePost$Songs", "draw", "()I"⟩, 6), (⟨"WhalePost", "keepForUndo", "()V"⟩, 16), (⟨"WhalePost", "hasRefused", "(I)Z"⟩, 16), (⟨"WhalePost", "hasGranted", "()Z"⟩, 16), (⟨"java/lang/Throwable", "fillInStackTrace", "(I)Ljava/lang/Throwable;"⟩, 6), (⟨"WhalePostModel", "good", "()V"⟩, 39), (⟨"WhalePostModel", "no", "(I)I"⟩, 39), (⟨"WhalePostModel", "next", "()V"⟩, 39), (⟨"WhalePostModel", "look", "(I)I"⟩, 39), (⟨"WhalePostModel", "readLine", "()V"⟩, 39), (⟨"WhalePostModel", "isWord", "(Ljava/lang/String;)Z"⟩, 39)]
theorem lw_r4 : ∀ q ∈ lw_privs_4, lw_okq q := List.forall_mem_cons.mpr ⟨lw_p48, List.forall_mem_cons.mpr ⟨lw_p49, List.forall_mem_cons.mpr ⟨lw_p50, List.forall_mem_cons.mpr ⟨lw_p51, List.forall_mem_cons.mpr ⟨lw_p52, List.forall_mem_cons.mpr ⟨lw_p53, List.forall_mem_cons.mpr ⟨lw_p54, List.forall_mem_cons.mpr ⟨lw_p55, List.forall_mem_cons.mpr ⟨lw_p56, List.forall_mem_cons.mpr ⟨lw_p57, List.forall_mem_cons.mpr ⟨lw_p58, List.forall_mem_cons.mpr ⟨lw_p59, List.forall_mem_cons.mpr ⟨lw_p60, List.forall_mem_cons.mpr ⟨lw_p61, List.forall_mem_cons.mpr ⟨lw_p62, List.forall_mem_cons.mpr ⟨lw_p63, fun _ h => absurd h List.not_mem_nil⟩⟩⟩⟩⟩⟩⟩⟩⟩⟩⟩⟩⟩⟩⟩⟩
theorem lw_p64 : lw_okq (⟨"WhalePostModel", "postLine", "()V"⟩, 39) := ⟨⟨by decide +kernel, by decide +kernel⟩, List.mem_of_getElem? (i := 1251) (by decide +kernel), List.mem_of_getElem? (i := 1423) (by decide +kernel), List.mem_of_getElem? (i := 1424) (by decide +kernel)⟩
theorem lw_p65 : lw_okq (⟨"WhalePostModel", "wrong", "(II)V"⟩, 39) := ⟨⟨by decide +kernel, by decide +kernel⟩, List.mem_of_getElem? (i := 1251) (by decide +kernel), List.mem_of_getElem? (i := 1427) (by decide +kernel), List.mem_of_getElem? (i := 1428) (by decide +kernel)⟩
theorem lw_p66 : lw_okq (⟨"WhalePostModel", "after", "(Ljava/lang/String;II)I"⟩, 39) := ⟨⟨by decide +kernel, by decide +kernel⟩, List.mem_of_getElem? (i := 1251) (by decide +kernel), List.mem_of_getElem? (i := 1432) (by decide +kernel), List.mem_of_getElem? (i := 1433) (by decide +kernel)⟩
theorem lw_p67 : lw_okq (⟨"WhalePostModel", "must", "(Ljava/lang/String;)V"⟩, 39) := ⟨⟨by decide +kernel, by decide +kernel⟩, List.mem_of_getElem? (i := 1251) (by decide +kernel), List.mem_of_getElem? (i := 1436) (by decide +kernel), List.mem_of_getElem? (i := 1437) (by decide +kernel)⟩
theorem lw_p68 : lw_okq (⟨"WhalePostModel", "takesWord", "(Ljava/lang/String;)Z"⟩, 39) := ⟨⟨by decide +kernel, by decide +kernel⟩, List.mem_of_getElem? (i := 1251) (by decide +kernel), List.mem_of_getElem? (i := 1440) (by decide +kernel), List.mem_of_getElem? (i := 1441) (by decide +kernel)⟩
theorem lw_p69 : lw_okq (⟨"WhalePostModel", "number", "(II)I"⟩, 39) := ⟨⟨by decide +kernel, by decide +kernel⟩, List.mem_of_getElem? (i := 1251) (by decide +kernel), List.mem_of_getElem? (i := 1444) (by decide +kernel), List.mem_of_getElem? (i := 1445) (by decide +kernel)⟩
theorem lw_p70 : lw_okq (⟨"WhalePostModel", "begins", "(Ljava/lang/String;Z)Z"⟩, 39) := ⟨⟨by decide +kernel, by decide +kernel⟩, List.mem_of_getElem? (i := 1251) (by decide +kernel), List.mem_of_getElem? (i := 1452) (by decide +kernel), List.mem_of_getElem? (i := 1453) (by decide +kernel)⟩
theorem lw_p71 : lw_okq (⟨"WhalePostModel", "islandLine", "()V"⟩, 39) := ⟨⟨by decide +kernel, by decide +kernel⟩, List.mem_of_getElem? (i := 1251) (by decide +kernel), List.mem_of_getElem? (i := 1456) (by decide +kernel), List.mem_of_getElem? (i := 1457) (by decide +kernel)⟩
theorem lw_p72 : lw_okq (⟨"WhalePostModel", "newName", "(I)V"⟩, 39) := ⟨⟨by decide +kernel, by decide +kernel⟩, List.mem_of_getElem? (i := 1251) (by decide +kernel), List.mem_of_getElem? (i := 1460) (by decide +kernel), List.mem_of_getElem? (i := 1461) (by decide +kernel)⟩
theorem lw_p73 : lw_okq (⟨"WhalePostModel", "mustName", "()V"⟩, 39) := ⟨⟨by decide +kernel, by decide +kernel⟩, List.mem_of_getElem? (i := 1251) (by decide +kernel), List.mem_of_getElem? (i := 1464) (by decide +kernel), List.mem_of_getElem? (i := 1465) (by decide +kernel)⟩
theorem lw_p74 : lw_okq (⟨"WhalePostModel", "find", "()I"⟩, 39) := ⟨⟨by decide +kernel, by decide +kernel⟩, List.mem_of_getElem? (i := 1251) (by decide +kernel), List.mem_of_getElem? (i := 1472) (by decide +kernel), List.mem_of_getElem? (i := 1473) (by decide +kernel)⟩
theorem lw_p75 : lw_okq (⟨"WhalePostModel", "isSong", "(I)Z"⟩, 39) := ⟨⟨by decide +kernel, by decide +kernel⟩, List.mem_of_getElem? (i := 1251) (by decide +kernel), List.mem_of_getElem? (i := 1476) (by decide +kernel), List.mem_of_getElem? (i := 1477) (by decide +kernel)⟩
theorem lw_p76 : lw_okq (⟨"WhalePostModel", "wayLine", "()V"⟩, 39) := ⟨⟨by decide +kernel, by decide +kernel⟩, List.mem_of_getElem? (i := 1251) (by decide +kernel), List.mem_of_getElem? (i := 1480) (by decide +kernel), List.mem_of_getElem? (i := 1481) (by decide +kernel)⟩
theorem lw_p77 : lw_okq (⟨"WhalePostModel", "islandPassed", "()I"⟩, 39) := ⟨⟨by decide +kernel, by decide +kernel⟩, List.mem_of_getElem? (i := 1251) (by decide +kernel), List.mem_of_getElem? (i := 1484) (by decide +kernel), List.mem_of_getElem? (i := 1485) (by decide +kernel)⟩
theorem lw_p78 : lw_okq (⟨"WhalePostModel", "named", "(II)I"⟩, 39) := ⟨⟨by decide +kernel, by decide +kernel⟩, List.mem_of_getElem? (i := 1251) (by decide +kernel), List.mem_of_getElem? (i := 1488) (by decide +kernel), List.mem_of_getElem? (i := 1489) (by decide +kernel)⟩
theorem lw_p79 : lw_okq (⟨"WhalePostModel", "whaleLine", "()V"⟩, 39) := ⟨⟨by decide +kernel, by decide +kernel⟩, List.mem_of_getElem? (i := 1251) (by decide +kernel), List.mem_of_getElem? (i := 1497) (by decide +kernel), List.mem_of_getElem? (i := 1498) (by decide +kernel)⟩
def lw_privs_5 : List (MethodName × Nat) := [(⟨"WhalePostModel", "postLine", "()V"⟩, 39), (⟨"WhalePostModel", "wrong", "(II)V"⟩, 39), (⟨"WhalePostModel", "after", "(Ljava/lang/String;II)I"⟩, 39), (⟨"WhalePostModel", "must", "(Ljava/lang/String;)V"⟩, 39), (⟨"WhalePostModel", "takesWord", "(Ljava/lang/String;)Z"⟩, 39), (⟨"WhalePostModel", "number", "(II)I"⟩, 39), (⟨"WhalePostModel", "begins", "(Ljava/lang/String;Z)Z"⟩, 39), (⟨"WhalePostModel", "islandLine", "()V"⟩, 39), (⟨"WhalePostModel", "newName", "(I)V"⟩, 39), (⟨"WhalePostModel", "mustName", "()V"⟩, 39), (⟨"WhalePostModel", "find", "()I"⟩, 39), (⟨"WhalePostModel", "isSong", "(I)Z"⟩, 39), (⟨"WhalePostModel", "wayLine", "()V"⟩, 39), (⟨"WhalePostModel", "islandPassed", "()I"⟩, 39), (⟨"WhalePostModel", "named", "(II)I"⟩, 39), (⟨"WhalePostModel", "whaleLine", "()V"⟩, 39)]
theorem lw_r5 : ∀ q ∈ lw_privs_5, lw_okq q := List.forall_mem_cons.mpr ⟨lw_p64, List.forall_mem_cons.mpr ⟨lw_p65, List.forall_mem_cons.mpr ⟨lw_p66, List.forall_mem_cons.mpr ⟨lw_p67, List.forall_mem_cons.mpr ⟨lw_p68, List.forall_mem_cons.mpr ⟨lw_p69, List.forall_mem_cons.mpr ⟨lw_p70, List.forall_mem_cons.mpr ⟨lw_p71, List.forall_mem_cons.mpr ⟨lw_p72, List.forall_mem_cons.mpr ⟨lw_p73, List.forall_mem_cons.mpr ⟨lw_p74, List.forall_mem_cons.mpr ⟨lw_p75, List.forall_mem_cons.mpr ⟨lw_p76, List.forall_mem_cons.mpr ⟨lw_p77, List.forall_mem_cons.mpr ⟨lw_p78, List.forall_mem_cons.mpr ⟨lw_p79, fun _ h => absurd h List.not_mem_nil⟩⟩⟩⟩⟩⟩⟩⟩⟩⟩⟩⟩⟩⟩⟩⟩
theorem lw_p80 : lw_okq (⟨"WhalePostModel", "islandBehind", "(Ljava/lang/String;)I"⟩, 39) := ⟨⟨by decide +kernel, by decide +kernel⟩, List.mem_of_getElem? (i := 1251) (by decide +kernel), List.mem_of_getElem? (i := 1506) (by decide +kernel), List.mem_of_getElem? (i := 1507) (by decide +kernel)⟩
theorem lw_p81 : lw_okq (⟨"WhalePostModel", "boxLine", "()V"⟩, 39) := ⟨⟨by decide +kernel, by decide +kernel⟩, List.mem_of_getElem? (i := 1251) (by decide +kernel), List.mem_of_getElem? (i := 1512) (by decide +kernel), List.mem_of_getElem? (i := 1513) (by decide +kernel)⟩
theorem lw_p82 : lw_okq (⟨"WhalePostModel", "spoutLine", "()V"⟩, 39) := ⟨⟨by decide +kernel, by decide +kernel⟩, List.mem_of_getElem? (i := 1251) (by decide +kernel), List.mem_of_getElem? (i := 1520) (by decide +kernel), List.mem_of_getElem? (i := 1521) (by decide +kernel)⟩
theorem lw_p83 : lw_okq (⟨"WhalePostModel", "isWhale", "(I)Z"⟩, 39) := ⟨⟨by decide +kernel, by decide +kernel⟩, List.mem_of_getElem? (i := 1251) (by decide +kernel), List.mem_of_getElem? (i := 1539) (by decide +kernel), List.mem_of_getElem? (i := 1540) (by decide +kernel)⟩
theorem lw_p84 : lw_okq (⟨"WhalePostModel", "ofWhale", "(II)I"⟩, 39) := ⟨⟨by decide +kernel, by decide +kernel⟩, List.mem_of_getElem? (i := 1251) (by decide +kernel), List.mem_of_getElem? (i := 1543) (by decide +kernel), List.mem_of_getElem? (i := 1544) (by decide +kernel)⟩
theorem lw_p85 : lw_okq (⟨"WhalePostModel", "isBox", "(I)Z"⟩, 39) := ⟨⟨by decide +kernel, by decide +kernel⟩, List.mem_of_getElem? (i := 1251) (by decide +kernel), List.mem_of_getElem? (i := 1551) (by decide +kernel), List.mem_of_getElem? (i := 1552) (by decide +kernel)⟩
theorem lw_p86 : lw_okq (⟨"WhalePostModel", "ofBox", "(II)I"⟩, 39) := ⟨⟨by decide +kernel, by decide +kernel⟩, List.mem_of_getElem? (i := 1251) (by decide +kernel), List.mem_of_getElem? (i := 1555) (by decide +kernel), List.mem_of_getElem? (i := 1556) (by decide +kernel)⟩
theorem lw_p87 : lw_okq (⟨"WhalePostModel", "isIsland", "(I)Z"⟩, 39) := ⟨⟨by decide +kernel, by decide +kernel⟩, List.mem_of_getElem? (i := 1251) (by decide +kernel), List.mem_of_getElem? (i := 1563) (by decide +kernel), List.mem_of_getElem? (i := 1564) (by decide +kernel)⟩
theorem lw_p88 : lw_okq (⟨"WhalePostModel", "songLong", "(I)I"⟩, 39) := ⟨⟨by decide +kernel, by decide +kernel⟩, List.mem_of_getElem? (i := 1251) (by decide +kernel), List.mem_of_getElem? (i := 1567) (by decide +kernel), List.mem_of_getElem? (i := 1568) (by decide +kernel)⟩
theorem lw_p89 : lw_okq (⟨"WhalePostModel", "noteIn", "(III)I"⟩, 39) := ⟨⟨by decide +kernel, by decide +kernel⟩, List.mem_of_getElem? (i := 1251) (by decide +kernel), List.mem_of_getElem? (i := 1575) (by decide +kernel), List.mem_of_getElem? (i := 1576) (by decide +kernel)⟩
theorem lw_p90 : lw_okq (⟨"WhalePostModel", "boxLong", "(I)I"⟩, 39) := ⟨⟨by decide +kernel, by decide +kernel⟩, List.mem_of_getElem? (i := 1251) (by decide +kernel), List.mem_of_getElem? (i := 1583) (by decide +kernel), List.mem_of_getElem? (i := 1584) (by decide +kernel)⟩
theorem lw_p91 : lw_okq (⟨"WhalePostModel", "heardNow", "(I)I"⟩, 39) := ⟨⟨by decide +kernel, by decide +kernel⟩, List.mem_of_getElem? (i := 1251) (by decide +kernel), List.mem_of_getElem? (i := 1591) (by decide +kernel), List.mem_of_getElem? (i := 1592) (by decide +kernel)⟩
theorem lw_p92 : lw_okq (⟨"WhalePostModel", "hearsIn", "(IIII)I"⟩, 39) := ⟨⟨by decide +kernel, by decide +kernel⟩, List.mem_of_getElem? (i := 1251) (by decide +kernel), List.mem_of_getElem? (i := 1595) (by decide +kernel), List.mem_of_getElem? (i := 1596) (by decide +kernel)⟩
theorem lw_p93 : lw_okq (⟨"WhalePostModel", "unlike", "(IIIII)I"⟩, 39) := ⟨⟨by decide +kernel, by decide +kernel⟩, List.mem_of_getElem? (i := 1251) (by decide +kernel), List.mem_of_getElem? (i := 1599) (by decide +kernel), List.mem_of_getElem? (i := 1600) (by decide +kernel)⟩
theorem lw_p94 : lw_okq (⟨"WhalePostModel", "wayOf", "(II)I"⟩, 39) := ⟨⟨by decide +kernel, by decide +kernel⟩, List.mem_of_getElem? (i := 1251) (by decide +kernel), List.mem_of_getElem? (i := 1607) (by decide +kernel), List.mem_of_getElem? (i := 1608) (by decide +kernel)⟩
theorem lw_p95 : lw_okq (⟨"WhalePostModel", "isClosed", "(I)Z"⟩, 39) := ⟨⟨by decide +kernel, by decide +kernel⟩, List.mem_of_getElem? (i := 1251) (by decide +kernel), List.mem_of_getElem? (i := 1611) (by decide +kernel), List.mem_of_getElem? (i := 1612) (by decide +kernel)⟩
def lw_privs_6 : List (MethodName × Nat) := [(⟨"WhalePostModel", "islandBehind", "(Ljava/lang/String;)I"⟩, 39), (⟨"WhalePostModel", "boxLine", "()V"⟩, 39), (⟨"WhalePostModel", "spoutLine", "()V"⟩, 39), (⟨"WhalePostModel", "isWhale", "(I)Z"⟩, 39), (⟨"WhalePostModel", "ofWhale", "(II)I"⟩, 39), (⟨"WhalePostModel", "isBox", "(I)Z"⟩, 39), (⟨"WhalePostModel", "ofBox", "(II)I"⟩, 39), (⟨"WhalePostModel", "isIsland", "(I)Z"⟩, 39), (⟨"WhalePostModel", "songLong", "(I)I"⟩, 39), (⟨"WhalePostModel", "noteIn", "(III)I"⟩, 39), (⟨"WhalePostModel", "boxLong", "(I)I"⟩, 39), (⟨"WhalePostModel", "heardNow", "(I)I"⟩, 39), (⟨"WhalePostModel", "hearsIn", "(IIII)I"⟩, 39), (⟨"WhalePostModel", "unlike", "(IIIII)I"⟩, 39), (⟨"WhalePostModel", "wayOf", "(II)I"⟩, 39), (⟨"WhalePostModel", "isClosed", "(I)Z"⟩, 39)]
theorem lw_r6 : ∀ q ∈ lw_privs_6, lw_okq q := List.forall_mem_cons.mpr ⟨lw_p80, List.forall_mem_cons.mpr ⟨lw_p81, List.forall_mem_cons.mpr ⟨lw_p82, List.forall_mem_cons.mpr ⟨lw_p83, List.forall_mem_cons.mpr ⟨lw_p84, List.forall_mem_cons.mpr ⟨lw_p85, List.forall_mem_cons.mpr ⟨lw_p86, List.forall_mem_cons.mpr ⟨lw_p87, List.forall_mem_cons.mpr ⟨lw_p88, List.forall_mem_cons.mpr ⟨lw_p89, List.forall_mem_cons.mpr ⟨lw_p90, List.forall_mem_cons.mpr ⟨lw_p91, List.forall_mem_cons.mpr ⟨lw_p92, List.forall_mem_cons.mpr ⟨lw_p93, List.forall_mem_cons.mpr ⟨lw_p94, List.forall_mem_cons.mpr ⟨lw_p95, fun _ h => absurd h List.not_mem_nil⟩⟩⟩⟩⟩⟩⟩⟩⟩⟩⟩⟩⟩⟩⟩⟩
theorem lw_p96 : lw_okq (⟨"WhalePostModel", "nearOf", "(IZ)I"⟩, 39) := ⟨⟨by decide +kernel, by decide +kernel⟩, List.mem_of_getElem? (i := 1251) (by decide +kernel), List.mem_of_getElem? (i := 1622) (by decide +kernel), List.mem_of_getElem? (i := 1623) (by decide +kernel)⟩
theorem lw_p97 : lw_okq (⟨"WhalePostModel", "apartOf", "(II)I"⟩, 39) := ⟨⟨by decide +kernel, by decide +kernel⟩, List.mem_of_getElem? (i := 1251) (by decide +kernel), List.mem_of_getElem? (i := 1638) (by decide +kernel), List.mem_of_getElem? (i := 1639) (by decide +kernel)⟩
theorem lw_p98 : lw_okq (⟨"WhalePostModel", "songWhy", "(II)I"⟩, 39) := ⟨⟨by decide +kernel, by decide +kernel⟩, List.mem_of_getElem? (i := 1251) (by decide +kernel), List.mem_of_getElem? (i := 1654) (by decide +kernel), List.mem_of_getElem? (i := 1655) (by decide +kernel)⟩
theorem lw_p99 : lw_okq (⟨"WhalePostModel", "newSongs", "(IIZ)I"⟩, 39) := ⟨⟨by decide +kernel, by decide +kernel⟩, List.mem_of_getElem? (i := 1251) (by decide +kernel), List.mem_of_getElem? (i := 1658) (by decide +kernel), List.mem_of_getElem? (i := 1659) (by decide +kernel)⟩
theorem lw_p100 : lw_okq (⟨"WhalePostModel", "power", "(I)I"⟩, 39) := ⟨⟨by decide +kernel, by decide +kernel⟩, List.mem_of_getElem? (i := 1251) (by decide +kernel), List.mem_of_getElem? (i := 1662) (by decide +kernel), List.mem_of_getElem? (i := 1663) (by decide +kernel)⟩
theorem lw_p101 : lw_okq (⟨"WhalePostModel", "digitsApart", "(III)I"⟩, 39) := ⟨⟨by decide +kernel, by decide +kernel⟩, List.mem_of_getElem? (i := 1251) (by decide +kernel), List.mem_of_getElem? (i := 1666) (by decide +kernel), List.mem_of_getElem? (i := 1667) (by decide +kernel)⟩
theorem lw_p102 : lw_okq (⟨"WhalePostModel", "hearsItself", "(II)Z"⟩, 39) := ⟨⟨by decide +kernel, by decide +kernel⟩, List.mem_of_getElem? (i := 1251) (by decide +kernel), List.mem_of_getElem? (i := 1682) (by decide +kernel), List.mem_of_getElem? (i := 1683) (by decide +kernel)⟩
theorem lw_p103 : lw_okq (⟨"WhalePostModel", "setsOut", "(III)I"⟩, 39) := ⟨⟨by decide +kernel, by decide +kernel⟩, List.mem_of_getElem? (i := 1251) (by decide +kernel), List.mem_of_getElem? (i := 1698) (by decide +kernel), List.mem_of_getElem? (i := 1699) (by decide +kernel)⟩
theorem lw_p104 : lw_okq (⟨"WhalePostModel", "arrivalOf", "(IIII)I"⟩, 39) := ⟨⟨by decide +kernel, by decide +kernel⟩, List.mem_of_getElem? (i := 1251) (by decide +kernel), List.mem_of_getElem? (i := 1706) (by decide +kernel), List.mem_of_getElem? (i := 1707) (by decide +kernel)⟩
theorem lw_p105 : lw_okq (⟨"WhalePostModel", "layDays", "(III)V"⟩, 39) := ⟨⟨by decide +kernel, by decide +kernel⟩, List.mem_of_getElem? (i := 1251) (by decide +kernel), List.mem_of_getElem? (i := 1710) (by decide +kernel), List.mem_of_getElem? (i := 1711) (by decide +kernel)⟩
theorem lw_p106 : lw_okq (⟨"WhalePostModel", "goesBy", "(III)V"⟩, 39) := ⟨⟨by decide +kernel, by decide +kernel⟩, List.mem_of_getElem? (i := 1251) (by decide +kernel), List.mem_of_getElem? (i := 1715) (by decide +kernel), List.mem_of_getElem? (i := 1716) (by decide +kernel)⟩
theorem lw_p107 : lw_okq (⟨"WhalePostModel", "dayBy", "(III)I"⟩, 39) := ⟨⟨by decide +kernel, by decide +kernel⟩, List.mem_of_getElem? (i := 1251) (by decide +kernel), List.mem_of_getElem? (i := 1719) (by decide +kernel), List.mem_of_getElem? (i := 1720) (by decide +kernel)⟩
theorem lw_p108 : lw_okq (⟨"WhalePostModel", "bringsOf", "(II)I"⟩, 39) := ⟨⟨by decide +kernel, by decide +kernel⟩, List.mem_of_getElem? (i := 1251) (by decide +kernel), List.mem_of_getElem? (i := 1727) (by decide +kernel), List.mem_of_getElem? (i := 1728) (by decide +kernel)⟩
theorem lw_p109 : lw_okq (⟨"WhalePostModel", "lays", "(II)Z"⟩, 39) := ⟨⟨by decide +kernel, by decide +kernel⟩, List.mem_of_getElem? (i := 1251) (by decide +kernel), List.mem_of_getElem? (i := 1731) (by decide +kernel), List.mem_of_getElem? (i := 1732) (by decide +kernel)⟩
theorem lw_p110 : lw_okq (⟨"WhalePostModel", "surestBut", "(II)I"⟩, 39) := ⟨⟨by decide +kernel, by decide +kernel⟩, List.mem_of_getElem? (i := 1251) (by decide +kernel), List.mem_of_getElem? (i := 1746) (by decide +kernel), List.mem_of_getElem? (i := 1747) (by decide +kernel)⟩
theorem lw_p111 : lw_okq (⟨"WhalePostModel", "seekMatch", "()V"⟩, 39) := ⟨⟨by decide +kernel, by decide +kernel⟩, List.mem_of_getElem? (i := 1251) (by decide +kernel), List.mem_of_getElem? (i := 1766) (by decide +kernel), List.mem_of_getElem? (i := 1767) (by decide +kernel)⟩
def lw_privs_7 : List (MethodName × Nat) := [(⟨"WhalePostModel", "nearOf", "(IZ)I"⟩, 39), (⟨"WhalePostModel", "apartOf", "(II)I"⟩, 39), (⟨"WhalePostModel", "songWhy", "(II)I"⟩, 39), (⟨"WhalePostModel", "newSongs", "(IIZ)I"⟩, 39), (⟨"WhalePostModel", "power", "(I)I"⟩, 39), (⟨"WhalePostModel", "digitsApart", "(III)I"⟩, 39), (⟨"WhalePostModel", "hearsItself", "(II)Z"⟩, 39), (⟨"WhalePostModel", "setsOut", "(III)I"⟩, 39), (⟨"WhalePostModel", "arrivalOf", "(IIII)I"⟩, 39), (⟨"WhalePostModel", "layDays", "(III)V"⟩, 39), (⟨"WhalePostModel", "goesBy", "(III)V"⟩, 39), (⟨"WhalePostModel", "dayBy", "(III)I"⟩, 39), (⟨"WhalePostModel", "bringsOf", "(II)I"⟩, 39), (⟨"WhalePostModel", "lays", "(II)Z"⟩, 39), (⟨"WhalePostModel", "surestBut", "(II)I"⟩, 39), (⟨"WhalePostModel", "seekMatch", "()V"⟩, 39)]
theorem lw_r7 : ∀ q ∈ lw_privs_7, lw_okq q := List.forall_mem_cons.mpr ⟨lw_p96, List.forall_mem_cons.mpr ⟨lw_p97, List.forall_mem_cons.mpr ⟨lw_p98, List.forall_mem_cons.mpr ⟨lw_p99, List.forall_mem_cons.mpr ⟨lw_p100, List.forall_mem_cons.mpr ⟨lw_p101, List.forall_mem_cons.mpr ⟨lw_p102, List.forall_mem_cons.mpr ⟨lw_p103, List.forall_mem_cons.mpr ⟨lw_p104, List.forall_mem_cons.mpr ⟨lw_p105, List.forall_mem_cons.mpr ⟨lw_p106, List.forall_mem_cons.mpr ⟨lw_p107, List.forall_mem_cons.mpr ⟨lw_p108, List.forall_mem_cons.mpr ⟨lw_p109, List.forall_mem_cons.mpr ⟨lw_p110, List.forall_mem_cons.mpr ⟨lw_p111, fun _ h => absurd h List.not_mem_nil⟩⟩⟩⟩⟩⟩⟩⟩⟩⟩⟩⟩⟩⟩⟩⟩
theorem lw_p112 : lw_okq (⟨"WhalePostModel", "tryMatch", "(IIII)V"⟩, 39) := ⟨⟨by decide +kernel, by decide +kernel⟩, List.mem_of_getElem? (i := 1251) (by decide +kernel), List.mem_of_getElem? (i := 1770) (by decide +kernel), List.mem_of_getElem? (i := 1771) (by decide +kernel)⟩
theorem lw_p113 : lw_okq (⟨"WhalePostModel", "fitsAll", "(I)Z"⟩, 39) := ⟨⟨by decide +kernel, by decide +kernel⟩, List.mem_of_getElem? (i := 1251) (by decide +kernel), List.mem_of_getElem? (i := 1790) (by decide +kernel), List.mem_of_getElem? (i := 1791) (by decide +kernel)⟩
theorem lw_p114 : lw_okq (⟨"WhalePostModel", "reachOf", "(II)I"⟩, 39) := ⟨⟨by decide +kernel, by decide +kernel⟩, List.mem_of_getElem? (i := 1251) (by decide +kernel), List.mem_of_getElem? (i := 1798) (by decide +kernel), List.mem_of_getElem? (i := 1799) (by decide +kernel)⟩
theorem lw_p115 : lw_okq (⟨"WhalePostModel", "doLead", "(III)Z"⟩, 39) := ⟨⟨by decide +kernel, by decide +kernel⟩, List.mem_of_getElem? (i := 1251) (by decide +kernel), List.mem_of_getElem? (i := 1813) (by decide +kernel), List.mem_of_getElem? (i := 1814) (by decide +kernel)⟩
theorem lw_p116 : lw_okq (⟨"WhalePostModel", "seekRound", "(I)I"⟩, 39) := ⟨⟨by decide +kernel, by decide +kernel⟩, List.mem_of_getElem? (i := 1251) (by decide +kernel), List.mem_of_getElem? (i := 1821) (by decide +kernel), List.mem_of_getElem? (i := 1822) (by decide +kernel)⟩
theorem lw_p117 : lw_okq (⟨"WhalePostModel", "layFar", "()V"⟩, 39) := ⟨⟨by decide +kernel, by decide +kernel⟩, List.mem_of_getElem? (i := 1251) (by decide +kernel), List.mem_of_getElem? (i := 1825) (by decide +kernel), List.mem_of_getElem? (i := 1826) (by decide +kernel)⟩
theorem lw_p118 : lw_okq (⟨"WhalePostModel", "tryRound", "(III)V"⟩, 39) := ⟨⟨by decide +kernel, by decide +kernel⟩, List.mem_of_getElem? (i := 1251) (by decide +kernel), List.mem_of_getElem? (i := 1829) (by decide +kernel), List.mem_of_getElem? (i := 1830) (by decide +kernel)⟩
theorem lw_p119 : lw_okq (⟨"WhalePostModel", "note1", "()V"⟩, 39) := ⟨⟨by decide +kernel, by decide +kernel⟩, List.mem_of_getElem? (i := 1251) (by decide +kernel), List.mem_of_getElem? (i := 1847) (by decide +kernel), List.mem_of_getElem? (i := 1848) (by decide +kernel)⟩
theorem lw_p120 : lw_okq (⟨"WhalePostModel", "isNot", "(I)Z"⟩, 39) := ⟨⟨by decide +kernel, by decide +kernel⟩, List.mem_of_getElem? (i := 1251) (by decide +kernel), List.mem_of_getElem? (i := 1855) (by decide +kernel), List.mem_of_getElem? (i := 1856) (by decide +kernel)⟩
def lw_privs_8 : List (MethodName × Nat) := [(⟨"WhalePostModel", "tryMatch", "(IIII)V"⟩, 39), (⟨"WhalePostModel", "fitsAll", "(I)Z"⟩, 39), (⟨"WhalePostModel", "reachOf", "(II)I"⟩, 39), (⟨"WhalePostModel", "doLead", "(III)Z"⟩, 39), (⟨"WhalePostModel", "seekRound", "(I)I"⟩, 39), (⟨"WhalePostModel", "layFar", "()V"⟩, 39), (⟨"WhalePostModel", "tryRound", "(III)V"⟩, 39), (⟨"WhalePostModel", "note1", "()V"⟩, 39), (⟨"WhalePostModel", "isNot", "(I)Z"⟩, 39)]
theorem lw_r8 : ∀ q ∈ lw_privs_8, lw_okq q := List.forall_mem_cons.mpr ⟨lw_p112, List.forall_mem_cons.mpr ⟨lw_p113, List.forall_mem_cons.mpr ⟨lw_p114, List.forall_mem_cons.mpr ⟨lw_p115, List.forall_mem_cons.mpr ⟨lw_p116, List.forall_mem_cons.mpr ⟨lw_p117, List.forall_mem_cons.mpr ⟨lw_p118, List.forall_mem_cons.mpr ⟨lw_p119, List.forall_mem_cons.mpr ⟨lw_p120, fun _ h => absurd h List.not_mem_nil⟩⟩⟩⟩⟩⟩⟩⟩⟩
def lw_privs : List (MethodName × Nat) := lw_privs_1 ++ (lw_privs_2 ++ (lw_privs_3 ++ (lw_privs_4 ++ (lw_privs_5 ++ (lw_privs_6 ++ (lw_privs_7 ++ (lw_privs_8)))))))
def lw_tbl : List Cond := k2_sels lw_privs ++ tables_1
theorem lw_privs_ok : ∀ q ∈ lw_privs, lw_okq q := by
  show ∀ q ∈ lw_privs_1 ++ (lw_privs_2 ++ (lw_privs_3 ++ (lw_privs_4 ++ (lw_privs_5 ++ (lw_privs_6 ++ (lw_privs_7 ++ (lw_privs_8))))))), lw_okq q
  exact List.forall_mem_append.mpr ⟨lw_r1, List.forall_mem_append.mpr ⟨lw_r2, List.forall_mem_append.mpr ⟨lw_r3, List.forall_mem_append.mpr ⟨lw_r4, List.forall_mem_append.mpr ⟨lw_r5, List.forall_mem_append.mpr ⟨lw_r6, List.forall_mem_append.mpr ⟨lw_r7, lw_r8⟩⟩⟩⟩⟩⟩⟩
end
section
def RX0 : String := "WhalePost$Box"
def TX0 : u_T := fun k => match k with
  | 0 => ("WhalePost$Box", "from", "I", false)
  | 1 => ("WhalePost$Box", "to", "I", false)
  | 2 => ("WhalePost$Box", "weighs", "I", false)
  | _ => ("WhalePost$Box", "day", "I", false)
def tyX0 : Nat → FieldType := fun k => match k with
  | 0 => .int
  | 1 => .int
  | 2 => .int
  | _ => .int
theorem nmX0 : ∀ a, a < 4 → ∀ b, b < 4 → a ≠ b → (TX0 a).2.1 ≠ (TX0 b).2.1 := by decide +kernel
theorem tyX0_ok : ∀ k, k < 4 → parseFieldDescriptor (TX0 k).2.2.1 = some (tyX0 k) := by decide +kernel
abbrev cX0_init : ByteArray := prog_2_method_1_code
def yX0_init : MethodName := ⟨RX0, "<init>", "()V"⟩
def RX1 : String := "WhalePost$Matching"
def TX1 : u_T := fun k => match k with
  | 0 => ("WhalePost$Matching", "days", "[I", true)
  | 1 => ("WhalePost$Matching", "whaleOf", "[I", true)
  | 2 => ("WhalePost$Matching", "count", "I", false)
  | 3 => ("WhalePost$Matching", "sumOfDays", "I", false)
  | _ => ("WhalePost$Matching", "best", "[I", true)
def tyX1 : Nat → FieldType := fun k => match k with
  | 0 => .array .int
  | 1 => .array .int
  | 2 => .int
  | 3 => .int
  | _ => .array .int
theorem nmX1 : ∀ a, a < 5 → ∀ b, b < 5 → a ≠ b → (TX1 a).2.1 ≠ (TX1 b).2.1 := by decide +kernel
theorem tyX1_ok : ∀ k, k < 5 → parseFieldDescriptor (TX1 k).2.2.1 = some (tyX1 k) := by decide +kernel
abbrev cX1_init : ByteArray := prog_3_method_1_code
def yX1_init : MethodName := ⟨RX1, "<init>", "()V"⟩
abbrev cX1_solve : ByteArray := prog_3_method_2_code
def yX1_solve : MethodName := ⟨RX1, "solve", "(II)V"⟩
abbrev cX1_worth : ByteArray := prog_3_method_3_code
def yX1_worth : MethodName := ⟨RX1, "worth", "(III)I"⟩
abbrev cX1_choose : ByteArray := prog_3_method_4_code
def yX1_choose : MethodName := ⟨RX1, "choose", "(II)V"⟩
abbrev cX1_firstBest : ByteArray := prog_3_method_5_code
def yX1_firstBest : MethodName := ⟨RX1, "firstBest", "(III)I"⟩
def RX2 : String := "WhalePost$Now"
def TX2 : u_T := fun k => match k with
  | 0 => ("WhalePost$Now", "year", "I", false)
  | 1 => ("WhalePost$Now", "closed", "I", false)
  | 2 => ("WhalePost$Now", "whaleAt", "[I", true)
  | 3 => ("WhalePost$Now", "whaleFree", "[I", true)
  | 4 => ("WhalePost$Now", "boxCame", "[I", true)
  | 5 => ("WhalePost$Now", "boxGot", "[I", true)
  | _ => ("WhalePost$Now", "boxSong", "[I", true)
def tyX2 : Nat → FieldType := fun k => match k with
  | 0 => .int
  | 1 => .int
  | 2 => .array .int
  | 3 => .array .int
  | 4 => .array .int
  | 5 => .array .int
  | _ => .array .int
theorem nmX2 : ∀ a, a < 7 → ∀ b, b < 7 → a ≠ b → (TX2 a).2.1 ≠ (TX2 b).2.1 := by decide +kernel
theorem tyX2_ok : ∀ k, k < 7 → parseFieldDescriptor (TX2 k).2.2.1 = some (tyX2 k) := by decide +kernel
abbrev cX2_init : ByteArray := prog_4_method_1_code
def yX2_init : MethodName := ⟨RX2, "<init>", "()V"⟩
abbrev cX2_begin : ByteArray := prog_4_method_2_code
def yX2_begin : MethodName := ⟨RX2, "begin", "(LWhalePost$Post;)V"⟩
abbrev cX2_copyFrom : ByteArray := prog_4_method_3_code
def yX2_copyFrom : MethodName := ⟨RX2, "copyFrom", "(LWhalePost$Now;)V"⟩
abbrev cX2_isClosed : ByteArray := prog_4_method_4_code
def yX2_isClosed : MethodName := ⟨RX2, "isClosed", "(I)Z"⟩
abbrev cX2_isSent : ByteArray := prog_4_method_5_code
def yX2_isSent : MethodName := ⟨RX2, "isSent", "(I)Z"⟩
def RX3 : String := "WhalePost$Paths"
def TX3 : u_T := fun k => match k with
  | 0 => ("WhalePost$Paths", "post", "LWhalePost$Post;", false)
  | 1 => ("WhalePost$Paths", "order", "[I", true)
  | 2 => ("WhalePost$Paths", "between", "[I", true)
  | _ => ("WhalePost$Paths", "rest", "[I", true)
def tyX3 : Nat → FieldType := fun k => match k with
  | 0 => .object "WhalePost$Post"
  | 1 => .array .int
  | 2 => .array .int
  | _ => .array .int
theorem nmX3 : ∀ a, a < 4 → ∀ b, b < 4 → a ≠ b → (TX3 a).2.1 ≠ (TX3 b).2.1 := by decide +kernel
theorem tyX3_ok : ∀ k, k < 4 → parseFieldDescriptor (TX3 k).2.2.1 = some (tyX3 k) := by decide +kernel
abbrev cX3_init : ByteArray := prog_5_method_1_code
def yX3_init : MethodName := ⟨RX3, "<init>", "(LWhalePost$Post;)V"⟩
abbrev cX3_fewestToWatch : ByteArray := prog_5_method_2_code
def yX3_fewestToWatch : MethodName := ⟨RX3, "fewestToWatch", "(III)I"⟩
abbrev cX3_waysOutOf : ByteArray := prog_5_method_3_code
def yX3_waysOutOf : MethodName := ⟨RX3, "waysOutOf", "(I)I"⟩
abbrev cX3_findRound : ByteArray := prog_5_method_4_code
def yX3_findRound : MethodName := ⟨RX3, "findRound", "(II)I"⟩
abbrev cX3_findShortest : ByteArray := prog_5_method_5_code
def yX3_findShortest : MethodName := ⟨RX3, "findShortest", "(I)V"⟩
abbrev cX3_findRests : ByteArray := prog_5_method_6_code
def yX3_findRests : MethodName := ⟨RX3, "findRests", "()V"⟩
abbrev cX3_daysOver : ByteArray := prog_5_method_7_code
def yX3_daysOver : MethodName := ⟨RX3, "daysOver", "(III)I"⟩
abbrev cX3_nextOf : ByteArray := prog_5_method_8_code
def yX3_nextOf : MethodName := ⟨RX3, "nextOf", "(II)I"⟩
def RX4 : String := "WhalePost$Post"
def TX4 : u_T := fun k => match k with
  | 0 => ("WhalePost$Post", "notes", "I", false)
  | 1 => ("WhalePost$Post", "errors", "I", false)
  | 2 => ("WhalePost$Post", "drift", "I", false)
  | 3 => ("WhalePost$Post", "slip", "I", false)
  | 4 => ("WhalePost$Post", "islands", "I", false)
  | 5 => ("WhalePost$Post", "ways", "I", false)
  | 6 => ("WhalePost$Post", "whales", "I", false)
  | 7 => ("WhalePost$Post", "boxes", "I", false)
  | 8 => ("WhalePost$Post", "spouts", "I", false)
  | 9 => ("WhalePost$Post", "song", "[I", true)
  | 10 => ("WhalePost$Post", "songLength", "[I", true)
  | 11 => ("WhalePost$Post", "way", "[LWhalePost$Way;", true)
  | 12 => ("WhalePost$Post", "whale", "[LWhalePost$Whale;", true)
  | 13 => ("WhalePost$Post", "box", "[LWhalePost$Box;", true)
  | _ => ("WhalePost$Post", "spout", "[LWhalePost$Spout;", true)
def tyX4 : Nat → FieldType := fun k => match k with
  | 0 => .int
  | 1 => .int
  | 2 => .int
  | 3 => .int
  | 4 => .int
  | 5 => .int
  | 6 => .int
  | 7 => .int
  | 8 => .int
  | 9 => .array .int
  | 10 => .array .int
  | 11 => .array (.object "WhalePost$Way")
  | 12 => .array (.object "WhalePost$Whale")
  | 13 => .array (.object "WhalePost$Box")
  | _ => .array (.object "WhalePost$Spout")
theorem nmX4 : ∀ a, a < 15 → ∀ b, b < 15 → a ≠ b → (TX4 a).2.1 ≠ (TX4 b).2.1 := by decide +kernel
theorem tyX4_ok : ∀ k, k < 15 → parseFieldDescriptor (TX4 k).2.2.1 = some (tyX4 k) := by decide +kernel
abbrev cX4_init : ByteArray := prog_6_method_1_code
def yX4_init : MethodName := ⟨RX4, "<init>", "()V"⟩
abbrev cX4_clear : ByteArray := prog_6_method_2_code
def yX4_clear : MethodName := ⟨RX4, "clear", "()V"⟩
abbrev cX4_boxLength : ByteArray := prog_6_method_3_code
def yX4_boxLength : MethodName := ⟨RX4, "boxLength", "(I)I"⟩
abbrev cX4_wayBetween : ByteArray := prog_6_method_4_code
def yX4_wayBetween : MethodName := ⟨RX4, "wayBetween", "(II)I"⟩
abbrev cX4_hasSong : ByteArray := prog_6_method_5_code
def yX4_hasSong : MethodName := ⟨RX4, "hasSong", "(II)Z"⟩
abbrev cX4_lastSpoutOf : ByteArray := prog_6_method_6_code
def yX4_lastSpoutOf : MethodName := ⟨RX4, "lastSpoutOf", "(I)I"⟩
def RX5 : String := "WhalePost$Reader"
def TX5 : u_T := fun k => match k with
  | 0 => ("WhalePost$Reader", "text", "[B", true)
  | 1 => ("WhalePost$Reader", "end", "I", false)
  | 2 => ("WhalePost$Reader", "at", "I", false)
  | 3 => ("WhalePost$Reader", "token", "I", false)
  | 4 => ("WhalePost$Reader", "start", "I", false)
  | 5 => ("WhalePost$Reader", "value", "I", false)
  | 6 => ("WhalePost$Reader", "post", "LWhalePost$Post;", false)
  | 7 => ("WhalePost$Reader", "name", "[J", true)
  | 8 => ("WhalePost$Reader", "nameSort", "[I", true)
  | 9 => ("WhalePost$Reader", "nameNumber", "[I", true)
  | 10 => ("WhalePost$Reader", "names", "I", false)
  | 11 => ("WhalePost$Reader", "fault", "I", false)
  | _ => ("WhalePost$Reader", "place", "I", false)
def tyX5 : Nat → FieldType := fun k => match k with
  | 0 => .array .byte
  | 1 => .int
  | 2 => .int
  | 3 => .int
  | 4 => .int
  | 5 => .int
  | 6 => .object "WhalePost$Post"
  | 7 => .array .long
  | 8 => .array .int
  | 9 => .array .int
  | 10 => .int
  | 11 => .int
  | _ => .int
theorem nmX5 : ∀ a, a < 13 → ∀ b, b < 13 → a ≠ b → (TX5 a).2.1 ≠ (TX5 b).2.1 := by decide +kernel
theorem tyX5_ok : ∀ k, k < 13 → parseFieldDescriptor (TX5 k).2.2.1 = some (tyX5 k) := by decide +kernel
abbrev cX5_init : ByteArray := prog_7_method_1_code
def yX5_init : MethodName := ⟨RX5, "<init>", "([BLWhalePost$Post;)V"⟩
abbrev cX5_readPost : ByteArray := prog_7_method_2_code
def yX5_readPost : MethodName := ⟨RX5, "readPost", "(ILWhalePost$Post;)Z"⟩
abbrev cX5_faulty : ByteArray := prog_7_method_3_code
def yX5_faulty : MethodName := ⟨RX5, "faulty", "(I)Z"⟩
abbrev cX5_readLine : ByteArray := prog_7_method_4_code
def yX5_readLine : MethodName := ⟨RX5, "readLine", "()Z"⟩
abbrev cX5_readHead : ByteArray := prog_7_method_5_code
def yX5_readHead : MethodName := ⟨RX5, "readHead", "()Z"⟩
abbrev cX5_readIsland : ByteArray := prog_7_method_6_code
def yX5_readIsland : MethodName := ⟨RX5, "readIsland", "()Z"⟩
abbrev cX5_readWay : ByteArray := prog_7_method_7_code
def yX5_readWay : MethodName := ⟨RX5, "readWay", "(LWhalePost$Way;)Z"⟩
abbrev cX5_readWhale : ByteArray := prog_7_method_8_code
def yX5_readWhale : MethodName := ⟨RX5, "readWhale", "(LWhalePost$Whale;)Z"⟩
abbrev cX5_readBox : ByteArray := prog_7_method_9_code
def yX5_readBox : MethodName := ⟨RX5, "readBox", "(LWhalePost$Box;)Z"⟩
abbrev cX5_readSpout : ByteArray := prog_7_method_10_code
def yX5_readSpout : MethodName := ⟨RX5, "readSpout", "(LWhalePost$Spout;)Z"⟩
abbrev cX5_word : ByteArray := prog_7_method_11_code
def yX5_word : MethodName := ⟨RX5, "word", "(Ljava/lang/String;)Z"⟩
abbrev cX5_whole : ByteArray := prog_7_method_12_code
def yX5_whole : MethodName := ⟨RX5, "whole", "(II)Z"⟩
abbrev cX5_newName : ByteArray := prog_7_method_13_code
def yX5_newName : MethodName := ⟨RX5, "newName", "(II)Z"⟩
abbrev cX5_toldName : ByteArray := prog_7_method_14_code
def yX5_toldName : MethodName := ⟨RX5, "toldName", "(I)Z"⟩
abbrev cX5_nameOfToken : ByteArray := prog_7_method_15_code
def yX5_nameOfToken : MethodName := ⟨RX5, "nameOfToken", "()I"⟩
abbrev cX5_letters : ByteArray := prog_7_method_16_code
def yX5_letters : MethodName := ⟨RX5, "letters", "()J"⟩
abbrev cX5_songOfToken : ByteArray := prog_7_method_17_code
def yX5_songOfToken : MethodName := ⟨RX5, "songOfToken", "()I"⟩
abbrev cX5_kindOfToken : ByteArray := prog_7_method_18_code
def yX5_kindOfToken : MethodName := ⟨RX5, "kindOfToken", "()I"⟩
abbrev cX5_sortOfLine : ByteArray := prog_7_method_19_code
def yX5_sortOfLine : MethodName := ⟨RX5, "sortOfLine", "()I"⟩
abbrev cX5_isToken : ByteArray := prog_7_method_20_code
def yX5_isToken : MethodName := ⟨RX5, "isToken", "(Ljava/lang/String;)Z"⟩
abbrev cX5_nextToken : ByteArray := prog_7_method_21_code
def yX5_nextToken : MethodName := ⟨RX5, "nextToken", "()V"⟩
abbrev cX5_passAll : ByteArray := prog_7_method_22_code
def yX5_passAll : MethodName := ⟨RX5, "passAll", "(CC)Z"⟩
def RX6 : String := "WhalePost$Sea"
def TX6 : u_T := fun k => match k with
  | 0 => ("WhalePost$Sea", "post", "LWhalePost$Post;", false)
  | 1 => ("WhalePost$Sea", "now", "LWhalePost$Now;", true)
  | 2 => ("WhalePost$Sea", "songs", "LWhalePost$Songs;", true)
  | 3 => ("WhalePost$Sea", "first", "[I", true)
  | 4 => ("WhalePost$Sea", "goal", "I", false)
  | 5 => ("WhalePost$Sea", "taken", "I", false)
  | _ => ("WhalePost$Sea", "arrived", "I", false)
def tyX6 : Nat → FieldType := fun k => match k with
  | 0 => .object "WhalePost$Post"
  | 1 => .object "WhalePost$Now"
  | 2 => .object "WhalePost$Songs"
  | 3 => .array .int
  | 4 => .int
  | 5 => .int
  | _ => .int
theorem nmX6 : ∀ a, a < 7 → ∀ b, b < 7 → a ≠ b → (TX6 a).2.1 ≠ (TX6 b).2.1 := by decide +kernel
theorem tyX6_ok : ∀ k, k < 7 → parseFieldDescriptor (TX6 k).2.2.1 = some (tyX6 k) := by decide +kernel
abbrev cX6_init : ByteArray := prog_8_method_1_code
def yX6_init : MethodName := ⟨RX6, "<init>", "(LWhalePost$Post;LWhalePost$Now;LWhalePost$Songs;)V"⟩
abbrev cX6_dayOfLeaving : ByteArray := prog_8_method_2_code
def yX6_dayOfLeaving : MethodName := ⟨RX6, "dayOfLeaving", "(III)I"⟩
abbrev cX6_findFirstDays : ByteArray := prog_8_method_3_code
def yX6_findFirstDays : MethodName := ⟨RX6, "findFirstDays", "(III)V"⟩
abbrev cX6_goes : ByteArray := prog_8_method_4_code
def yX6_goes : MethodName := ⟨RX6, "goes", "(ILWhalePost$Way;II)Z"⟩
abbrev cX6_firstDayAt : ByteArray := prog_8_method_5_code
def yX6_firstDayAt : MethodName := ⟨RX6, "firstDayAt", "(IIII)I"⟩
abbrev cX6_dayOfBringing : ByteArray := prog_8_method_6_code
def yX6_dayOfBringing : MethodName := ⟨RX6, "dayOfBringing", "(II)I"⟩
abbrev cX6_soonestBringer : ByteArray := prog_8_method_7_code
def yX6_soonestBringer : MethodName := ⟨RX6, "soonestBringer", "(I)I"⟩
abbrev cX6_surestBringer : ByteArray := prog_8_method_8_code
def yX6_surestBringer : MethodName := ⟨RX6, "surestBringer", "(II)I"⟩
abbrev cX6_bringersBy : ByteArray := prog_8_method_9_code
def yX6_bringersBy : MethodName := ⟨RX6, "bringersBy", "(II)I"⟩
abbrev cX6_dayOfMeeting : ByteArray := prog_8_method_10_code
def yX6_dayOfMeeting : MethodName := ⟨RX6, "dayOfMeeting", "(IIII)I"⟩
abbrev cX6_fittingWhales : ByteArray := prog_8_method_11_code
def yX6_fittingWhales : MethodName := ⟨RX6, "fittingWhales", "()I"⟩
abbrev cX6_isFitting : ByteArray := prog_8_method_12_code
def yX6_isFitting : MethodName := ⟨RX6, "isFitting", "(I)Z"⟩
abbrev cX6_islandsReached : ByteArray := prog_8_method_13_code
def yX6_islandsReached : MethodName := ⟨RX6, "islandsReached", "(II)I"⟩
abbrev cX6_bestPier : ByteArray := prog_8_method_14_code
def yX6_bestPier : MethodName := ⟨RX6, "bestPier", "(I)I"⟩
abbrev cX6_whalesReaching : ByteArray := prog_8_method_15_code
def yX6_whalesReaching : MethodName := ⟨RX6, "whalesReaching", "(II)I"⟩
def RX7 : String := "WhalePost$Songs"
def TX7 : u_T := fun k => match k with
  | 0 => ("WhalePost$Songs", "post", "LWhalePost$Post;", false)
  | 1 => ("WhalePost$Songs", "seed", "I", false)
  | 2 => ("WhalePost$Songs", "fewestUnlike", "I", false)
  | 3 => ("WhalePost$Songs", "nearestCount", "I", false)
  | 4 => ("WhalePost$Songs", "firstNew", "I", false)
  | _ => ("WhalePost$Songs", "kept", "[I", true)
def tyX7 : Nat → FieldType := fun k => match k with
  | 0 => .object "WhalePost$Post"
  | 1 => .int
  | 2 => .int
  | 3 => .int
  | 4 => .int
  | _ => .array .int
theorem nmX7 : ∀ a, a < 6 → ∀ b, b < 6 → a ≠ b → (TX7 a).2.1 ≠ (TX7 b).2.1 := by decide +kernel
theorem tyX7_ok : ∀ k, k < 6 → parseFieldDescriptor (TX7 k).2.2.1 = some (tyX7 k) := by decide +kernel
abbrev cX7_init : ByteArray := prog_9_method_1_code
def yX7_init : MethodName := ⟨RX7, "<init>", "(LWhalePost$Post;)V"⟩
abbrev cX7_fallIn : ByteArray := prog_9_method_2_code
def yX7_fallIn : MethodName := ⟨RX7, "fallIn", "(I)I"⟩
abbrev cX7_raised : ByteArray := prog_9_method_3_code
def yX7_raised : MethodName := ⟨RX7, "raised", "(III)I"⟩
abbrev cX7_songIn : ByteArray := prog_9_method_4_code
def yX7_songIn : MethodName := ⟨RX7, "songIn", "(II)I"⟩
abbrev cX7_hearerOf : ByteArray := prog_9_method_5_code
def yX7_hearerOf : MethodName := ⟨RX7, "hearerOf", "(III)I"⟩
abbrev cX7_apartness : ByteArray := prog_9_method_6_code
def yX7_apartness : MethodName := ⟨RX7, "apartness", "(II)I"⟩
abbrev cX7_bearable : ByteArray := prog_9_method_7_code
def yX7_bearable : MethodName := ⟨RX7, "bearable", "()I"⟩
abbrev cX7_mixedPairs : ByteArray := prog_9_method_8_code
def yX7_mixedPairs : MethodName := ⟨RX7, "mixedPairs", "()I"⟩
abbrev cX7_findNew : ByteArray := prog_9_method_9_code
def yX7_findNew : MethodName := ⟨RX7, "findNew", "(IIII)I"⟩
abbrev cX7_keepSongsOf : ByteArray := prog_9_method_10_code
def yX7_keepSongsOf : MethodName := ⟨RX7, "keepSongsOf", "(II)I"⟩
abbrev cX7_isOfNotes : ByteArray := prog_9_method_11_code
def yX7_isOfNotes : MethodName := ⟨RX7, "isOfNotes", "(II)Z"⟩
abbrev cX7_isFarFromKept : ByteArray := prog_9_method_12_code
def yX7_isFarFromKept : MethodName := ⟨RX7, "isFarFromKept", "(III)Z"⟩
abbrev cX7_draw : ByteArray := prog_9_method_13_code
def yX7_draw : MethodName := ⟨RX7, "draw", "()I"⟩
abbrev cX7_slipped : ByteArray := prog_9_method_14_code
def yX7_slipped : MethodName := ⟨RX7, "slipped", "(II)I"⟩
def RX8 : String := "WhalePost$Spout"
def TX8 : u_T := fun k => match k with
  | 0 => ("WhalePost$Spout", "whale", "I", false)
  | 1 => ("WhalePost$Spout", "island", "I", false)
  | _ => ("WhalePost$Spout", "day", "I", false)
def tyX8 : Nat → FieldType := fun k => match k with
  | 0 => .int
  | 1 => .int
  | _ => .int
theorem nmX8 : ∀ a, a < 3 → ∀ b, b < 3 → a ≠ b → (TX8 a).2.1 ≠ (TX8 b).2.1 := by decide +kernel
theorem tyX8_ok : ∀ k, k < 3 → parseFieldDescriptor (TX8 k).2.2.1 = some (tyX8 k) := by decide +kernel
abbrev cX8_init : ByteArray := prog_10_method_1_code
def yX8_init : MethodName := ⟨RX8, "<init>", "()V"⟩
def RX9 : String := "WhalePost$Way"
def TX9 : u_T := fun k => match k with
  | 0 => ("WhalePost$Way", "one", "I", false)
  | 1 => ("WhalePost$Way", "other", "I", false)
  | 2 => ("WhalePost$Way", "days", "I", false)
  | _ => ("WhalePost$Way", "open", "I", false)
def tyX9 : Nat → FieldType := fun k => match k with
  | 0 => .int
  | 1 => .int
  | 2 => .int
  | _ => .int
theorem nmX9 : ∀ a, a < 4 → ∀ b, b < 4 → a ≠ b → (TX9 a).2.1 ≠ (TX9 b).2.1 := by decide +kernel
theorem tyX9_ok : ∀ k, k < 4 → parseFieldDescriptor (TX9 k).2.2.1 = some (tyX9 k) := by decide +kernel
abbrev cX9_init : ByteArray := prog_11_method_1_code
def yX9_init : MethodName := ⟨RX9, "<init>", "()V"⟩
def RX10 : String := "WhalePost$Whale"
def TX10 : u_T := fun k => match k with
  | 0 => ("WhalePost$Whale", "kind", "I", false)
  | 1 => ("WhalePost$Whale", "home", "I", false)
  | 2 => ("WhalePost$Whale", "keeps", "I", false)
  | _ => ("WhalePost$Whale", "lost", "I", false)
def tyX10 : Nat → FieldType := fun k => match k with
  | 0 => .int
  | 1 => .int
  | 2 => .int
  | _ => .int
theorem nmX10 : ∀ a, a < 4 → ∀ b, b < 4 → a ≠ b → (TX10 a).2.1 ≠ (TX10 b).2.1 := by decide +kernel
theorem tyX10_ok : ∀ k, k < 4 → parseFieldDescriptor (TX10 k).2.2.1 = some (tyX10 k) := by decide +kernel
abbrev cX10_init : ByteArray := prog_12_method_1_code
def yX10_init : MethodName := ⟨RX10, "<init>", "()V"⟩
def RX11 : String := "WhalePost"
def TX11 : u_T := fun k => match k with
  | 0 => ("WhalePost", "tape", "[B", true)
  | 1 => ("WhalePost", "tapeSize", "I", false)
  | 2 => ("WhalePost", "trouble", "I", false)
  | 3 => ("WhalePost", "post", "LWhalePost$Post;", false)
  | 4 => ("WhalePost", "draft", "LWhalePost$Post;", false)
  | 5 => ("WhalePost", "reader", "LWhalePost$Reader;", true)
  | 6 => ("WhalePost", "now", "LWhalePost$Now;", true)
  | 7 => ("WhalePost", "songs", "LWhalePost$Songs;", true)
  | 8 => ("WhalePost", "sea", "LWhalePost$Sea;", true)
  | 9 => ("WhalePost", "paths", "LWhalePost$Paths;", true)
  | 10 => ("WhalePost", "matching", "LWhalePost$Matching;", true)
  | 11 => ("WhalePost", "history", "[LWhalePost$Now;", true)
  | 12 => ("WhalePost", "newest", "I", false)
  | 13 => ("WhalePost", "undoable", "I", false)
  | 14 => ("WhalePost", "images", "[LWhalePost$Now;", true)
  | _ => ("WhalePost", "imageCount", "I", false)
def tyX11 : Nat → FieldType := fun k => match k with
  | 0 => .array .byte
  | 1 => .int
  | 2 => .int
  | 3 => .object "WhalePost$Post"
  | 4 => .object "WhalePost$Post"
  | 5 => .object "WhalePost$Reader"
  | 6 => .object "WhalePost$Now"
  | 7 => .object "WhalePost$Songs"
  | 8 => .object "WhalePost$Sea"
  | 9 => .object "WhalePost$Paths"
  | 10 => .object "WhalePost$Matching"
  | 11 => .array (.object "WhalePost$Now")
  | 12 => .int
  | 13 => .int
  | 14 => .array (.object "WhalePost$Now")
  | _ => .int
theorem nmX11 : ∀ a, a < 16 → ∀ b, b < 16 → a ≠ b → (TX11 a).2.1 ≠ (TX11 b).2.1 := by decide +kernel
theorem tyX11_ok : ∀ k, k < 16 → parseFieldDescriptor (TX11 k).2.2.1 = some (tyX11 k) := by decide +kernel
abbrev cX11_init : ByteArray := prog_1_method_1_code
def yX11_init : MethodName := ⟨RX11, "<init>", "()V"⟩
abbrev cX11_feed : ByteArray := prog_1_method_2_code
def yX11_feed : MethodName := ⟨RX11, "feed", "(IIIII)I"⟩
abbrev cX11_post : ByteArray := prog_1_method_3_code
def yX11_post : MethodName := ⟨RX11, "post", "(I)I"⟩
abbrev cX11_fault : ByteArray := prog_1_method_4_code
def yX11_fault : MethodName := ⟨RX11, "fault", "()I"⟩
abbrev cX11_where : ByteArray := prog_1_method_5_code
def yX11_where : MethodName := ⟨RX11, "where", "()I"⟩
abbrev cX11_whale : ByteArray := prog_1_method_6_code
def yX11_whale : MethodName := ⟨RX11, "whale", "(II)I"⟩
abbrev cX11_box : ByteArray := prog_1_method_7_code
def yX11_box : MethodName := ⟨RX11, "box", "(II)I"⟩
abbrev cX11_length : ByteArray := prog_1_method_8_code
def yX11_length : MethodName := ⟨RX11, "length", "(I)I"⟩
abbrev cX11_note : ByteArray := prog_1_method_9_code
def yX11_note : MethodName := ⟨RX11, "note", "(II)I"⟩
abbrev cX11_sung : ByteArray := prog_1_method_10_code
def yX11_sung : MethodName := ⟨RX11, "sung", "(II)I"⟩
abbrev cX11_heard : ByteArray := prog_1_method_11_code
def yX11_heard : MethodName := ⟨RX11, "heard", "(I)I"⟩
abbrev cX11_way : ByteArray := prog_1_method_12_code
def yX11_way : MethodName := ⟨RX11, "way", "(II)I"⟩
abbrev cX11_season : ByteArray := prog_1_method_13_code
def yX11_season : MethodName := ⟨RX11, "season", "(I)I"⟩
abbrev cX11_sets : ByteArray := prog_1_method_14_code
def yX11_sets : MethodName := ⟨RX11, "sets", "(III)I"⟩
abbrev cX11_sent : ByteArray := prog_1_method_15_code
def yX11_sent : MethodName := ⟨RX11, "sent", "(I)I"⟩
abbrev cX11_apart : ByteArray := prog_1_method_16_code
def yX11_apart : MethodName := ⟨RX11, "apart", "(II)I"⟩
abbrev cX11_bear : ByteArray := prog_1_method_17_code
def yX11_bear : MethodName := ⟨RX11, "bear", "()I"⟩
abbrev cX11_mixed : ByteArray := prog_1_method_18_code
def yX11_mixed : MethodName := ⟨RX11, "mixed", "()I"⟩
abbrev cX11_fresh : ByteArray := prog_1_method_19_code
def yX11_fresh : MethodName := ⟨RX11, "fresh", "(II)I"⟩
abbrev cX11_byTurns : ByteArray := prog_1_method_20_code
def yX11_byTurns : MethodName := ⟨RX11, "byTurns", "(II)I"⟩
abbrev cX11_near : ByteArray := prog_1_method_21_code
def yX11_near : MethodName := ⟨RX11, "near", "(I)I"⟩
abbrev cX11_asNear : ByteArray := prog_1_method_22_code
def yX11_asNear : MethodName := ⟨RX11, "asNear", "(I)I"⟩
abbrev cX11_heardIn : ByteArray := prog_1_method_23_code
def yX11_heardIn : MethodName := ⟨RX11, "heardIn", "(II)I"⟩
abbrev cX11_strange : ByteArray := prog_1_method_24_code
def yX11_strange : MethodName := ⟨RX11, "strange", "(I)I"⟩
abbrev cX11_arrival : ByteArray := prog_1_method_25_code
def yX11_arrival : MethodName := ⟨RX11, "arrival", "(IIII)I"⟩
abbrev cX11_brings : ByteArray := prog_1_method_26_code
def yX11_brings : MethodName := ⟨RX11, "brings", "(II)I"⟩
abbrev cX11_soonest : ByteArray := prog_1_method_27_code
def yX11_soonest : MethodName := ⟨RX11, "soonest", "(I)I"⟩
abbrev cX11_surest : ByteArray := prog_1_method_28_code
def yX11_surest : MethodName := ⟨RX11, "surest", "(I)I"⟩
abbrev cX11_by : ByteArray := prog_1_method_29_code
def yX11_by : MethodName := ⟨RX11, "by", "(II)I"⟩
abbrev cX11_registered : ByteArray := prog_1_method_30_code
def yX11_registered : MethodName := ⟨RX11, "registered", "(IZ)J"⟩
abbrev cX11_match : ByteArray := prog_1_method_31_code
def yX11_match : MethodName := ⟨RX11, "match", "()I"⟩
abbrev cX11_matchDays : ByteArray := prog_1_method_32_code
def yX11_matchDays : MethodName := ⟨RX11, "matchDays", "()I"⟩
abbrev cX11_matchOf : ByteArray := prog_1_method_33_code
def yX11_matchOf : MethodName := ⟨RX11, "matchOf", "(I)I"⟩
abbrev cX11_meet : ByteArray := prog_1_method_34_code
def yX11_meet : MethodName := ⟨RX11, "meet", "(IIII)I"⟩
abbrev cX11_fits : ByteArray := prog_1_method_35_code
def yX11_fits : MethodName := ⟨RX11, "fits", "()I"⟩
abbrev cX11_reach : ByteArray := prog_1_method_36_code
def yX11_reach : MethodName := ⟨RX11, "reach", "(II)I"⟩
abbrev cX11_pier : ByteArray := prog_1_method_37_code
def yX11_pier : MethodName := ⟨RX11, "pier", "(I)I"⟩
abbrev cX11_watch : ByteArray := prog_1_method_38_code
def yX11_watch : MethodName := ⟨RX11, "watch", "(II)I"⟩
abbrev cX11_round : ByteArray := prog_1_method_39_code
def yX11_round : MethodName := ⟨RX11, "round", "(I)I"⟩
abbrev cX11_roundAt : ByteArray := prog_1_method_40_code
def yX11_roundAt : MethodName := ⟨RX11, "roundAt", "(II)I"⟩
abbrev cX11_decade : ByteArray := prog_1_method_41_code
def yX11_decade : MethodName := ⟨RX11, "decade", "(II)I"⟩
abbrev cX11_send : ByteArray := prog_1_method_42_code
def yX11_send : MethodName := ⟨RX11, "send", "(II)I"⟩
abbrev cX11_tune : ByteArray := prog_1_method_43_code
def yX11_tune : MethodName := ⟨RX11, "tune", "(III)Z"⟩
abbrev cX11_years : ByteArray := prog_1_method_44_code
def yX11_years : MethodName := ⟨RX11, "years", "(I)I"⟩
abbrev cX11_close : ByteArray := prog_1_method_45_code
def yX11_close : MethodName := ⟨RX11, "close", "(IZ)Z"⟩
abbrev cX11_undo : ByteArray := prog_1_method_46_code
def yX11_undo : MethodName := ⟨RX11, "undo", "()Z"⟩
abbrev cX11_image : ByteArray := prog_1_method_47_code
def yX11_image : MethodName := ⟨RX11, "image", "()I"⟩
abbrev cX11_back : ByteArray := prog_1_method_48_code
def yX11_back : MethodName := ⟨RX11, "back", "(I)Z"⟩
abbrev cX11_led : ByteArray := prog_1_method_49_code
def yX11_led : MethodName := ⟨RX11, "led", "(I)I"⟩
abbrev cX11_size : ByteArray := prog_1_method_50_code
def yX11_size : MethodName := ⟨RX11, "size", "(I)I"⟩
abbrev cX11_trouble : ByteArray := prog_1_method_51_code
def yX11_trouble : MethodName := ⟨RX11, "trouble", "()I"⟩
abbrev cX11_granted : ByteArray := prog_1_method_52_code
def yX11_granted : MethodName := ⟨RX11, "granted", "(I)I"⟩
abbrev cX11_refused : ByteArray := prog_1_method_53_code
def yX11_refused : MethodName := ⟨RX11, "refused", "(I)I"⟩
abbrev cX11_hasGranted : ByteArray := prog_1_method_54_code
def yX11_hasGranted : MethodName := ⟨RX11, "hasGranted", "()Z"⟩
abbrev cX11_hasRefused : ByteArray := prog_1_method_55_code
def yX11_hasRefused : MethodName := ⟨RX11, "hasRefused", "(I)Z"⟩
abbrev cX11_hasPost : ByteArray := prog_1_method_56_code
def yX11_hasPost : MethodName := ⟨RX11, "hasPost", "()Z"⟩
abbrev cX11_isIsland : ByteArray := prog_1_method_57_code
def yX11_isIsland : MethodName := ⟨RX11, "isIsland", "(I)Z"⟩
abbrev cX11_areTwoIslands : ByteArray := prog_1_method_58_code
def yX11_areTwoIslands : MethodName := ⟨RX11, "areTwoIslands", "(II)Z"⟩
abbrev cX11_isWay : ByteArray := prog_1_method_59_code
def yX11_isWay : MethodName := ⟨RX11, "isWay", "(I)Z"⟩
abbrev cX11_isWhale : ByteArray := prog_1_method_60_code
def yX11_isWhale : MethodName := ⟨RX11, "isWhale", "(I)Z"⟩
abbrev cX11_isBox : ByteArray := prog_1_method_61_code
def yX11_isBox : MethodName := ⟨RX11, "isBox", "(I)Z"⟩
abbrev cX11_isNoteOfBox : ByteArray := prog_1_method_62_code
def yX11_isNoteOfBox : MethodName := ⟨RX11, "isNoteOfBox", "(II)Z"⟩
abbrev cX11_isWithin : ByteArray := prog_1_method_63_code
def yX11_isWithin : MethodName := ⟨RX11, "isWithin", "(II)Z"⟩
abbrev cX11_refusalOfNewSong : ByteArray := prog_1_method_64_code
def yX11_refusalOfNewSong : MethodName := ⟨RX11, "refusalOfNewSong", "(II)I"⟩
abbrev cX11_appendBytes : ByteArray := prog_1_method_65_code
def yX11_appendBytes : MethodName := ⟨RX11, "appendBytes", "(I)V"⟩
abbrev cX11_takeDraft : ByteArray := prog_1_method_66_code
def yX11_takeDraft : MethodName := ⟨RX11, "takeDraft", "()V"⟩
abbrev cX11_keepForUndo : ByteArray := prog_1_method_67_code
def yX11_keepForUndo : MethodName := ⟨RX11, "keepForUndo", "()V"⟩
abbrev cX11_hearerIn : ByteArray := prog_1_method_68_code
def yX11_hearerIn : MethodName := ⟨RX11, "hearerIn", "(II)I"⟩
abbrev cX11_sentPart : ByteArray := prog_1_method_69_code
def yX11_sentPart : MethodName := ⟨RX11, "sentPart", "(II)I"⟩
abbrev cX11_heardWithSlips : ByteArray := prog_1_method_70_code
def yX11_heardWithSlips : MethodName := ⟨RX11, "heardWithSlips", "(I)I"⟩
abbrev cX11_solveMatch : ByteArray := prog_1_method_71_code
def yX11_solveMatch : MethodName := ⟨RX11, "solveMatch", "()V"⟩
abbrev cX11_commonDivisor : ByteArray := prog_1_method_72_code
def yX11_commonDivisor : MethodName := ⟨RX11, "commonDivisor", "(II)I"⟩
abbrev cX11_noteAt : ByteArray := prog_1_method_73_code
def yX11_noteAt : MethodName := ⟨RX11, "noteAt", "(III)I"⟩
abbrev cX11_withNote : ByteArray := prog_1_method_74_code
def yX11_withNote : MethodName := ⟨RX11, "withNote", "(IIII)I"⟩
abbrev cX11_unlikeNotes : ByteArray := prog_1_method_75_code
def yX11_unlikeNotes : MethodName := ⟨RX11, "unlikeNotes", "(II)I"⟩
def RX12 : String := "WhalePostModel"
def TX12 : u_T := fun k => match k with
  | 0 => ("WhalePostModel", "thrown", "I", false)
  | 1 => ("WhalePostModel", "tape", "[I", true)
  | 2 => ("WhalePostModel", "taped", "I", false)
  | 3 => ("WhalePostModel", "size", "I", false)
  | 4 => ("WhalePostModel", "at", "I", false)
  | 5 => ("WhalePostModel", "end", "I", false)
  | 6 => ("WhalePostModel", "token", "I", false)
  | 7 => ("WhalePostModel", "whole", "I", false)
  | 8 => ("WhalePostModel", "nameSize", "I", false)
  | 9 => ("WhalePostModel", "fault", "I", false)
  | 10 => ("WhalePostModel", "place", "I", false)
  | 11 => ("WhalePostModel", "trouble", "I", false)
  | 12 => ("WhalePostModel", "letters", "[I", true)
  | 13 => ("WhalePostModel", "failed", "Z", false)
  | 14 => ("WhalePostModel", "hasPost", "Z", false)
  | 15 => ("WhalePostModel", "\x72", "[I", true)
  | 16 => ("WhalePostModel", "fresh", "[I", true)
  | 17 => ("WhalePostModel", "st", "[I", true)
  | 18 => ("WhalePostModel", "undone", "[I", true)
  | 19 => ("WhalePostModel", "kept", "[I", true)
  | 20 => ("WhalePostModel", "undos", "I", false)
  | 21 => ("WhalePostModel", "images", "I", false)
  | 22 => ("WhalePostModel", "taken", "[I", true)
  | 23 => ("WhalePostModel", "takenMany", "I", false)
  | 24 => ("WhalePostModel", "days", "[I", true)
  | 25 => ("WhalePostModel", "done", "[I", true)
  | 26 => ("WhalePostModel", "takes", "I", false)
  | 27 => ("WhalePostModel", "arrives", "I", false)
  | 28 => ("WhalePostModel", "tried", "[I", true)
  | 29 => ("WhalePostModel", "bestFor", "[I", true)
  | 30 => ("WhalePostModel", "bringDays", "[I", true)
  | 31 => ("WhalePostModel", "bestMany", "I", false)
  | 32 => ("WhalePostModel", "bestSum", "I", false)
  | 33 => ("WhalePostModel", "seenAt", "I", false)
  | 34 => ("WhalePostModel", "seenDay", "I", false)
  | 35 => ("WhalePostModel", "far", "[I", true)
  | 36 => ("WhalePostModel", "order", "[I", true)
  | 37 => ("WhalePostModel", "bestOrder", "[I", true)
  | _ => ("WhalePostModel", "bestRound", "I", false)
def tyX12 : Nat → FieldType := fun k => match k with
  | 0 => .int
  | 1 => .array .int
  | 2 => .int
  | 3 => .int
  | 4 => .int
  | 5 => .int
  | 6 => .int
  | 7 => .int
  | 8 => .int
  | 9 => .int
  | 10 => .int
  | 11 => .int
  | 12 => .array .int
  | 13 => .boolean
  | 14 => .boolean
  | 15 => .array .int
  | 16 => .array .int
  | 17 => .array .int
  | 18 => .array .int
  | 19 => .array .int
  | 20 => .int
  | 21 => .int
  | 22 => .array .int
  | 23 => .int
  | 24 => .array .int
  | 25 => .array .int
  | 26 => .int
  | 27 => .int
  | 28 => .array .int
  | 29 => .array .int
  | 30 => .array .int
  | 31 => .int
  | 32 => .int
  | 33 => .int
  | 34 => .int
  | 35 => .array .int
  | 36 => .array .int
  | 37 => .array .int
  | _ => .int
theorem nmX12 : ∀ a, a < 39 → ∀ b, b < 39 → a ≠ b → (TX12 a).2.1 ≠ (TX12 b).2.1 := by decide +kernel
theorem tyX12_ok : ∀ k, k < 39 → parseFieldDescriptor (TX12 k).2.2.1 = some (tyX12 k) := by decide +kernel
abbrev cX12_init : ByteArray := prog_14_method_1_code
def yX12_init : MethodName := ⟨RX12, "<init>", "()V"⟩
abbrev cX12_thrown : ByteArray := prog_14_method_2_code
def yX12_thrown : MethodName := ⟨RX12, "thrown", "()I"⟩
abbrev cX12_good : ByteArray := prog_14_method_3_code
def yX12_good : MethodName := ⟨RX12, "good", "()V"⟩
abbrev cX12_no : ByteArray := prog_14_method_4_code
def yX12_no : MethodName := ⟨RX12, "no", "(I)I"⟩
abbrev cX12_isNot : ByteArray := prog_14_method_5_code
def yX12_isNot : MethodName := ⟨RX12, "isNot", "(I)Z"⟩
abbrev cX12_in : ByteArray := prog_14_method_6_code
def yX12_in : MethodName := ⟨RX12, "in", "(III)Z"⟩
abbrev cX12_hasBit : ByteArray := prog_14_method_7_code
def yX12_hasBit : MethodName := ⟨RX12, "hasBit", "(II)Z"⟩
abbrev cX12_ones : ByteArray := prog_14_method_8_code
def yX12_ones : MethodName := ⟨RX12, "ones", "(I)I"⟩
abbrev cX12_copy : ByteArray := prog_14_method_9_code
def yX12_copy : MethodName := ⟨RX12, "copy", "([II[III)V"⟩
abbrev cX12_later : ByteArray := prog_14_method_10_code
def yX12_later : MethodName := ⟨RX12, "later", "(II)I"⟩
abbrev cX12_feed : ByteArray := prog_14_method_11_code
def yX12_feed : MethodName := ⟨RX12, "feed", "(IIIII)I"⟩
abbrev cX12_look : ByteArray := prog_14_method_12_code
def yX12_look : MethodName := ⟨RX12, "look", "(I)I"⟩
abbrev cX12_isSmall : ByteArray := prog_14_method_13_code
def yX12_isSmall : MethodName := ⟨RX12, "isSmall", "(I)Z"⟩
abbrev cX12_isDigit : ByteArray := prog_14_method_14_code
def yX12_isDigit : MethodName := ⟨RX12, "isDigit", "(I)Z"⟩
abbrev cX12_next : ByteArray := prog_14_method_15_code
def yX12_next : MethodName := ⟨RX12, "next", "()V"⟩
abbrev cX12_wrong : ByteArray := prog_14_method_16_code
def yX12_wrong : MethodName := ⟨RX12, "wrong", "(II)V"⟩
abbrev cX12_isWord : ByteArray := prog_14_method_17_code
def yX12_isWord : MethodName := ⟨RX12, "isWord", "(Ljava/lang/String;)Z"⟩
abbrev cX12_takesWord : ByteArray := prog_14_method_18_code
def yX12_takesWord : MethodName := ⟨RX12, "takesWord", "(Ljava/lang/String;)Z"⟩
abbrev cX12_must : ByteArray := prog_14_method_19_code
def yX12_must : MethodName := ⟨RX12, "must", "(Ljava/lang/String;)V"⟩
abbrev cX12_mustName : ByteArray := prog_14_method_20_code
def yX12_mustName : MethodName := ⟨RX12, "mustName", "()V"⟩
abbrev cX12_find : ByteArray := prog_14_method_21_code
def yX12_find : MethodName := ⟨RX12, "find", "()I"⟩
abbrev cX12_newName : ByteArray := prog_14_method_22_code
def yX12_newName : MethodName := ⟨RX12, "newName", "(I)V"⟩
abbrev cX12_named : ByteArray := prog_14_method_23_code
def yX12_named : MethodName := ⟨RX12, "named", "(II)I"⟩
abbrev cX12_islandPassed : ByteArray := prog_14_method_24_code
def yX12_islandPassed : MethodName := ⟨RX12, "islandPassed", "()I"⟩
abbrev cX12_islandBehind : ByteArray := prog_14_method_25_code
def yX12_islandBehind : MethodName := ⟨RX12, "islandBehind", "(Ljava/lang/String;)I"⟩
abbrev cX12_number : ByteArray := prog_14_method_26_code
def yX12_number : MethodName := ⟨RX12, "number", "(II)I"⟩
abbrev cX12_after : ByteArray := prog_14_method_27_code
def yX12_after : MethodName := ⟨RX12, "after", "(Ljava/lang/String;II)I"⟩
abbrev cX12_post : ByteArray := prog_14_method_28_code
def yX12_post : MethodName := ⟨RX12, "post", "(I)I"⟩
abbrev cX12_begins : ByteArray := prog_14_method_29_code
def yX12_begins : MethodName := ⟨RX12, "begins", "(Ljava/lang/String;Z)Z"⟩
abbrev cX12_readLine : ByteArray := prog_14_method_30_code
def yX12_readLine : MethodName := ⟨RX12, "readLine", "()V"⟩
abbrev cX12_postLine : ByteArray := prog_14_method_31_code
def yX12_postLine : MethodName := ⟨RX12, "postLine", "()V"⟩
abbrev cX12_islandLine : ByteArray := prog_14_method_32_code
def yX12_islandLine : MethodName := ⟨RX12, "islandLine", "()V"⟩
abbrev cX12_isSong : ByteArray := prog_14_method_33_code
def yX12_isSong : MethodName := ⟨RX12, "isSong", "(I)Z"⟩
abbrev cX12_wayLine : ByteArray := prog_14_method_34_code
def yX12_wayLine : MethodName := ⟨RX12, "wayLine", "()V"⟩
abbrev cX12_joins : ByteArray := prog_14_method_35_code
def yX12_joins : MethodName := ⟨RX12, "joins", "([IIII)Z"⟩
abbrev cX12_whaleLine : ByteArray := prog_14_method_36_code
def yX12_whaleLine : MethodName := ⟨RX12, "whaleLine", "()V"⟩
abbrev cX12_boxLine : ByteArray := prog_14_method_37_code
def yX12_boxLine : MethodName := ⟨RX12, "boxLine", "()V"⟩
abbrev cX12_spoutLine : ByteArray := prog_14_method_38_code
def yX12_spoutLine : MethodName := ⟨RX12, "spoutLine", "()V"⟩
abbrev cX12_fault : ByteArray := prog_14_method_39_code
def yX12_fault : MethodName := ⟨RX12, "fault", "()I"⟩
abbrev cX12_where : ByteArray := prog_14_method_40_code
def yX12_where : MethodName := ⟨RX12, "where", "()I"⟩
abbrev cX12_isIsland : ByteArray := prog_14_method_41_code
def yX12_isIsland : MethodName := ⟨RX12, "isIsland", "(I)Z"⟩
abbrev cX12_isWhale : ByteArray := prog_14_method_42_code
def yX12_isWhale : MethodName := ⟨RX12, "isWhale", "(I)Z"⟩
abbrev cX12_isBox : ByteArray := prog_14_method_43_code
def yX12_isBox : MethodName := ⟨RX12, "isBox", "(I)Z"⟩
abbrev cX12_ofWhale : ByteArray := prog_14_method_44_code
def yX12_ofWhale : MethodName := ⟨RX12, "ofWhale", "(II)I"⟩
abbrev cX12_ofBox : ByteArray := prog_14_method_45_code
def yX12_ofBox : MethodName := ⟨RX12, "ofBox", "(II)I"⟩
abbrev cX12_songLong : ByteArray := prog_14_method_46_code
def yX12_songLong : MethodName := ⟨RX12, "songLong", "(I)I"⟩
abbrev cX12_boxLong : ByteArray := prog_14_method_47_code
def yX12_boxLong : MethodName := ⟨RX12, "boxLong", "(I)I"⟩
abbrev cX12_noteIn : ByteArray := prog_14_method_48_code
def yX12_noteIn : MethodName := ⟨RX12, "noteIn", "(III)I"⟩
abbrev cX12_whale : ByteArray := prog_14_method_49_code
def yX12_whale : MethodName := ⟨RX12, "whale", "(II)I"⟩
abbrev cX12_box : ByteArray := prog_14_method_50_code
def yX12_box : MethodName := ⟨RX12, "box", "(II)I"⟩
abbrev cX12_length : ByteArray := prog_14_method_51_code
def yX12_length : MethodName := ⟨RX12, "length", "(I)I"⟩
abbrev cX12_note : ByteArray := prog_14_method_52_code
def yX12_note : MethodName := ⟨RX12, "note", "(II)I"⟩
abbrev cX12_sung : ByteArray := prog_14_method_53_code
def yX12_sung : MethodName := ⟨RX12, "sung", "(II)I"⟩
abbrev cX12_unlike : ByteArray := prog_14_method_54_code
def yX12_unlike : MethodName := ⟨RX12, "unlike", "(IIIII)I"⟩
abbrev cX12_hearsIn : ByteArray := prog_14_method_55_code
def yX12_hearsIn : MethodName := ⟨RX12, "hearsIn", "(IIII)I"⟩
abbrev cX12_heardNow : ByteArray := prog_14_method_56_code
def yX12_heardNow : MethodName := ⟨RX12, "heardNow", "(I)I"⟩
abbrev cX12_heard : ByteArray := prog_14_method_57_code
def yX12_heard : MethodName := ⟨RX12, "heard", "(I)I"⟩
abbrev cX12_isClosed : ByteArray := prog_14_method_58_code
def yX12_isClosed : MethodName := ⟨RX12, "isClosed", "(I)Z"⟩
abbrev cX12_wayOf : ByteArray := prog_14_method_59_code
def yX12_wayOf : MethodName := ⟨RX12, "wayOf", "(II)I"⟩
abbrev cX12_way : ByteArray := prog_14_method_60_code
def yX12_way : MethodName := ⟨RX12, "way", "(II)I"⟩
abbrev cX12_nearOf : ByteArray := prog_14_method_61_code
def yX12_nearOf : MethodName := ⟨RX12, "nearOf", "(IZ)I"⟩
abbrev cX12_near : ByteArray := prog_14_method_62_code
def yX12_near : MethodName := ⟨RX12, "near", "(I)I"⟩
abbrev cX12_asNear : ByteArray := prog_14_method_63_code
def yX12_asNear : MethodName := ⟨RX12, "asNear", "(I)I"⟩
abbrev cX12_sent : ByteArray := prog_14_method_64_code
def yX12_sent : MethodName := ⟨RX12, "sent", "(I)I"⟩
abbrev cX12_apartOf : ByteArray := prog_14_method_65_code
def yX12_apartOf : MethodName := ⟨RX12, "apartOf", "(II)I"⟩
abbrev cX12_apart : ByteArray := prog_14_method_66_code
def yX12_apart : MethodName := ⟨RX12, "apart", "(II)I"⟩
abbrev cX12_bear : ByteArray := prog_14_method_67_code
def yX12_bear : MethodName := ⟨RX12, "bear", "()I"⟩
abbrev cX12_mixed : ByteArray := prog_14_method_68_code
def yX12_mixed : MethodName := ⟨RX12, "mixed", "()I"⟩
abbrev cX12_power : ByteArray := prog_14_method_69_code
def yX12_power : MethodName := ⟨RX12, "power", "(I)I"⟩
abbrev cX12_digitsApart : ByteArray := prog_14_method_70_code
def yX12_digitsApart : MethodName := ⟨RX12, "digitsApart", "(III)I"⟩
abbrev cX12_newSongs : ByteArray := prog_14_method_71_code
def yX12_newSongs : MethodName := ⟨RX12, "newSongs", "(IIZ)I"⟩
abbrev cX12_songWhy : ByteArray := prog_14_method_72_code
def yX12_songWhy : MethodName := ⟨RX12, "songWhy", "(II)I"⟩
abbrev cX12_fresh : ByteArray := prog_14_method_73_code
def yX12_fresh : MethodName := ⟨RX12, "fresh", "(II)I"⟩
abbrev cX12_byTurns : ByteArray := prog_14_method_74_code
def yX12_byTurns : MethodName := ⟨RX12, "byTurns", "(II)I"⟩
abbrev cX12_heardIn : ByteArray := prog_14_method_75_code
def yX12_heardIn : MethodName := ⟨RX12, "heardIn", "(II)I"⟩
abbrev cX12_hearsItself : ByteArray := prog_14_method_76_code
def yX12_hearsItself : MethodName := ⟨RX12, "hearsItself", "(II)Z"⟩
abbrev cX12_strange : ByteArray := prog_14_method_77_code
def yX12_strange : MethodName := ⟨RX12, "strange", "(I)I"⟩
abbrev cX12_dayBy : ByteArray := prog_14_method_78_code
def yX12_dayBy : MethodName := ⟨RX12, "dayBy", "(III)I"⟩
abbrev cX12_setsOut : ByteArray := prog_14_method_79_code
def yX12_setsOut : MethodName := ⟨RX12, "setsOut", "(III)I"⟩
abbrev cX12_seasonOf : ByteArray := prog_14_method_80_code
def yX12_seasonOf : MethodName := ⟨RX12, "seasonOf", "(I)I"⟩
abbrev cX12_season : ByteArray := prog_14_method_81_code
def yX12_season : MethodName := ⟨RX12, "season", "(I)I"⟩
abbrev cX12_sets : ByteArray := prog_14_method_82_code
def yX12_sets : MethodName := ⟨RX12, "sets", "(III)I"⟩
abbrev cX12_layDays : ByteArray := prog_14_method_83_code
def yX12_layDays : MethodName := ⟨RX12, "layDays", "(III)V"⟩
abbrev cX12_goesBy : ByteArray := prog_14_method_84_code
def yX12_goesBy : MethodName := ⟨RX12, "goesBy", "(III)V"⟩
abbrev cX12_arrivalOf : ByteArray := prog_14_method_85_code
def yX12_arrivalOf : MethodName := ⟨RX12, "arrivalOf", "(IIII)I"⟩
abbrev cX12_arrival : ByteArray := prog_14_method_86_code
def yX12_arrival : MethodName := ⟨RX12, "arrival", "(IIII)I"⟩
abbrev cX12_lays : ByteArray := prog_14_method_87_code
def yX12_lays : MethodName := ⟨RX12, "lays", "(II)Z"⟩
abbrev cX12_bringsOf : ByteArray := prog_14_method_88_code
def yX12_bringsOf : MethodName := ⟨RX12, "bringsOf", "(II)I"⟩
abbrev cX12_brings : ByteArray := prog_14_method_89_code
def yX12_brings : MethodName := ⟨RX12, "brings", "(II)I"⟩
abbrev cX12_soonest : ByteArray := prog_14_method_90_code
def yX12_soonest : MethodName := ⟨RX12, "soonest", "(I)I"⟩
abbrev cX12_surestBut : ByteArray := prog_14_method_91_code
def yX12_surestBut : MethodName := ⟨RX12, "surestBut", "(II)I"⟩
abbrev cX12_surest : ByteArray := prog_14_method_92_code
def yX12_surest : MethodName := ⟨RX12, "surest", "(I)I"⟩
abbrev cX12_by : ByteArray := prog_14_method_93_code
def yX12_by : MethodName := ⟨RX12, "by", "(II)I"⟩
abbrev cX12_lowest : ByteArray := prog_14_method_94_code
def yX12_lowest : MethodName := ⟨RX12, "lowest", "(JJZ)J"⟩
abbrev cX12_registered : ByteArray := prog_14_method_95_code
def yX12_registered : MethodName := ⟨RX12, "registered", "(IZ)J"⟩
abbrev cX12_tryMatch : ByteArray := prog_14_method_96_code
def yX12_tryMatch : MethodName := ⟨RX12, "tryMatch", "(IIII)V"⟩
abbrev cX12_seekMatch : ByteArray := prog_14_method_97_code
def yX12_seekMatch : MethodName := ⟨RX12, "seekMatch", "()V"⟩
abbrev cX12_match : ByteArray := prog_14_method_98_code
def yX12_match : MethodName := ⟨RX12, "match", "()I"⟩
abbrev cX12_matchDays : ByteArray := prog_14_method_99_code
def yX12_matchDays : MethodName := ⟨RX12, "matchDays", "()I"⟩
abbrev cX12_matchOf : ByteArray := prog_14_method_100_code
def yX12_matchOf : MethodName := ⟨RX12, "matchOf", "(I)I"⟩
abbrev cX12_meet : ByteArray := prog_14_method_101_code
def yX12_meet : MethodName := ⟨RX12, "meet", "(IIII)I"⟩
abbrev cX12_fitsAll : ByteArray := prog_14_method_102_code
def yX12_fitsAll : MethodName := ⟨RX12, "fitsAll", "(I)Z"⟩
abbrev cX12_fits : ByteArray := prog_14_method_103_code
def yX12_fits : MethodName := ⟨RX12, "fits", "()I"⟩
abbrev cX12_reachOf : ByteArray := prog_14_method_104_code
def yX12_reachOf : MethodName := ⟨RX12, "reachOf", "(II)I"⟩
abbrev cX12_reach : ByteArray := prog_14_method_105_code
def yX12_reach : MethodName := ⟨RX12, "reach", "(II)I"⟩
abbrev cX12_pier : ByteArray := prog_14_method_106_code
def yX12_pier : MethodName := ⟨RX12, "pier", "(I)I"⟩
abbrev cX12_doLead : ByteArray := prog_14_method_107_code
def yX12_doLead : MethodName := ⟨RX12, "doLead", "(III)Z"⟩
abbrev cX12_watch : ByteArray := prog_14_method_108_code
def yX12_watch : MethodName := ⟨RX12, "watch", "(II)I"⟩
abbrev cX12_layFar : ByteArray := prog_14_method_109_code
def yX12_layFar : MethodName := ⟨RX12, "layFar", "()V"⟩
abbrev cX12_tryRound : ByteArray := prog_14_method_110_code
def yX12_tryRound : MethodName := ⟨RX12, "tryRound", "(III)V"⟩
abbrev cX12_seekRound : ByteArray := prog_14_method_111_code
def yX12_seekRound : MethodName := ⟨RX12, "seekRound", "(I)I"⟩
abbrev cX12_round : ByteArray := prog_14_method_112_code
def yX12_round : MethodName := ⟨RX12, "round", "(I)I"⟩
abbrev cX12_roundAt : ByteArray := prog_14_method_113_code
def yX12_roundAt : MethodName := ⟨RX12, "roundAt", "(II)I"⟩
abbrev cX12_decade : ByteArray := prog_14_method_114_code
def yX12_decade : MethodName := ⟨RX12, "decade", "(II)I"⟩
abbrev cX12_note1 : ByteArray := prog_14_method_115_code
def yX12_note1 : MethodName := ⟨RX12, "note1", "()V"⟩
abbrev cX12_send : ByteArray := prog_14_method_116_code
def yX12_send : MethodName := ⟨RX12, "send", "(II)I"⟩
abbrev cX12_tune : ByteArray := prog_14_method_117_code
def yX12_tune : MethodName := ⟨RX12, "tune", "(III)Z"⟩
abbrev cX12_years : ByteArray := prog_14_method_118_code
def yX12_years : MethodName := ⟨RX12, "years", "(I)I"⟩
abbrev cX12_close : ByteArray := prog_14_method_119_code
def yX12_close : MethodName := ⟨RX12, "close", "(IZ)Z"⟩
abbrev cX12_undo : ByteArray := prog_14_method_120_code
def yX12_undo : MethodName := ⟨RX12, "undo", "()Z"⟩
abbrev cX12_image : ByteArray := prog_14_method_121_code
def yX12_image : MethodName := ⟨RX12, "image", "()I"⟩
abbrev cX12_back : ByteArray := prog_14_method_122_code
def yX12_back : MethodName := ⟨RX12, "back", "(I)Z"⟩
abbrev cX12_led : ByteArray := prog_14_method_123_code
def yX12_led : MethodName := ⟨RX12, "led", "(I)I"⟩
abbrev cX12_size : ByteArray := prog_14_method_124_code
def yX12_size : MethodName := ⟨RX12, "size", "(I)I"⟩
abbrev cX12_trouble : ByteArray := prog_14_method_125_code
def yX12_trouble : MethodName := ⟨RX12, "trouble", "()I"⟩
def RJ6 : String := "java/lang/Integer"
def TJ6 : u_T := fun k => match k with
  | _ => ("", "", "", false)
def tyJ6 : Nat → FieldType := fun k => match k with
  | _ => .int
theorem nmJ6 : ∀ a, a < 0 → ∀ b, b < 0 → a ≠ b → (TJ6 a).2.1 ≠ (TJ6 b).2.1 := by decide +kernel
theorem tyJ6_ok : ∀ k, k < 0 → parseFieldDescriptor (TJ6 k).2.2.1 = some (tyJ6 k) := by decide +kernel
abbrev cJ6_bitCount_0f7a4 : ByteArray := prog_19_method_49_code
def yJ6_bitCount_0f7a4 : MethodName := ⟨RJ6, "bitCount", "(I)I"⟩
def RJ0 : String := "java/lang/String"
def TJ0 : u_T := fun k => match k with
  | _ => ("", "", "", false)
def tyJ0 : Nat → FieldType := fun k => match k with
  | _ => .int
theorem nmJ0 : ∀ a, a < 0 → ∀ b, b < 0 → a ≠ b → (TJ0 a).2.1 ≠ (TJ0 b).2.1 := by decide +kernel
theorem tyJ0_ok : ∀ k, k < 0 → parseFieldDescriptor (TJ0 k).2.2.1 = some (tyJ0 k) := by decide +kernel
abbrev cJ0_length_8abf5 : ByteArray := prog_22_method_54_code
def yJ0_length_8abf5 : MethodName := ⟨RJ0, "length", "()I"⟩
abbrev cJ0_charAt_5068e : ByteArray := prog_22_method_56_code
def yJ0_charAt_5068e : MethodName := ⟨RJ0, "charAt", "(I)C"⟩
abbrev cJ0_coder_7d493 : ByteArray := prog_22_method_152_code
def yJ0_coder_7d493 : MethodName := ⟨RJ0, "coder", "()B"⟩
abbrev cJ0_isLatin1_aae02 : ByteArray := prog_22_method_154_code
def yJ0_isLatin1_aae02 : MethodName := ⟨RJ0, "isLatin1", "()Z"⟩
abbrev cJ0_checkIndex_df160 : ByteArray := prog_22_method_155_code
def yJ0_checkIndex_df160 : MethodName := ⟨RJ0, "checkIndex", "(II)V"⟩
def RJ1 : String := "java/lang/StringLatin1"
def TJ1 : u_T := fun k => match k with
  | _ => ("", "", "", false)
def tyJ1 : Nat → FieldType := fun k => match k with
  | _ => .int
theorem nmJ1 : ∀ a, a < 0 → ∀ b, b < 0 → a ≠ b → (TJ1 a).2.1 ≠ (TJ1 b).2.1 := by decide +kernel
theorem tyJ1_ok : ∀ k, k < 0 → parseFieldDescriptor (TJ1 k).2.2.1 = some (tyJ1 k) := by decide +kernel
abbrev cJ1_charAt_3b067 : ByteArray := prog_23_method_2_code
def yJ1_charAt_3b067 : MethodName := ⟨RJ1, "charAt", "([BI)C"⟩
def RJ7 : String := "java/util/Arrays"
def TJ7 : u_T := fun k => match k with
  | _ => ("", "", "", false)
def tyJ7 : Nat → FieldType := fun k => match k with
  | _ => .int
theorem nmJ7 : ∀ a, a < 0 → ∀ b, b < 0 → a ≠ b → (TJ7 a).2.1 ≠ (TJ7 b).2.1 := by decide +kernel
theorem tyJ7_ok : ∀ k, k < 0 → parseFieldDescriptor (TJ7 k).2.2.1 = some (tyJ7 k) := by decide +kernel
abbrev cJ7_fill_53178 : ByteArray := prog_29_method_103_code
def yJ7_fill_53178 : MethodName := ⟨RJ7, "fill", "([II)V"⟩
def RJ3 : String := "jdk/internal/util/Preconditions"
def TJ3 : u_T := fun k => match k with
  | _ => ("", "", "", false)
def tyJ3 : Nat → FieldType := fun k => match k with
  | _ => .int
theorem nmJ3 : ∀ a, a < 0 → ∀ b, b < 0 → a ≠ b → (TJ3 a).2.1 ≠ (TJ3 b).2.1 := by decide +kernel
theorem tyJ3_ok : ∀ k, k < 0 → parseFieldDescriptor (TJ3 k).2.2.1 = some (tyJ3 k) := by decide +kernel
abbrev cJ3_checkIndex_8e157 : ByteArray := prog_31_method_11_code
def yJ3_checkIndex_8e157 : MethodName := ⟨RJ3, "checkIndex", "(IILjava/util/function/BiFunction;)I"⟩
def RL : String := "WhalePostLaw"
abbrev cL_led : ByteArray := method_3_code
def yL_led : MethodName := ⟨RL, "led", "(LWhalePost;I[J)I"⟩
abbrev cL_law : ByteArray := code
def yL_law : MethodName := ⟨RL, "law", "([I)Z"⟩
abbrev vwCl : List vw_C := [(RX0, TX0, 4), (RX1, TX1, 5), (RX2, TX2, 7), (RX3, TX3, 4), (RX4, TX4, 15), (RX5, TX5, 13), (RX6, TX6, 7), (RX7, TX7, 6), (RX8, TX8, 3), (RX9, TX9, 4), (RX10, TX10, 4), (RX11, TX11, 16), (RX12, TX12, 39)]
end
section
/-! the small machine's tables, by program out of the printed names -/
abbrev zV : Type := Int32 ⊕ Int64 ⊕ Option Nat
abbrev zM : Type := ByteArray × Nat × Nat × Option FieldType × MethodName × Bool
def zRn (o : Nat) : String := match o with
  | 0 => RX0
  | 1 => RX1
  | 2 => RX2
  | 3 => RX3
  | 4 => RX4
  | 5 => RX5
  | 6 => RX6
  | 7 => RX7
  | 8 => RX8
  | 9 => RX9
  | 10 => RX10
  | 11 => RX11
  | 12 => RX12
  | 13 => RL
  | 14 => RJ0
  | 15 => RJ1
  | 16 => RJ6
  | 17 => RJ7
  | _ => RJ3
def zTT (c : Nat) : u_T := match c with
  | 0 => TX0
  | 1 => TX1
  | 2 => TX2
  | 3 => TX3
  | 4 => TX4
  | 5 => TX5
  | 6 => TX6
  | 7 => TX7
  | 8 => TX8
  | 9 => TX9
  | 10 => TX10
  | 11 => TX11
  | _ => TX12
def zty (c : Nat) : Nat → FieldType := match c with
  | 0 => tyX0
  | 1 => tyX1
  | 2 => tyX2
  | 3 => tyX3
  | 4 => tyX4
  | 5 => tyX5
  | 6 => tyX6
  | 7 => tyX7
  | 8 => tyX8
  | 9 => tyX9
  | 10 => tyX10
  | 11 => tyX11
  | _ => tyX12
/-- the sorts of a class's fields: 0 int, 1 boolean, 3 reference -/
def zft (c : Nat) : List Nat := match c with
  | 0 => [0, 0, 0, 0]
  | 1 => [3, 3, 0, 0, 3]
  | 2 => [0, 0, 3, 3, 3, 3, 3]
  | 3 => [3, 3, 3, 3]
  | 4 => [0, 0, 0, 0, 0, 0, 0, 0, 0, 3, 3, 3, 3, 3, 3]
  | 5 => [3, 0, 0, 0, 0, 0, 3, 3, 3, 3, 0, 0, 0]
  | 6 => [3, 3, 3, 3, 0, 0, 0]
  | 7 => [3, 0, 0, 0, 0, 3]
  | 8 => [0, 0, 0]
  | 9 => [0, 0, 0, 0]
  | 10 => [0, 0, 0, 0]
  | 11 => [3, 0, 0, 3, 3, 3, 3, 3, 3, 3, 3, 3, 0, 0, 3, 0]
  | 12 => [0, 3, 0, 0, 0, 0, 0, 0, 0, 0, 0, 0, 3, 1, 1, 3, 3, 3, 3, 3, 0, 0, 3, 0, 3, 3, 0, 0, 3, 3, 3, 0, 0, 0, 0, 3, 3, 3, 0]
  | _ => []
def zfin (c f : Nat) : Bool := (zTT c f).2.2.2
def zrc (k : Nat) : Nat := match k with
  | 16 => 0
  | 17 => 2
  | 18 => 8
  | 19 => 9
  | 20 => 10
  | _ => 99
def zak (c : Nat) : Nat := match c with
  | 0 => 16
  | 2 => 17
  | 8 => 18
  | 9 => 19
  | 10 => 20
  | _ => 0
abbrev mX0_init : zM := (cX0_init, 0, 1, none, yX0_init, true)
abbrev mX1_init : zM := (cX1_init, 1, 1, none, yX1_init, true)
abbrev mX1_solve : zM := (cX1_solve, 1, 7, none, yX1_solve, false)
abbrev mX1_worth : zM := (cX1_worth, 1, 5, (some .int), yX1_worth, false)
abbrev mX1_choose : zM := (cX1_choose, 1, 6, none, yX1_choose, false)
abbrev mX1_firstBest : zM := (cX1_firstBest, 1, 5, (some .int), yX1_firstBest, false)
abbrev mX2_init : zM := (cX2_init, 2, 1, none, yX2_init, true)
abbrev mX2_begin : zM := (cX2_begin, 2, 3, none, yX2_begin, false)
abbrev mX2_copyFrom : zM := (cX2_copyFrom, 2, 2, none, yX2_copyFrom, false)
abbrev mX2_isClosed : zM := (cX2_isClosed, 2, 2, (some .boolean), yX2_isClosed, false)
abbrev mX2_isSent : zM := (cX2_isSent, 2, 2, (some .boolean), yX2_isSent, false)
abbrev mX3_init : zM := (cX3_init, 3, 2, none, yX3_init, true)
abbrev mX3_fewestToWatch : zM := (cX3_fewestToWatch, 3, 9, (some .int), yX3_fewestToWatch, false)
abbrev mX3_waysOutOf : zM := (cX3_waysOutOf, 3, 4, (some .int), yX3_waysOutOf, false)
abbrev mX3_findRound : zM := (cX3_findRound, 3, 6, (some .int), yX3_findRound, false)
abbrev mX3_findShortest : zM := (cX3_findShortest, 3, 6, none, yX3_findShortest, false)
abbrev mX3_findRests : zM := (cX3_findRests, 3, 6, none, yX3_findRests, false)
abbrev mX3_daysOver : zM := (cX3_daysOver, 3, 4, (some .int), yX3_daysOver, false)
abbrev mX3_nextOf : zM := (cX3_nextOf, 3, 4, (some .int), yX3_nextOf, false)
abbrev mX4_init : zM := (cX4_init, 4, 2, none, yX4_init, true)
abbrev mX4_clear : zM := (cX4_clear, 4, 1, none, yX4_clear, false)
abbrev mX4_boxLength : zM := (cX4_boxLength, 4, 2, (some .int), yX4_boxLength, false)
abbrev mX4_wayBetween : zM := (cX4_wayBetween, 4, 5, (some .int), yX4_wayBetween, false)
abbrev mX4_hasSong : zM := (cX4_hasSong, 4, 4, (some .boolean), yX4_hasSong, false)
abbrev mX4_lastSpoutOf : zM := (cX4_lastSpoutOf, 4, 3, (some .int), yX4_lastSpoutOf, false)
abbrev mX5_init : zM := (cX5_init, 5, 3, none, yX5_init, true)
abbrev mX5_readPost : zM := (cX5_readPost, 5, 4, (some .boolean), yX5_readPost, false)
abbrev mX5_faulty : zM := (cX5_faulty, 5, 2, (some .boolean), yX5_faulty, false)
abbrev mX5_readLine : zM := (cX5_readLine, 5, 3, (some .boolean), yX5_readLine, false)
abbrev mX5_readHead : zM := (cX5_readHead, 5, 1, (some .boolean), yX5_readHead, false)
abbrev mX5_readIsland : zM := (cX5_readIsland, 5, 3, (some .boolean), yX5_readIsland, false)
abbrev mX5_readWay : zM := (cX5_readWay, 5, 2, (some .boolean), yX5_readWay, false)
abbrev mX5_readWhale : zM := (cX5_readWhale, 5, 2, (some .boolean), yX5_readWhale, false)
abbrev mX5_readBox : zM := (cX5_readBox, 5, 2, (some .boolean), yX5_readBox, false)
abbrev mX5_readSpout : zM := (cX5_readSpout, 5, 4, (some .boolean), yX5_readSpout, false)
abbrev mX5_word : zM := (cX5_word, 5, 2, (some .boolean), yX5_word, false)
abbrev mX5_whole : zM := (cX5_whole, 5, 4, (some .boolean), yX5_whole, false)
abbrev mX5_newName : zM := (cX5_newName, 5, 3, (some .boolean), yX5_newName, false)
abbrev mX5_toldName : zM := (cX5_toldName, 5, 3, (some .boolean), yX5_toldName, false)
abbrev mX5_nameOfToken : zM := (cX5_nameOfToken, 5, 4, (some .int), yX5_nameOfToken, false)
abbrev mX5_letters : zM := (cX5_letters, 5, 4, (some .long), yX5_letters, false)
abbrev mX5_songOfToken : zM := (cX5_songOfToken, 5, 5, (some .int), yX5_songOfToken, false)
abbrev mX5_kindOfToken : zM := (cX5_kindOfToken, 5, 1, (some .int), yX5_kindOfToken, false)
abbrev mX5_sortOfLine : zM := (cX5_sortOfLine, 5, 1, (some .int), yX5_sortOfLine, false)
abbrev mX5_isToken : zM := (cX5_isToken, 5, 3, (some .boolean), yX5_isToken, false)
abbrev mX5_nextToken : zM := (cX5_nextToken, 5, 1, none, yX5_nextToken, false)
abbrev mX5_passAll : zM := (cX5_passAll, 5, 3, (some .boolean), yX5_passAll, false)
abbrev mX6_init : zM := (cX6_init, 6, 4, none, yX6_init, true)
abbrev mX6_dayOfLeaving : zM := (cX6_dayOfLeaving, 6, 6, (some .int), yX6_dayOfLeaving, false)
abbrev mX6_findFirstDays : zM := (cX6_findFirstDays, 6, 10, none, yX6_findFirstDays, false)
abbrev mX6_goes : zM := (cX6_goes, 6, 7, (some .boolean), yX6_goes, false)
abbrev mX6_firstDayAt : zM := (cX6_firstDayAt, 6, 5, (some .int), yX6_firstDayAt, false)
abbrev mX6_dayOfBringing : zM := (cX6_dayOfBringing, 6, 6, (some .int), yX6_dayOfBringing, false)
abbrev mX6_soonestBringer : zM := (cX6_soonestBringer, 6, 6, (some .int), yX6_soonestBringer, false)
abbrev mX6_surestBringer : zM := (cX6_surestBringer, 6, 6, (some .int), yX6_surestBringer, false)
abbrev mX6_bringersBy : zM := (cX6_bringersBy, 6, 6, (some .int), yX6_bringersBy, false)
abbrev mX6_dayOfMeeting : zM := (cX6_dayOfMeeting, 6, 8, (some .int), yX6_dayOfMeeting, false)
abbrev mX6_fittingWhales : zM := (cX6_fittingWhales, 6, 3, (some .int), yX6_fittingWhales, false)
abbrev mX6_isFitting : zM := (cX6_isFitting, 6, 6, (some .boolean), yX6_isFitting, false)
abbrev mX6_islandsReached : zM := (cX6_islandsReached, 6, 7, (some .int), yX6_islandsReached, false)
abbrev mX6_bestPier : zM := (cX6_bestPier, 6, 7, (some .int), yX6_bestPier, false)
abbrev mX6_whalesReaching : zM := (cX6_whalesReaching, 6, 5, (some .int), yX6_whalesReaching, false)
abbrev mX7_init : zM := (cX7_init, 7, 2, none, yX7_init, true)
abbrev mX7_fallIn : zM := (cX7_fallIn, 7, 2, (some .int), yX7_fallIn, false)
abbrev mX7_raised : zM := (cX7_raised, 7, 6, (some .int), yX7_raised, false)
abbrev mX7_songIn : zM := (cX7_songIn, 7, 3, (some .int), yX7_songIn, false)
abbrev mX7_hearerOf : zM := (cX7_hearerOf, 7, 8, (some .int), yX7_hearerOf, false)
abbrev mX7_apartness : zM := (cX7_apartness, 7, 3, (some .int), yX7_apartness, false)
abbrev mX7_bearable : zM := (cX7_bearable, 7, 5, (some .int), yX7_bearable, false)
abbrev mX7_mixedPairs : zM := (cX7_mixedPairs, 7, 5, (some .int), yX7_mixedPairs, false)
abbrev mX7_findNew : zM := (cX7_findNew, 7, 9, (some .int), yX7_findNew, false)
abbrev mX7_keepSongsOf : zM := (cX7_keepSongsOf, 7, 5, (some .int), yX7_keepSongsOf, false)
abbrev mX7_isOfNotes : zM := (cX7_isOfNotes, 7, 4, (some .boolean), yX7_isOfNotes, false)
abbrev mX7_isFarFromKept : zM := (cX7_isFarFromKept, 7, 5, (some .boolean), yX7_isFarFromKept, false)
abbrev mX7_draw : zM := (cX7_draw, 7, 1, (some .int), yX7_draw, false)
abbrev mX7_slipped : zM := (cX7_slipped, 7, 4, (some .int), yX7_slipped, false)
abbrev mX8_init : zM := (cX8_init, 8, 1, none, yX8_init, true)
abbrev mX9_init : zM := (cX9_init, 9, 1, none, yX9_init, true)
abbrev mX10_init : zM := (cX10_init, 10, 1, none, yX10_init, true)
abbrev mX11_init : zM := (cX11_init, 11, 2, none, yX11_init, true)
abbrev mX11_feed : zM := (cX11_feed, 11, 6, (some .int), yX11_feed, false)
abbrev mX11_post : zM := (cX11_post, 11, 2, (some .int), yX11_post, false)
abbrev mX11_fault : zM := (cX11_fault, 11, 1, (some .int), yX11_fault, false)
abbrev mX11_where : zM := (cX11_where, 11, 1, (some .int), yX11_where, false)
abbrev mX11_whale : zM := (cX11_whale, 11, 3, (some .int), yX11_whale, false)
abbrev mX11_box : zM := (cX11_box, 11, 3, (some .int), yX11_box, false)
abbrev mX11_length : zM := (cX11_length, 11, 2, (some .int), yX11_length, false)
abbrev mX11_note : zM := (cX11_note, 11, 3, (some .int), yX11_note, false)
abbrev mX11_sung : zM := (cX11_sung, 11, 3, (some .int), yX11_sung, false)
abbrev mX11_heard : zM := (cX11_heard, 11, 2, (some .int), yX11_heard, false)
abbrev mX11_way : zM := (cX11_way, 11, 4, (some .int), yX11_way, false)
abbrev mX11_season : zM := (cX11_season, 11, 2, (some .int), yX11_season, false)
abbrev mX11_sets : zM := (cX11_sets, 11, 4, (some .int), yX11_sets, false)
abbrev mX11_sent : zM := (cX11_sent, 11, 4, (some .int), yX11_sent, false)
abbrev mX11_apart : zM := (cX11_apart, 11, 3, (some .int), yX11_apart, false)
abbrev mX11_bear : zM := (cX11_bear, 11, 1, (some .int), yX11_bear, false)
abbrev mX11_mixed : zM := (cX11_mixed, 11, 1, (some .int), yX11_mixed, false)
abbrev mX11_fresh : zM := (cX11_fresh, 11, 4, (some .int), yX11_fresh, false)
abbrev mX11_byTurns : zM := (cX11_byTurns, 11, 4, (some .int), yX11_byTurns, false)
abbrev mX11_near : zM := (cX11_near, 11, 2, (some .int), yX11_near, false)
abbrev mX11_asNear : zM := (cX11_asNear, 11, 2, (some .int), yX11_asNear, false)
abbrev mX11_heardIn : zM := (cX11_heardIn, 11, 3, (some .int), yX11_heardIn, false)
abbrev mX11_strange : zM := (cX11_strange, 11, 3, (some .int), yX11_strange, false)
abbrev mX11_arrival : zM := (cX11_arrival, 11, 5, (some .int), yX11_arrival, false)
abbrev mX11_brings : zM := (cX11_brings, 11, 3, (some .int), yX11_brings, false)
abbrev mX11_soonest : zM := (cX11_soonest, 11, 2, (some .int), yX11_soonest, false)
abbrev mX11_surest : zM := (cX11_surest, 11, 2, (some .int), yX11_surest, false)
abbrev mX11_by : zM := (cX11_by, 11, 3, (some .int), yX11_by, false)
abbrev mX11_registered : zM := (cX11_registered, 11, 8, (some .long), yX11_registered, false)
abbrev mX11_match : zM := (cX11_match, 11, 1, (some .int), yX11_match, false)
abbrev mX11_matchDays : zM := (cX11_matchDays, 11, 1, (some .int), yX11_matchDays, false)
abbrev mX11_matchOf : zM := (cX11_matchOf, 11, 2, (some .int), yX11_matchOf, false)
abbrev mX11_meet : zM := (cX11_meet, 11, 5, (some .int), yX11_meet, false)
abbrev mX11_fits : zM := (cX11_fits, 11, 1, (some .int), yX11_fits, false)
abbrev mX11_reach : zM := (cX11_reach, 11, 3, (some .int), yX11_reach, false)
abbrev mX11_pier : zM := (cX11_pier, 11, 2, (some .int), yX11_pier, false)
abbrev mX11_watch : zM := (cX11_watch, 11, 3, (some .int), yX11_watch, false)
abbrev mX11_round : zM := (cX11_round, 11, 2, (some .int), yX11_round, false)
abbrev mX11_roundAt : zM := (cX11_roundAt, 11, 3, (some .int), yX11_roundAt, false)
abbrev mX11_decade : zM := (cX11_decade, 11, 5, (some .int), yX11_decade, false)
abbrev mX11_send : zM := (cX11_send, 11, 4, (some .int), yX11_send, false)
abbrev mX11_tune : zM := (cX11_tune, 11, 5, (some .boolean), yX11_tune, false)
abbrev mX11_years : zM := (cX11_years, 11, 2, (some .int), yX11_years, false)
abbrev mX11_close : zM := (cX11_close, 11, 3, (some .boolean), yX11_close, false)
abbrev mX11_undo : zM := (cX11_undo, 11, 1, (some .boolean), yX11_undo, false)
abbrev mX11_image : zM := (cX11_image, 11, 1, (some .int), yX11_image, false)
abbrev mX11_back : zM := (cX11_back, 11, 2, (some .boolean), yX11_back, false)
abbrev mX11_led : zM := (cX11_led, 11, 4, (some .int), yX11_led, false)
abbrev mX11_size : zM := (cX11_size, 11, 2, (some .int), yX11_size, false)
abbrev mX11_trouble : zM := (cX11_trouble, 11, 1, (some .int), yX11_trouble, false)
abbrev mX11_granted : zM := (cX11_granted, 11, 2, (some .int), yX11_granted, false)
abbrev mX11_refused : zM := (cX11_refused, 11, 2, (some .int), yX11_refused, false)
abbrev mX11_hasGranted : zM := (cX11_hasGranted, 11, 1, (some .boolean), yX11_hasGranted, false)
abbrev mX11_hasRefused : zM := (cX11_hasRefused, 11, 2, (some .boolean), yX11_hasRefused, false)
abbrev mX11_hasPost : zM := (cX11_hasPost, 11, 1, (some .boolean), yX11_hasPost, false)
abbrev mX11_isIsland : zM := (cX11_isIsland, 11, 2, (some .boolean), yX11_isIsland, false)
abbrev mX11_areTwoIslands : zM := (cX11_areTwoIslands, 11, 3, (some .boolean), yX11_areTwoIslands, false)
abbrev mX11_isWay : zM := (cX11_isWay, 11, 2, (some .boolean), yX11_isWay, false)
abbrev mX11_isWhale : zM := (cX11_isWhale, 11, 2, (some .boolean), yX11_isWhale, false)
abbrev mX11_isBox : zM := (cX11_isBox, 11, 2, (some .boolean), yX11_isBox, false)
abbrev mX11_isNoteOfBox : zM := (cX11_isNoteOfBox, 11, 3, (some .boolean), yX11_isNoteOfBox, false)
abbrev mX11_isWithin : zM := (cX11_isWithin, 11, 2, (some .boolean), yX11_isWithin, false)
abbrev mX11_refusalOfNewSong : zM := (cX11_refusalOfNewSong, 11, 4, (some .int), yX11_refusalOfNewSong, false)
abbrev mX11_appendBytes : zM := (cX11_appendBytes, 11, 3, none, yX11_appendBytes, false)
abbrev mX11_takeDraft : zM := (cX11_takeDraft, 11, 2, none, yX11_takeDraft, false)
abbrev mX11_keepForUndo : zM := (cX11_keepForUndo, 11, 1, none, yX11_keepForUndo, false)
abbrev mX11_hearerIn : zM := (cX11_hearerIn, 11, 3, (some .int), yX11_hearerIn, false)
abbrev mX11_sentPart : zM := (cX11_sentPart, 11, 3, (some .int), yX11_sentPart, false)
abbrev mX11_heardWithSlips : zM := (cX11_heardWithSlips, 11, 6, (some .int), yX11_heardWithSlips, false)
abbrev mX11_solveMatch : zM := (cX11_solveMatch, 11, 3, none, yX11_solveMatch, false)
abbrev mX11_commonDivisor : zM := (cX11_commonDivisor, 11, 6, (some .int), yX11_commonDivisor, false)
abbrev mX11_noteAt : zM := (cX11_noteAt, 11, 3, (some .int), yX11_noteAt, false)
abbrev mX11_withNote : zM := (cX11_withNote, 11, 5, (some .int), yX11_withNote, false)
abbrev mX11_unlikeNotes : zM := (cX11_unlikeNotes, 11, 3, (some .int), yX11_unlikeNotes, false)
abbrev mX12_init : zM := (cX12_init, 12, 1, none, yX12_init, true)
abbrev mX12_thrown : zM := (cX12_thrown, 12, 1, (some .int), yX12_thrown, false)
abbrev mX12_good : zM := (cX12_good, 12, 1, none, yX12_good, false)
abbrev mX12_no : zM := (cX12_no, 12, 2, (some .int), yX12_no, false)
abbrev mX12_isNot : zM := (cX12_isNot, 12, 2, (some .boolean), yX12_isNot, false)
abbrev mX12_in : zM := (cX12_in, 12, 3, (some .boolean), yX12_in, false)
abbrev mX12_hasBit : zM := (cX12_hasBit, 12, 2, (some .boolean), yX12_hasBit, false)
abbrev mX12_ones : zM := (cX12_ones, 12, 3, (some .int), yX12_ones, false)
abbrev mX12_copy : zM := (cX12_copy, 12, 6, none, yX12_copy, false)
abbrev mX12_later : zM := (cX12_later, 12, 2, (some .int), yX12_later, false)
abbrev mX12_feed : zM := (cX12_feed, 12, 8, (some .int), yX12_feed, false)
abbrev mX12_look : zM := (cX12_look, 12, 2, (some .int), yX12_look, false)
abbrev mX12_isSmall : zM := (cX12_isSmall, 12, 1, (some .boolean), yX12_isSmall, false)
abbrev mX12_isDigit : zM := (cX12_isDigit, 12, 1, (some .boolean), yX12_isDigit, false)
abbrev mX12_next : zM := (cX12_next, 12, 4, none, yX12_next, false)
abbrev mX12_wrong : zM := (cX12_wrong, 12, 3, none, yX12_wrong, false)
abbrev mX12_isWord : zM := (cX12_isWord, 12, 4, (some .boolean), yX12_isWord, false)
abbrev mX12_takesWord : zM := (cX12_takesWord, 12, 2, (some .boolean), yX12_takesWord, false)
abbrev mX12_must : zM := (cX12_must, 12, 2, none, yX12_must, false)
abbrev mX12_mustName : zM := (cX12_mustName, 12, 1, none, yX12_mustName, false)
abbrev mX12_find : zM := (cX12_find, 12, 4, (some .int), yX12_find, false)
abbrev mX12_newName : zM := (cX12_newName, 12, 3, none, yX12_newName, false)
abbrev mX12_named : zM := (cX12_named, 12, 4, (some .int), yX12_named, false)
abbrev mX12_islandPassed : zM := (cX12_islandPassed, 12, 2, (some .int), yX12_islandPassed, false)
abbrev mX12_islandBehind : zM := (cX12_islandBehind, 12, 2, (some .int), yX12_islandBehind, false)
abbrev mX12_number : zM := (cX12_number, 12, 4, (some .int), yX12_number, false)
abbrev mX12_after : zM := (cX12_after, 12, 4, (some .int), yX12_after, false)
abbrev mX12_post : zM := (cX12_post, 12, 3, (some .int), yX12_post, false)
abbrev mX12_begins : zM := (cX12_begins, 12, 3, (some .boolean), yX12_begins, false)
abbrev mX12_readLine : zM := (cX12_readLine, 12, 1, none, yX12_readLine, false)
abbrev mX12_postLine : zM := (cX12_postLine, 12, 1, none, yX12_postLine, false)
abbrev mX12_islandLine : zM := (cX12_islandLine, 12, 6, none, yX12_islandLine, false)
abbrev mX12_isSong : zM := (cX12_isSong, 12, 5, (some .boolean), yX12_isSong, false)
abbrev mX12_wayLine : zM := (cX12_wayLine, 12, 6, none, yX12_wayLine, false)
abbrev mX12_joins : zM := (cX12_joins, 12, 6, (some .boolean), yX12_joins, false)
abbrev mX12_whaleLine : zM := (cX12_whaleLine, 12, 3, none, yX12_whaleLine, false)
abbrev mX12_boxLine : zM := (cX12_boxLine, 12, 2, none, yX12_boxLine, false)
abbrev mX12_spoutLine : zM := (cX12_spoutLine, 12, 6, none, yX12_spoutLine, false)
abbrev mX12_fault : zM := (cX12_fault, 12, 1, (some .int), yX12_fault, false)
abbrev mX12_where : zM := (cX12_where, 12, 1, (some .int), yX12_where, false)
abbrev mX12_isIsland : zM := (cX12_isIsland, 12, 2, (some .boolean), yX12_isIsland, false)
abbrev mX12_isWhale : zM := (cX12_isWhale, 12, 2, (some .boolean), yX12_isWhale, false)
abbrev mX12_isBox : zM := (cX12_isBox, 12, 2, (some .boolean), yX12_isBox, false)
abbrev mX12_ofWhale : zM := (cX12_ofWhale, 12, 3, (some .int), yX12_ofWhale, false)
abbrev mX12_ofBox : zM := (cX12_ofBox, 12, 3, (some .int), yX12_ofBox, false)
abbrev mX12_songLong : zM := (cX12_songLong, 12, 2, (some .int), yX12_songLong, false)
abbrev mX12_boxLong : zM := (cX12_boxLong, 12, 2, (some .int), yX12_boxLong, false)
abbrev mX12_noteIn : zM := (cX12_noteIn, 12, 5, (some .int), yX12_noteIn, false)
abbrev mX12_whale : zM := (cX12_whale, 12, 3, (some .int), yX12_whale, false)
abbrev mX12_box : zM := (cX12_box, 12, 4, (some .int), yX12_box, false)
abbrev mX12_length : zM := (cX12_length, 12, 2, (some .int), yX12_length, false)
abbrev mX12_note : zM := (cX12_note, 12, 3, (some .int), yX12_note, false)
abbrev mX12_sung : zM := (cX12_sung, 12, 3, (some .int), yX12_sung, false)
abbrev mX12_unlike : zM := (cX12_unlike, 12, 8, (some .int), yX12_unlike, false)
abbrev mX12_hearsIn : zM := (cX12_hearsIn, 12, 9, (some .int), yX12_hearsIn, false)
abbrev mX12_heardNow : zM := (cX12_heardNow, 12, 2, (some .int), yX12_heardNow, false)
abbrev mX12_heard : zM := (cX12_heard, 12, 2, (some .int), yX12_heard, false)
abbrev mX12_isClosed : zM := (cX12_isClosed, 12, 2, (some .boolean), yX12_isClosed, false)
abbrev mX12_wayOf : zM := (cX12_wayOf, 12, 4, (some .int), yX12_wayOf, false)
abbrev mX12_way : zM := (cX12_way, 12, 4, (some .int), yX12_way, false)
abbrev mX12_nearOf : zM := (cX12_nearOf, 12, 7, (some .int), yX12_nearOf, false)
abbrev mX12_near : zM := (cX12_near, 12, 2, (some .int), yX12_near, false)
abbrev mX12_asNear : zM := (cX12_asNear, 12, 2, (some .int), yX12_asNear, false)
abbrev mX12_sent : zM := (cX12_sent, 12, 4, (some .int), yX12_sent, false)
abbrev mX12_apartOf : zM := (cX12_apartOf, 12, 5, (some .int), yX12_apartOf, false)
abbrev mX12_apart : zM := (cX12_apart, 12, 3, (some .int), yX12_apart, false)
abbrev mX12_bear : zM := (cX12_bear, 12, 4, (some .int), yX12_bear, false)
abbrev mX12_mixed : zM := (cX12_mixed, 12, 4, (some .int), yX12_mixed, false)
abbrev mX12_power : zM := (cX12_power, 12, 4, (some .int), yX12_power, false)
abbrev mX12_digitsApart : zM := (cX12_digitsApart, 12, 8, (some .int), yX12_digitsApart, false)
abbrev mX12_newSongs : zM := (cX12_newSongs, 12, 8, (some .int), yX12_newSongs, false)
abbrev mX12_songWhy : zM := (cX12_songWhy, 12, 3, (some .int), yX12_songWhy, false)
abbrev mX12_fresh : zM := (cX12_fresh, 12, 4, (some .int), yX12_fresh, false)
abbrev mX12_byTurns : zM := (cX12_byTurns, 12, 4, (some .int), yX12_byTurns, false)
abbrev mX12_heardIn : zM := (cX12_heardIn, 12, 3, (some .int), yX12_heardIn, false)
abbrev mX12_hearsItself : zM := (cX12_hearsItself, 12, 8, (some .boolean), yX12_hearsItself, false)
abbrev mX12_strange : zM := (cX12_strange, 12, 3, (some .int), yX12_strange, false)
abbrev mX12_dayBy : zM := (cX12_dayBy, 12, 4, (some .int), yX12_dayBy, false)
abbrev mX12_setsOut : zM := (cX12_setsOut, 12, 5, (some .int), yX12_setsOut, false)
abbrev mX12_seasonOf : zM := (cX12_seasonOf, 12, 1, (some .int), yX12_seasonOf, false)
abbrev mX12_season : zM := (cX12_season, 12, 2, (some .int), yX12_season, false)
abbrev mX12_sets : zM := (cX12_sets, 12, 4, (some .int), yX12_sets, false)
abbrev mX12_layDays : zM := (cX12_layDays, 12, 7, none, yX12_layDays, false)
abbrev mX12_goesBy : zM := (cX12_goesBy, 12, 8, none, yX12_goesBy, false)
abbrev mX12_arrivalOf : zM := (cX12_arrivalOf, 12, 5, (some .int), yX12_arrivalOf, false)
abbrev mX12_arrival : zM := (cX12_arrival, 12, 5, (some .int), yX12_arrival, false)
abbrev mX12_lays : zM := (cX12_lays, 12, 7, (some .boolean), yX12_lays, false)
abbrev mX12_bringsOf : zM := (cX12_bringsOf, 12, 3, (some .int), yX12_bringsOf, false)
abbrev mX12_brings : zM := (cX12_brings, 12, 3, (some .int), yX12_brings, false)
abbrev mX12_soonest : zM := (cX12_soonest, 12, 4, (some .int), yX12_soonest, false)
abbrev mX12_surestBut : zM := (cX12_surestBut, 12, 5, (some .int), yX12_surestBut, false)
abbrev mX12_surest : zM := (cX12_surest, 12, 2, (some .int), yX12_surest, false)
abbrev mX12_by : zM := (cX12_by, 12, 5, (some .int), yX12_by, false)
abbrev mX12_lowest : zM := (cX12_lowest, 12, 11, (some .long), yX12_lowest, false)
abbrev mX12_registered : zM := (cX12_registered, 12, 6, (some .long), yX12_registered, false)
abbrev mX12_tryMatch : zM := (cX12_tryMatch, 12, 6, none, yX12_tryMatch, false)
abbrev mX12_seekMatch : zM := (cX12_seekMatch, 12, 3, none, yX12_seekMatch, false)
abbrev mX12_match : zM := (cX12_match, 12, 1, (some .int), yX12_match, false)
abbrev mX12_matchDays : zM := (cX12_matchDays, 12, 1, (some .int), yX12_matchDays, false)
abbrev mX12_matchOf : zM := (cX12_matchOf, 12, 2, (some .int), yX12_matchOf, false)
abbrev mX12_meet : zM := (cX12_meet, 12, 8, (some .int), yX12_meet, false)
abbrev mX12_fitsAll : zM := (cX12_fitsAll, 12, 6, (some .boolean), yX12_fitsAll, false)
abbrev mX12_fits : zM := (cX12_fits, 12, 3, (some .int), yX12_fits, false)
abbrev mX12_reachOf : zM := (cX12_reachOf, 12, 5, (some .int), yX12_reachOf, false)
abbrev mX12_reach : zM := (cX12_reach, 12, 3, (some .int), yX12_reach, false)
abbrev mX12_pier : zM := (cX12_pier, 12, 8, (some .int), yX12_pier, false)
abbrev mX12_doLead : zM := (cX12_doLead, 12, 8, (some .boolean), yX12_doLead, false)
abbrev mX12_watch : zM := (cX12_watch, 12, 5, (some .int), yX12_watch, false)
abbrev mX12_layFar : zM := (cX12_layFar, 12, 4, none, yX12_layFar, false)
abbrev mX12_tryRound : zM := (cX12_tryRound, 12, 5, none, yX12_tryRound, false)
abbrev mX12_seekRound : zM := (cX12_seekRound, 12, 2, (some .int), yX12_seekRound, false)
abbrev mX12_round : zM := (cX12_round, 12, 2, (some .int), yX12_round, false)
abbrev mX12_roundAt : zM := (cX12_roundAt, 12, 3, (some .int), yX12_roundAt, false)
abbrev mX12_decade : zM := (cX12_decade, 12, 9, (some .int), yX12_decade, false)
abbrev mX12_note1 : zM := (cX12_note1, 12, 2, none, yX12_note1, false)
abbrev mX12_send : zM := (cX12_send, 12, 5, (some .int), yX12_send, false)
abbrev mX12_tune : zM := (cX12_tune, 12, 4, (some .boolean), yX12_tune, false)
abbrev mX12_years : zM := (cX12_years, 12, 2, (some .int), yX12_years, false)
abbrev mX12_close : zM := (cX12_close, 12, 3, (some .boolean), yX12_close, false)
abbrev mX12_undo : zM := (cX12_undo, 12, 1, (some .boolean), yX12_undo, false)
abbrev mX12_image : zM := (cX12_image, 12, 1, (some .int), yX12_image, false)
abbrev mX12_back : zM := (cX12_back, 12, 2, (some .boolean), yX12_back, false)
abbrev mX12_led : zM := (cX12_led, 12, 4, (some .int), yX12_led, false)
abbrev mX12_size : zM := (cX12_size, 12, 2, (some .int), yX12_size, false)
abbrev mX12_trouble : zM := (cX12_trouble, 12, 1, (some .int), yX12_trouble, false)
abbrev mJ0_length_8abf5 : zM := (cJ0_length_8abf5, 14, 1, (some .int), yJ0_length_8abf5, false)
abbrev mJ0_charAt_5068e : zM := (cJ0_charAt_5068e, 14, 2, (some .char), yJ0_charAt_5068e, false)
abbrev mJ0_coder_7d493 : zM := (cJ0_coder_7d493, 14, 1, (some .byte), yJ0_coder_7d493, false)
abbrev mJ0_isLatin1_aae02 : zM := (cJ0_isLatin1_aae02, 14, 1, (some .boolean), yJ0_isLatin1_aae02, false)
abbrev mJ0_checkIndex_df160 : zM := (cJ0_checkIndex_df160, 14, 2, none, yJ0_checkIndex_df160, false)
abbrev mJ1_charAt_3b067 : zM := (cJ1_charAt_3b067, 15, 2, (some .char), yJ1_charAt_3b067, false)
abbrev mJ3_checkIndex_8e157 : zM := (cJ3_checkIndex_8e157, 18, 3, (some .int), yJ3_checkIndex_8e157, false)
abbrev mJ7_fill_53178 : zM := (cJ7_fill_53178, 17, 4, none, yJ7_fill_53178, false)
abbrev mJ6_bitCount_0f7a4 : zM := (cJ6_bitCount_0f7a4, 16, 1, (some .int), yJ6_bitCount_0f7a4, false)
abbrev mL_law : zM := (cL_law, 13, 7, some .boolean, yL_law, false)
abbrev zledM : zM := mX11_led
def zlook {α : Type} (l : List (Nat × α)) (i : Nat) : Option α := match l with
  | [] => none
  | q :: t => if q.1 = i then some q.2 else zlook t i
/-- fields by (class, pool number): class, place, place of the word -/
def zfldT0 : List (Nat × Nat × Nat × Nat) := []
def zfldT1 : List (Nat × Nat × Nat × Nat) := [(9, 1, 0, 545), (15, 1, 1, 547), (18, 1, 2, 549), (22, 1, 3, 551), (25, 1, 4, 553)]
def zfldT2 : List (Nat × Nat × Nat × Nat) := [(9, 2, 0, 425), (15, 2, 1, 428), (18, 2, 2, 430), (22, 2, 3, 433), (25, 2, 4, 436), (28, 2, 5, 438), (31, 2, 6, 440), (34, 4, 6, 299), (39, 4, 12, 327), (43, 10, 1, 208), (48, 4, 7, 305), (51, 4, 9, 313), (54, 4, 13, 332), (58, 0, 1, 234)]
def zfldT3 : List (Nat × Nat × Nat × Nat) := [(9, 3, 1, 526), (15, 3, 2, 528), (18, 3, 3, 529), (21, 3, 0, 524), (25, 4, 4, 288), (40, 4, 5, 295), (43, 4, 11, 322), (47, 9, 0, 174), (52, 9, 1, 178), (73, 9, 2, 183)]
def zfldT4 : List (Nat × Nat × Nat × Nat) := [(9, 4, 9, 312), (15, 4, 10, 317), (20, 4, 11, 321), (26, 4, 12, 326), (32, 4, 13, 331), (38, 4, 14, 336), (46, 4, 0, 272), (50, 4, 1, 276), (53, 4, 2, 281), (56, 4, 3, 284), (59, 4, 4, 289), (62, 4, 5, 294), (65, 4, 6, 300), (68, 4, 7, 304), (71, 4, 8, 308), (74, 0, 1, 235), (77, 9, 0, 176), (80, 9, 1, 180), (83, 8, 0, 258)]
def zfldT5 : List (Nat × Nat × Nat × Nat) := [(9, 5, 1, 377), (15, 5, 2, 378), (18, 5, 3, 379), (21, 5, 4, 380), (24, 5, 5, 381), (27, 5, 7, 383), (31, 5, 8, 384), (35, 5, 9, 385), (38, 5, 10, 386), (41, 5, 11, 387), (44, 5, 12, 389), (47, 5, 0, 376), (51, 5, 6, 382), (73, 4, 4, 290), (84, 4, 0, 274), (93, 4, 5, 297), (96, 4, 11, 324), (104, 4, 6, 301), (107, 4, 12, 328), (115, 4, 7, 306), (118, 4, 13, 333), (126, 4, 8, 309), (129, 4, 14, 337), (148, 4, 1, 277), (152, 4, 2, 282), (156, 4, 3, 285), (167, 4, 9, 315), (170, 4, 10, 319), (176, 9, 0, 177), (181, 9, 1, 181), (189, 9, 2, 184), (193, 9, 3, 187), (198, 10, 0, 207), (204, 10, 1, 209), (209, 10, 2, 213), (213, 10, 3, 216), (217, 0, 0, 233), (223, 0, 1, 237), (227, 0, 2, 240), (231, 0, 3, 243), (233, 8, 0, 259), (237, 8, 1, 261), (244, 8, 2, 263)]
def zfldT6 : List (Nat × Nat × Nat × Nat) := [(9, 6, 3, 498), (15, 6, 4, 499), (19, 6, 5, 501), (22, 6, 6, 502), (25, 6, 0, 494), (29, 6, 1, 496), (33, 6, 2, 497), (44, 4, 4, 291), (49, 4, 5, 296), (52, 4, 11, 323), (56, 9, 0, 175), (61, 9, 1, 179), (74, 9, 2, 182), (77, 9, 3, 186), (88, 4, 12, 329), (92, 4, 13, 334), (99, 0, 2, 238), (107, 10, 0, 205), (112, 2, 6, 441), (119, 2, 0, 426), (127, 2, 2, 432), (130, 0, 0, 231), (133, 2, 3, 435), (140, 0, 3, 241), (149, 10, 2, 212), (152, 4, 6, 302), (158, 10, 3, 215), (167, 10, 1, 210), (170, 4, 8, 310), (173, 4, 14, 338), (177, 8, 0, 260), (181, 8, 1, 262), (184, 8, 2, 264)]
def zfldT7 : List (Nat × Nat × Nat × Nat) := [(9, 7, 1, 466), (15, 7, 2, 468), (18, 7, 3, 470), (21, 7, 4, 472), (24, 7, 5, 474), (28, 7, 0, 464), (32, 4, 2, 280), (37, 4, 0, 273), (44, 4, 9, 314), (47, 4, 10, 318), (57, 4, 4, 293), (64, 4, 1, 278), (89, 4, 3, 286)]
def zfldT8 : List (Nat × Nat × Nat × Nat) := []
def zfldT9 : List (Nat × Nat × Nat × Nat) := []
def zfldT10 : List (Nat × Nat × Nat × Nat) := []
def zfldT11 : List (Nat × Nat × Nat × Nat) := [(9, 11, 0, 566), (13, 11, 1, 567), (17, 11, 2, 568), (23, 11, 3, 569), (27, 11, 4, 570), (35, 11, 5, 571), (42, 11, 6, 572), (51, 11, 7, 573), (60, 11, 8, 574), (67, 11, 9, 575), (74, 11, 10, 576), (78, 11, 11, 577), (82, 11, 12, 578), (85, 11, 13, 579), (88, 11, 14, 580), (91, 11, 15, 581), (109, 4, 4, 292), (115, 5, 11, 388), (118, 5, 12, 390), (125, 4, 12, 330), (129, 10, 0, 206), (134, 2, 2, 431), (138, 2, 3, 434), (141, 10, 2, 211), (144, 10, 3, 214), (150, 4, 13, 335), (154, 0, 0, 232), (159, 0, 1, 236), (162, 0, 2, 239), (165, 0, 3, 242), (168, 2, 4, 437), (171, 2, 5, 439), (177, 4, 10, 320), (180, 2, 0, 427), (195, 2, 6, 442), (213, 4, 11, 325), (217, 9, 2, 185), (233, 9, 3, 188), (239, 4, 7, 307), (265, 7, 4, 473), (268, 7, 2, 469), (271, 7, 3, 471), (274, 4, 9, 316), (301, 1, 2, 550), (304, 1, 3, 552), (307, 1, 1, 548), (322, 2, 1, 429), (331, 3, 1, 527), (335, 7, 1, 467), (344, 6, 4, 500), (350, 4, 0, 275), (370, 4, 1, 279), (373, 4, 2, 283), (376, 4, 3, 287), (379, 4, 5, 298), (382, 4, 6, 303), (385, 4, 8, 311), (388, 7, 0, 465), (389, 6, 0, 495), (390, 3, 0, 525), (402, 1, 0, 546)]
def zfldT12 : List (Nat × Nat × Nat × Nat) := [(7, 12, 1, 1378), (13, 12, 10, 1387), (17, 12, 12, 1389), (20, 12, 15, 1392), (23, 12, 16, 1393), (26, 12, 17, 1394), (29, 12, 18, 1395), (32, 12, 19, 1396), (35, 12, 22, 1399), (38, 12, 24, 1401), (41, 12, 25, 1402), (44, 12, 28, 1405), (47, 12, 29, 1406), (50, 12, 30, 1407), (53, 12, 35, 1412), (56, 12, 36, 1413), (59, 12, 37, 1414), (62, 12, 0, 1377), (65, 12, 11, 1388), (68, 12, 2, 1379), (71, 12, 3, 1380), (74, 12, 5, 1382), (81, 12, 4, 1381), (84, 12, 8, 1385), (87, 12, 7, 1384), (90, 12, 6, 1383), (100, 12, 13, 1390), (104, 12, 9, 1386), (180, 12, 14, 1391), (183, 12, 20, 1397), (186, 12, 21, 1398), (315, 12, 23, 1400), (358, 12, 26, 1403), (361, 12, 27, 1404), (379, 12, 31, 1408), (382, 12, 32, 1409), (392, 12, 33, 1410), (395, 12, 34, 1411), (410, 12, 38, 1415)]
def zfldT13 : List (Nat × Nat × Nat × Nat) := []
def zfldT14 : List (Nat × Nat × Nat × Nat) := []
def zfldT15 : List (Nat × Nat × Nat × Nat) := []
def zfldT16 : List (Nat × Nat × Nat × Nat) := []
def zfldT17 : List (Nat × Nat × Nat × Nat) := []
def zfldT18 : List (Nat × Nat × Nat × Nat) := []
def zfldTT : List (List (Nat × Nat × Nat × Nat)) := [zfldT0, zfldT1, zfldT2, zfldT3, zfldT4, zfldT5, zfldT6, zfldT7, zfldT8, zfldT9, zfldT10, zfldT11, zfldT12, zfldT13, zfldT14, zfldT15, zfldT16, zfldT17, zfldT18]
def zfld (o k : Nat) : Option (Nat × Nat) := (zlook (zfldTT.getD o []) k).map (fun q => (q.1, q.2.1))
def zcstT0 : List (Nat × zV × Nat) := []
def zclsT0 : List (Nat × Nat × Nat) := []
def zcstT1 : List (Nat × zV × Nat) := [(48, .inl (10000000), 1110)]
def zclsT1 : List (Nat × Nat × Nat) := []
def zcstT2 : List (Nat × zV × Nat) := []
def zclsT2 : List (Nat × Nat × Nat) := []
def zcstT3 : List (Nat × zV × Nat) := [(62, .inl (1000000), 1201)]
def zclsT3 : List (Nat × Nat × Nat) := []
def zcstT4 : List (Nat × zV × Nat) := []
def zclsT4 : List (Nat × Nat × Nat) := [(18, 9, 161), (24, 10, 163), (30, 0, 165), (36, 8, 167)]
def zcstT5 : List (Nat × zV × Nat) := [(137, .inr (.inr (some 1000016)), 724), (146, .inr (.inr (some 1000017)), 733), (150, .inr (.inr (some 1000018)), 734), (154, .inr (.inr (some 1000019)), 735), (187, .inr (.inr (some 1000020)), 772), (191, .inr (.inr (some 1000021)), 773), (203, .inr (.inr (some 1000026)), 786), (207, .inr (.inr (some 1000027)), 787), (211, .inr (.inr (some 1000028)), 788), (215, .inr (.inr (some 1000029)), 793), (221, .inr (.inr (some 1000030)), 794), (225, .inr (.inr (some 1000031)), 795), (229, .inr (.inr (some 1000032)), 796), (255, .inr (.inr (some 1000022)), 782), (257, .inr (.inr (some 1000023)), 783), (259, .inr (.inr (some 1000024)), 784), (261, .inr (.inr (some 1000025)), 785), (263, .inr (.inr (some 1000010)), 658), (264, .inr (.inr (some 1000011)), 711), (265, .inr (.inr (some 1000012)), 712), (266, .inr (.inr (some 1000013)), 713), (267, .inr (.inr (some 1000014)), 714), (268, .inr (.inr (some 1000015)), 715)]
def zclsT5 : List (Nat × Nat × Nat) := []
def zcstT6 : List (Nat × zV × Nat) := [(37, .inl (1000000000), 1033)]
def zclsT6 : List (Nat × Nat × Nat) := []
def zcstT7 : List (Nat × zV × Nat) := [(84, .inl (65537), 1237)]
def zclsT7 : List (Nat × Nat × Nat) := []
def zcstT8 : List (Nat × zV × Nat) := []
def zclsT8 : List (Nat × Nat × Nat) := []
def zcstT9 : List (Nat × zV × Nat) := []
def zclsT9 : List (Nat × Nat × Nat) := []
def zcstT10 : List (Nat × zV × Nat) := []
def zclsT10 : List (Nat × Nat × Nat) := []
def zcstT11 : List (Nat × zV × Nat) := [(226, .inl (99999), 923), (334, .inl (65536), 1224), (365, .inr (.inr (some 1000033)), 1345)]
def zclsT11 : List (Nat × Nat × Nat) := [(20, 4, 155), (30, 5, 370), (39, 2, 419), (46, 7, 458), (55, 6, 488), (64, 3, 518), (71, 1, 539), (363, 99, 1306)]
def zcstT12 : List (Nat × zV × Nat) := [(131, .inr (.inr (some 1000010)), 1536), (133, .inr (.inr (some 1000011)), 1571), (135, .inr (.inr (some 1000012)), 1588), (137, .inr (.inr (some 1000013)), 1589), (139, .inr (.inr (some 1000014)), 1590), (141, .inr (.inr (some 1000015)), 1591), (211, .inr (.inr (some 1000016)), 1551), (217, .inr (.inr (some 1000017)), 1568), (219, .inr (.inr (some 1000018)), 1569), (221, .inr (.inr (some 1000019)), 1570), (234, .inr (.inr (some 1000020)), 1615), (235, .inr (.inr (some 1000021)), 1616), (237, .inr (.inr (some 1000022)), 1621), (239, .inr (.inr (some 1000023)), 1622), (241, .inr (.inr (some 1000024)), 1623), (243, .inr (.inr (some 1000025)), 1624), (245, .inr (.inr (some 1000026)), 1625), (250, .inr (.inr (some 1000027)), 1630), (252, .inr (.inr (some 1000028)), 1631), (254, .inr (.inr (some 1000029)), 1636), (256, .inr (.inr (some 1000030)), 1637), (258, .inr (.inr (some 1000031)), 1638), (260, .inr (.inr (some 1000032)), 1639), (340, .inl (99999), 1810), (341, .inl (1000000), 1834), (373, .inr (.inl (10000)), 1878), (422, .inl (65536), 1961), (423, .inl (65537), 1962)]
def zclsT12 : List (Nat × Nat × Nat) := []
def zcstT13 : List (Nat × zV × Nat) := []
def zclsT13 : List (Nat × Nat × Nat) := [(8, 11, 147), (13, 99, 1301), (16, 12, 1371)]
def zcstT14 : List (Nat × zV × Nat) := []
def zclsT14 : List (Nat × Nat × Nat) := []
def zcstT15 : List (Nat × zV × Nat) := []
def zclsT15 : List (Nat × Nat × Nat) := []
def zcstT16 : List (Nat × zV × Nat) := [(265, .inl (1431655765), 899), (266, .inl (858993459), 900), (267, .inl (252645135), 901)]
def zclsT16 : List (Nat × Nat × Nat) := []
def zcstT17 : List (Nat × zV × Nat) := []
def zclsT17 : List (Nat × Nat × Nat) := []
def zcstT18 : List (Nat × zV × Nat) := []
def zclsT18 : List (Nat × Nat × Nat) := []
def zcstTT : List (List (Nat × zV × Nat)) := [zcstT0, zcstT1, zcstT2, zcstT3, zcstT4, zcstT5, zcstT6, zcstT7, zcstT8, zcstT9, zcstT10, zcstT11, zcstT12, zcstT13, zcstT14, zcstT15, zcstT16, zcstT17, zcstT18]
def zcst (o k : Nat) : Option zV := (zlook (zcstTT.getD o []) k).map (fun q => q.1)
def zclsTT : List (List (Nat × Nat × Nat)) := [zclsT0, zclsT1, zclsT2, zclsT3, zclsT4, zclsT5, zclsT6, zclsT7, zclsT8, zclsT9, zclsT10, zclsT11, zclsT12, zclsT13, zclsT14, zclsT15, zclsT16, zclsT17, zclsT18]
def zcls (o k : Nat) : Option Nat := (zlook (zclsTT.getD o []) k).map (fun q => q.1)
/-- calls by (class, pool number): kind, how many arguments (the receiver too), the method; places of link, instanceMethod or static, selects, initialized -/
def zmthT0 : List (Nat × Nat × Nat × zM × Nat × Nat × Nat × Nat × Nat) := [(1, 10, 0, zledM, 230, 0, 0, 0, 0)]
def zmthT1 : List (Nat × Nat × Nat × zM × Nat × Nat × Nat × Nat × Nat) := [(3, 10, 0, zledM, 544, 0, 0, 0, 0),
  (28, 1, 2, mJ7_fill_53178, 1105, 1035, 0, 141, 1036),
  (34, 0, 4, mX1_worth, 1106, 1108, 42, 133, 1109),
  (38, 11, 0, zledM, 1111, 0, 0, 0, 0),
  (44, 0, 3, mX1_choose, 1112, 1114, 43, 133, 1115),
  (49, 0, 4, mX1_firstBest, 1116, 1118, 44, 133, 1119)]
def zmthT2 : List (Nat × Nat × Nat × zM × Nat × Nat × Nat × Nat × Nat) := [(3, 10, 0, zledM, 424, 0, 0, 0, 0),
  (63, 14, 0, zledM, 1253, 0, 0, 0, 0)]
def zmthT3 : List (Nat × Nat × Nat × zM × Nat × Nat × Nat × Nat × Nat) := [(3, 10, 0, zledM, 523, 0, 0, 0, 0),
  (31, 0, 2, mX3_waysOutOf, 1184, 1186, 47, 132, 1187),
  (35, 1, 1, mJ6_bitCount_0f7a4, 1188, 897, 0, 140, 898),
  (55, 0, 2, mX3_findShortest, 1197, 1199, 48, 132, 1200),
  (59, 0, 1, mX3_findRests, 1204, 1206, 49, 132, 1207),
  (63, 0, 3, mX3_nextOf, 1212, 1214, 51, 132, 1215),
  (67, 1, 2, mJ7_fill_53178, 1202, 1035, 0, 141, 1036),
  (76, 12, 0, zledM, 1203, 0, 0, 0, 0),
  (81, 0, 4, mX3_daysOver, 1208, 1210, 50, 132, 1211)]
def zmthT4 : List (Nat × Nat × Nat × zM × Nat × Nat × Nat × Nat × Nat) := [(3, 10, 0, zledM, 160, 0, 0, 0, 0),
  (42, 4, 1, mX9_init, 170, 171, 0, 124, 172),
  (43, 4, 1, mX10_init, 201, 202, 0, 125, 203),
  (44, 4, 1, mX0_init, 227, 228, 0, 126, 229),
  (45, 4, 1, mX8_init, 254, 255, 0, 127, 256)]
def zmthT5 : List (Nat × Nat × Nat × zM × Nat × Nat × Nat × Nat × Nat) := [(3, 10, 0, zledM, 375, 0, 0, 0, 0),
  (55, 0, 1, mX4_clear, 635, 636, 637, 123, 638),
  (60, 12, 0, zledM, 639, 0, 0, 0, 0),
  (66, 0, 1, mX5_readLine, 642, 644, 2, 128, 645),
  (70, 0, 1, mX5_nextToken, 646, 648, 3, 128, 649),
  (76, 0, 2, mX5_faulty, 716, 718, 7, 128, 719),
  (80, 0, 1, mX5_sortOfLine, 654, 656, 5, 128, 657),
  (87, 0, 1, mX5_readHead, 720, 722, 8, 128, 723),
  (90, 0, 1, mX5_readIsland, 736, 738, 11, 128, 739),
  (100, 0, 2, mX5_readWay, 760, 762, 16, 128, 763),
  (111, 0, 2, mX5_readWhale, 774, 776, 18, 128, 777),
  (122, 0, 2, mX5_readBox, 789, 791, 20, 128, 792),
  (133, 0, 2, mX5_readSpout, 797, 799, 21, 128, 800),
  (138, 0, 2, mX5_word, 725, 727, 9, 128, 728),
  (142, 0, 3, mX5_whole, 729, 731, 10, 128, 732),
  (158, 0, 3, mX5_newName, 740, 742, 12, 128, 743),
  (161, 0, 1, mX5_songOfToken, 752, 754, 15, 128, 755),
  (164, 0, 3, mX4_hasSong, 756, 757, 758, 123, 759),
  (173, 0, 2, mX5_toldName, 764, 766, 17, 128, 767),
  (184, 0, 3, mX4_wayBetween, 768, 769, 770, 123, 771),
  (195, 0, 1, mX5_kindOfToken, 778, 780, 19, 128, 781),
  (240, 0, 2, mX4_lastSpoutOf, 801, 802, 803, 123, 804),
  (245, 0, 2, mX5_isToken, 659, 661, 6, 128, 662),
  (248, 0, 1, mX5_nameOfToken, 744, 746, 13, 128, 747),
  (251, 0, 1, mX5_letters, 748, 750, 14, 128, 751),
  (269, 0, 1, mJ0_length_8abf5, 663, 664, 665, 136, 666),
  (274, 0, 2, mJ0_charAt_5068e, 673, 674, 675, 136, 676),
  (278, 0, 3, mX5_passAll, 650, 652, 4, 128, 653)]
def zmthT6 : List (Nat × Nat × Nat × zM × Nat × Nat × Nat × Nat × Nat) := [(3, 10, 0, zledM, 493, 0, 0, 0, 0),
  (38, 1, 2, mJ7_fill_53178, 1034, 1035, 0, 141, 1036),
  (64, 0, 2, mX2_isClosed, 1037, 912, 913, 129, 914),
  (70, 0, 5, mX6_goes, 1038, 1040, 40, 131, 1041),
  (80, 0, 4, mX6_dayOfLeaving, 1042, 936, 937, 131, 938),
  (84, 0, 4, mX6_findFirstDays, 1029, 1031, 39, 131, 1032),
  (96, 0, 2, mX2_isSent, 1051, 944, 945, 129, 946),
  (115, 0, 2, mX4_boxLength, 1054, 878, 879, 123, 880),
  (122, 0, 4, mX7_hearerOf, 1055, 890, 891, 130, 892),
  (136, 0, 5, mX6_firstDayAt, 1056, 1026, 1027, 131, 1028),
  (143, 11, 0, zledM, 1057, 0, 0, 0, 0),
  (155, 0, 3, mX6_dayOfBringing, 1068, 1048, 1049, 131, 1050),
  (161, 12, 0, zledM, 1136, 0, 0, 0, 0),
  (164, 0, 2, mX6_isFitting, 1145, 1147, 45, 131, 1148),
  (185, 0, 2, mX4_lastSpoutOf, 1157, 802, 803, 123, 804),
  (188, 0, 1, mX6_fittingWhales, 1166, 1142, 1143, 131, 1144),
  (192, 1, 1, mJ6_bitCount_0f7a4, 1167, 897, 0, 140, 898),
  (197, 0, 3, mX6_whalesReaching, 1168, 1170, 46, 131, 1171),
  (200, 13, 0, zledM, 1173, 0, 0, 0, 0),
  (203, 0, 3, mX6_islandsReached, 1172, 1154, 1155, 131, 1156)]
def zmthT7 : List (Nat × Nat × Nat × zM × Nat × Nat × Nat × Nat × Nat) := [(3, 10, 0, zledM, 463, 0, 0, 0, 0),
  (40, 3, 3, mX11_noteAt, 865, 866, 0, 122, 867),
  (50, 0, 2, mX7_fallIn, 857, 859, 27, 130, 860),
  (54, 0, 4, mX7_raised, 861, 863, 28, 130, 864),
  (60, 3, 2, mX11_unlikeNotes, 893, 894, 0, 122, 895),
  (67, 0, 3, mX7_apartness, 967, 956, 957, 130, 958),
  (70, 0, 3, mX7_keepSongsOf, 988, 990, 36, 130, 991),
  (73, 0, 3, mX7_isOfNotes, 993, 995, 37, 130, 996),
  (77, 0, 4, mX7_isFarFromKept, 997, 999, 38, 130, 1000),
  (81, 0, 3, mX7_songIn, 992, 854, 855, 130, 856),
  (85, 0, 1, mX7_draw, 1233, 1235, 53, 130, 1236),
  (92, 3, 4, mX11_withNote, 1238, 1239, 0, 122, 1240)]
def zmthT8 : List (Nat × Nat × Nat × zM × Nat × Nat × Nat × Nat × Nat) := [(1, 10, 0, zledM, 257, 0, 0, 0, 0)]
def zmthT9 : List (Nat × Nat × Nat × zM × Nat × Nat × Nat × Nat × Nat) := [(1, 10, 0, zledM, 173, 0, 0, 0, 0)]
def zmthT10 : List (Nat × Nat × Nat × zM × Nat × Nat × Nat × Nat × Nat) := [(1, 10, 0, zledM, 204, 0, 0, 0, 0)]
def zmthT11 : List (Nat × Nat × Nat × zM × Nat × Nat × Nat × Nat × Nat) := [(1, 10, 0, zledM, 152, 0, 0, 0, 0),
  (22, 2, 1, mX4_init, 157, 158, 0, 123, 159),
  (32, 2, 3, mX5_init, 372, 373, 0, 128, 374),
  (41, 4, 1, mX2_init, 421, 422, 0, 129, 423),
  (48, 2, 2, mX7_init, 460, 461, 0, 130, 462),
  (57, 2, 4, mX6_init, 490, 491, 0, 131, 492),
  (66, 2, 2, mX3_init, 520, 521, 0, 132, 522),
  (73, 4, 1, mX1_init, 541, 542, 0, 133, 543),
  (94, 0, 2, mX11_appendBytes, 619, 621, 0, 122, 622),
  (98, 0, 2, mX11_refused, 627, 629, 1, 122, 630),
  (102, 0, 3, mX5_readPost, 631, 632, 633, 128, 634),
  (106, 0, 1, mX11_takeDraft, 805, 807, 22, 122, 808),
  (112, 0, 2, mX11_granted, 813, 815, 23, 122, 816),
  (121, 0, 2, mX11_isWhale, 829, 831, 24, 122, 832),
  (147, 0, 2, mX11_isBox, 837, 839, 25, 122, 840),
  (174, 0, 2, mX11_isIsland, 845, 847, 26, 122, 848),
  (183, 0, 3, mX7_songIn, 853, 854, 855, 130, 856),
  (187, 1, 3, mX11_noteAt, 868, 866, 0, 122, 867),
  (191, 0, 3, mX11_isNoteOfBox, 873, 875, 29, 122, 876),
  (198, 0, 2, mX4_boxLength, 877, 878, 879, 123, 880),
  (201, 0, 3, mX11_hearerIn, 885, 887, 30, 122, 888),
  (204, 0, 3, mX11_areTwoIslands, 906, 908, 31, 122, 909),
  (207, 0, 3, mX4_wayBetween, 910, 769, 770, 123, 771),
  (210, 0, 2, mX2_isClosed, 911, 912, 913, 129, 914),
  (222, 0, 1, mX11_hasPost, 919, 921, 32, 122, 922),
  (227, 1, 2, mX11_isWithin, 924, 925, 0, 122, 926),
  (230, 0, 2, mX11_isWay, 931, 933, 33, 122, 934),
  (236, 0, 4, mX6_dayOfLeaving, 935, 936, 937, 131, 938),
  (242, 0, 2, mX2_isSent, 943, 944, 945, 129, 946),
  (245, 0, 3, mX11_sentPart, 947, 949, 34, 122, 950),
  (248, 0, 3, mX7_apartness, 955, 956, 957, 130, 958),
  (251, 0, 1, mX7_bearable, 963, 964, 965, 130, 966),
  (255, 0, 1, mX7_mixedPairs, 972, 973, 974, 130, 975),
  (258, 0, 3, mX11_refusalOfNewSong, 980, 982, 35, 122, 983),
  (261, 0, 5, mX7_findNew, 984, 985, 986, 130, 987),
  (277, 0, 4, mX7_hearerOf, 889, 890, 891, 130, 892),
  (280, 0, 5, mX6_firstDayAt, 1025, 1026, 1027, 131, 1028),
  (283, 0, 3, mX6_dayOfBringing, 1047, 1048, 1049, 131, 1050),
  (286, 0, 2, mX6_soonestBringer, 1064, 1065, 1066, 131, 1067),
  (289, 0, 3, mX6_surestBringer, 1073, 1074, 1075, 131, 1076),
  (292, 0, 3, mX6_bringersBy, 1081, 1082, 1083, 131, 1084),
  (295, 1, 2, mX11_commonDivisor, 1089, 1090, 0, 122, 1091),
  (298, 0, 1, mX11_solveMatch, 1097, 1099, 41, 122, 1100),
  (310, 0, 5, mX6_dayOfMeeting, 1132, 1133, 1134, 131, 1135),
  (313, 0, 1, mX6_fittingWhales, 1141, 1142, 1143, 131, 1144),
  (316, 0, 3, mX6_islandsReached, 1153, 1154, 1155, 131, 1156),
  (319, 0, 2, mX6_bestPier, 1162, 1163, 1164, 131, 1165),
  (325, 0, 4, mX3_fewestToWatch, 1180, 1181, 1182, 132, 1183),
  (328, 0, 3, mX3_findRound, 1193, 1194, 1195, 132, 1196),
  (338, 0, 2, mX11_heardWithSlips, 1225, 1227, 52, 122, 1228),
  (341, 0, 1, mX11_keepForUndo, 1245, 1247, 54, 122, 1248),
  (347, 0, 2, mX11_hasRefused, 1261, 1263, 55, 122, 1264),
  (353, 1, 4, mX11_withNote, 1265, 1239, 0, 122, 1240),
  (356, 0, 1, mX11_hasGranted, 1266, 1268, 56, 122, 1269),
  (359, 0, 2, mX2_copyFrom, 1249, 1250, 1251, 129, 1252),
  (391, 0, 2, mX2_begin, 809, 810, 811, 129, 812),
  (394, 12, 0, zledM, 1256, 0, 0, 0, 0),
  (399, 0, 3, mX7_slipped, 1229, 1230, 1231, 130, 1232),
  (404, 0, 3, mX1_solve, 1101, 1102, 1103, 133, 1104),
  (408, 11, 0, zledM, 1092, 0, 0, 0, 0),
  (411, 1, 1, mJ6_bitCount_0f7a4, 896, 897, 0, 140, 898)]
def zmthT12 : List (Nat × Nat × Nat × zM × Nat × Nat × Nat × Nat × Nat) := [(1, 10, 0, zledM, 1376, 0, 0, 0, 0),
  (77, 0, 2, mX12_look, 1522, 1524, 61, 134, 1525),
  (93, 1, 1, mX12_isSmall, 1526, 1527, 0, 134, 1528),
  (97, 1, 1, mX12_isDigit, 1529, 1530, 0, 134, 1531),
  (107, 0, 1, mJ0_length_8abf5, 1541, 664, 665, 136, 666),
  (113, 0, 2, mJ0_charAt_5068e, 1542, 674, 675, 136, 676),
  (117, 0, 2, mX12_isWord, 1537, 1539, 63, 134, 1540),
  (121, 0, 1, mX12_next, 1518, 1520, 60, 134, 1521),
  (124, 0, 2, mX12_takesWord, 1560, 1562, 68, 134, 1563),
  (127, 0, 3, mX12_wrong, 1547, 1549, 65, 134, 1550),
  (143, 0, 1, mX12_mustName, 1584, 1586, 73, 134, 1587),
  (146, 0, 1, mX12_find, 1592, 1594, 74, 134, 1595),
  (149, 1, 3, mX12_in, 1511, 1512, 0, 134, 1513),
  (153, 0, 3, mX12_named, 1608, 1610, 78, 134, 1611),
  (157, 0, 2, mX12_must, 1556, 1558, 67, 134, 1559),
  (161, 0, 1, mX12_islandPassed, 1604, 1606, 77, 134, 1607),
  (164, 0, 3, mX12_number, 1564, 1566, 69, 134, 1567),
  (167, 0, 1, mX12_good, 1507, 1509, 58, 134, 1510),
  (170, 0, 2, mX12_no, 1514, 1516, 59, 134, 1517),
  (173, 0, 1, mX12_readLine, 1532, 1534, 62, 134, 1535),
  (176, 1, 5, mX12_copy, 1644, 1645, 0, 134, 1646),
  (189, 0, 1, mX12_postLine, 1543, 1545, 64, 134, 1546),
  (192, 0, 3, mX12_begins, 1572, 1574, 70, 134, 1575),
  (196, 0, 1, mX12_islandLine, 1576, 1578, 71, 134, 1579),
  (199, 0, 1, mX12_wayLine, 1600, 1602, 76, 134, 1603),
  (202, 0, 1, mX12_whaleLine, 1617, 1619, 79, 134, 1620),
  (205, 0, 1, mX12_boxLine, 1632, 1634, 81, 134, 1635),
  (208, 0, 1, mX12_spoutLine, 1640, 1642, 82, 134, 1643),
  (213, 0, 4, mX12_after, 1552, 1554, 66, 134, 1555),
  (223, 0, 2, mX12_newName, 1580, 1582, 72, 134, 1583),
  (227, 0, 2, mX12_isSong, 1596, 1598, 75, 134, 1599),
  (230, 1, 4, mX12_joins, 1612, 1613, 0, 134, 1614),
  (246, 0, 2, mX12_islandBehind, 1626, 1628, 80, 134, 1629),
  (262, 0, 3, mX12_ofBox, 1675, 1677, 86, 134, 1678),
  (265, 0, 2, mX12_songLong, 1687, 1689, 88, 134, 1690),
  (268, 0, 2, mX12_isWhale, 1659, 1661, 83, 134, 1662),
  (271, 0, 3, mX12_ofWhale, 1663, 1665, 84, 134, 1666),
  (274, 0, 2, mX12_isBox, 1671, 1673, 85, 134, 1674),
  (277, 0, 2, mX12_isIsland, 1683, 1685, 87, 134, 1686),
  (280, 0, 4, mX12_noteIn, 1695, 1697, 89, 134, 1698),
  (284, 0, 2, mX12_boxLong, 1703, 1705, 90, 134, 1706),
  (287, 0, 6, mX12_unlike, 1719, 1721, 93, 134, 1722),
  (291, 0, 5, mX12_hearsIn, 1715, 1717, 92, 134, 1718),
  (295, 0, 2, mX12_heardNow, 1711, 1713, 91, 134, 1714),
  (298, 1, 2, mX12_hasBit, 1735, 1736, 0, 134, 1737),
  (302, 0, 2, mX12_isClosed, 1731, 1733, 95, 134, 1734),
  (305, 0, 3, mX12_wayOf, 1727, 1729, 94, 134, 1730),
  (308, 0, 3, mX12_nearOf, 1742, 1744, 96, 134, 1745),
  (312, 0, 3, mX12_apartOf, 1758, 1760, 97, 134, 1761),
  (318, 0, 2, mX12_power, 1782, 1784, 100, 134, 1785),
  (321, 0, 4, mX12_digitsApart, 1786, 1788, 101, 134, 1789),
  (324, 0, 3, mX12_songWhy, 1774, 1776, 98, 134, 1777),
  (327, 0, 4, mX12_newSongs, 1778, 1780, 99, 134, 1781),
  (331, 0, 3, mX12_hearsItself, 1802, 1804, 102, 134, 1805),
  (334, 0, 4, mX12_setsOut, 1818, 1820, 103, 134, 1821),
  (337, 1, 1, mX12_seasonOf, 1811, 1812, 0, 134, 1813),
  (342, 0, 4, mX12_goesBy, 1835, 1837, 106, 134, 1838),
  (346, 0, 4, mX12_dayBy, 1839, 1841, 107, 134, 1842),
  (349, 0, 4, mX12_layDays, 1830, 1832, 105, 134, 1833),
  (352, 0, 5, mX12_arrivalOf, 1826, 1828, 104, 134, 1829),
  (355, 1, 2, mX12_later, 1855, 1856, 0, 134, 1857),
  (364, 0, 3, mX12_lays, 1851, 1853, 109, 134, 1854),
  (367, 0, 3, mX12_bringsOf, 1847, 1849, 108, 134, 1850),
  (370, 0, 3, mX12_surestBut, 1866, 1868, 110, 134, 1869),
  (375, 1, 3, mX12_lowest, 1879, 1880, 0, 134, 1881),
  (385, 0, 5, mX12_tryMatch, 1890, 1892, 112, 134, 1893),
  (389, 0, 1, mX12_seekMatch, 1886, 1888, 111, 134, 1889),
  (398, 0, 2, mX12_fitsAll, 1910, 1912, 113, 134, 1913),
  (401, 0, 3, mX12_reachOf, 1918, 1920, 114, 134, 1921),
  (404, 1, 1, mX12_ones, 1930, 1931, 0, 134, 1932),
  (407, 0, 4, mX12_doLead, 1933, 1935, 115, 134, 1936),
  (413, 0, 4, mX12_tryRound, 1949, 1951, 118, 134, 1952),
  (416, 0, 1, mX12_layFar, 1945, 1947, 117, 134, 1948),
  (419, 0, 2, mX12_seekRound, 1941, 1943, 116, 134, 1944),
  (424, 0, 1, mX12_note1, 1967, 1969, 119, 134, 1970),
  (427, 0, 2, mX12_isNot, 1975, 1977, 120, 134, 1978)]
def zmthT13 : List (Nat × Nat × Nat × zM × Nat × Nat × Nat × Nat × Nat) := [(15, 2, 1, mX11_init, 149, 150, 0, 122, 151),
  (18, 2, 1, mX12_init, 1373, 1374, 0, 134, 1375),
  (19, 0, 6, mX11_feed, 615, 616, 617, 122, 618),
  (23, 0, 6, mX12_feed, 1499, 1500, 1501, 134, 1502),
  (24, 0, 2, mX11_post, 623, 624, 625, 122, 626),
  (27, 0, 2, mX12_post, 1503, 1504, 1505, 134, 1506),
  (28, 0, 1, mX11_fault, 817, 818, 819, 122, 820),
  (32, 0, 1, mX12_fault, 1647, 1648, 1649, 134, 1650),
  (33, 0, 1, mX11_where, 821, 822, 823, 122, 824),
  (36, 0, 1, mX12_where, 1651, 1652, 1653, 134, 1654),
  (37, 0, 3, mX11_whale, 825, 826, 827, 122, 828),
  (41, 0, 3, mX12_whale, 1655, 1656, 1657, 134, 1658),
  (42, 0, 3, mX11_box, 833, 834, 835, 122, 836),
  (45, 0, 3, mX12_box, 1667, 1668, 1669, 134, 1670),
  (46, 0, 2, mX11_length, 841, 842, 843, 122, 844),
  (49, 0, 2, mX12_length, 1679, 1680, 1681, 134, 1682),
  (50, 0, 3, mX11_note, 849, 850, 851, 122, 852),
  (53, 0, 3, mX12_note, 1691, 1692, 1693, 134, 1694),
  (54, 0, 3, mX11_sung, 869, 870, 871, 122, 872),
  (57, 0, 3, mX12_sung, 1699, 1700, 1701, 134, 1702),
  (58, 0, 2, mX11_heard, 881, 882, 883, 122, 884),
  (61, 0, 2, mX12_heard, 1707, 1708, 1709, 134, 1710),
  (62, 0, 3, mX11_way, 902, 903, 904, 122, 905),
  (65, 0, 3, mX12_way, 1723, 1724, 1725, 134, 1726),
  (66, 0, 2, mX11_season, 915, 916, 917, 122, 918),
  (69, 0, 2, mX12_season, 1806, 1807, 1808, 134, 1809),
  (70, 0, 4, mX11_sets, 927, 928, 929, 122, 930),
  (74, 0, 4, mX12_sets, 1814, 1815, 1816, 134, 1817),
  (75, 0, 2, mX11_sent, 939, 940, 941, 122, 942),
  (78, 0, 2, mX12_sent, 1750, 1751, 1752, 134, 1753),
  (79, 0, 3, mX11_apart, 951, 952, 953, 122, 954),
  (82, 0, 3, mX12_apart, 1754, 1755, 1756, 134, 1757),
  (83, 0, 1, mX11_bear, 959, 960, 961, 122, 962),
  (86, 0, 1, mX12_bear, 1762, 1763, 1764, 134, 1765),
  (87, 0, 1, mX11_mixed, 968, 969, 970, 122, 971),
  (90, 0, 1, mX12_mixed, 1766, 1767, 1768, 134, 1769),
  (91, 0, 3, mX11_fresh, 976, 977, 978, 122, 979),
  (94, 0, 3, mX12_fresh, 1770, 1771, 1772, 134, 1773),
  (95, 0, 3, mX11_byTurns, 1001, 1002, 1003, 122, 1004),
  (98, 0, 3, mX12_byTurns, 1790, 1791, 1792, 134, 1793),
  (99, 0, 2, mX11_near, 1005, 1006, 1007, 122, 1008),
  (102, 0, 2, mX12_near, 1738, 1739, 1740, 134, 1741),
  (103, 0, 2, mX11_asNear, 1009, 1010, 1011, 122, 1012),
  (106, 0, 2, mX12_asNear, 1746, 1747, 1748, 134, 1749),
  (107, 0, 3, mX11_heardIn, 1013, 1014, 1015, 122, 1016),
  (110, 0, 3, mX12_heardIn, 1794, 1795, 1796, 134, 1797),
  (111, 0, 2, mX11_strange, 1017, 1018, 1019, 122, 1020),
  (114, 0, 2, mX12_strange, 1798, 1799, 1800, 134, 1801),
  (115, 0, 5, mX11_arrival, 1021, 1022, 1023, 122, 1024),
  (119, 0, 5, mX12_arrival, 1822, 1823, 1824, 134, 1825),
  (120, 0, 3, mX11_brings, 1043, 1044, 1045, 122, 1046),
  (123, 0, 3, mX12_brings, 1843, 1844, 1845, 134, 1846),
  (124, 0, 2, mX11_soonest, 1060, 1061, 1062, 122, 1063),
  (127, 0, 2, mX12_soonest, 1858, 1859, 1860, 134, 1861),
  (128, 0, 2, mX11_surest, 1069, 1070, 1071, 122, 1072),
  (131, 0, 2, mX12_surest, 1862, 1863, 1864, 134, 1865),
  (132, 0, 3, mX11_by, 1077, 1078, 1079, 122, 1080),
  (135, 0, 3, mX12_by, 1870, 1871, 1872, 134, 1873),
  (136, 0, 3, mX11_registered, 1085, 1086, 1087, 122, 1088),
  (140, 0, 3, mX12_registered, 1874, 1875, 1876, 134, 1877),
  (141, 0, 1, mX11_match, 1093, 1094, 1095, 122, 1096),
  (144, 0, 1, mX12_match, 1882, 1883, 1884, 134, 1885),
  (145, 0, 1, mX11_matchDays, 1120, 1121, 1122, 122, 1123),
  (148, 0, 1, mX12_matchDays, 1894, 1895, 1896, 134, 1897),
  (149, 0, 2, mX11_matchOf, 1124, 1125, 1126, 122, 1127),
  (152, 0, 2, mX12_matchOf, 1898, 1899, 1900, 134, 1901),
  (153, 0, 5, mX11_meet, 1128, 1129, 1130, 122, 1131),
  (156, 0, 5, mX12_meet, 1902, 1903, 1904, 134, 1905),
  (157, 0, 1, mX11_fits, 1137, 1138, 1139, 122, 1140),
  (160, 0, 1, mX12_fits, 1906, 1907, 1908, 134, 1909),
  (161, 0, 3, mX11_reach, 1149, 1150, 1151, 122, 1152),
  (164, 0, 3, mX12_reach, 1914, 1915, 1916, 134, 1917),
  (165, 0, 2, mX11_pier, 1158, 1159, 1160, 122, 1161),
  (168, 0, 2, mX12_pier, 1922, 1923, 1924, 134, 1925),
  (169, 0, 3, mX11_watch, 1176, 1177, 1178, 122, 1179),
  (172, 0, 3, mX12_watch, 1926, 1927, 1928, 134, 1929),
  (173, 0, 2, mX11_round, 1189, 1190, 1191, 122, 1192),
  (176, 0, 2, mX12_round, 1937, 1938, 1939, 134, 1940),
  (177, 0, 3, mX11_roundAt, 1216, 1217, 1218, 122, 1219),
  (180, 0, 3, mX12_roundAt, 1953, 1954, 1955, 134, 1956),
  (181, 0, 3, mX11_decade, 1220, 1221, 1222, 122, 1223),
  (184, 0, 3, mX12_decade, 1957, 1958, 1959, 134, 1960),
  (185, 0, 3, mX11_send, 1241, 1242, 1243, 122, 1244),
  (188, 0, 3, mX12_send, 1963, 1964, 1965, 134, 1966),
  (189, 0, 4, mX11_tune, 1257, 1258, 1259, 122, 1260),
  (193, 0, 4, mX12_tune, 1971, 1972, 1973, 134, 1974),
  (194, 0, 2, mX11_years, 1270, 1271, 1272, 122, 1273),
  (197, 0, 2, mX12_years, 1979, 1980, 1981, 134, 1982),
  (198, 0, 3, mX11_close, 1274, 1275, 1276, 122, 1277),
  (202, 0, 3, mX12_close, 1983, 1984, 1985, 134, 1986),
  (203, 0, 1, mX11_undo, 1278, 1279, 1280, 122, 1281),
  (207, 0, 1, mX12_undo, 1987, 1988, 1989, 134, 1990),
  (208, 0, 1, mX11_image, 1282, 1283, 1284, 122, 1285),
  (211, 0, 1, mX12_image, 1991, 1992, 1993, 134, 1994),
  (212, 0, 2, mX11_back, 1286, 1287, 1288, 122, 1289),
  (216, 0, 2, mX12_back, 1995, 1996, 1997, 134, 1998),
  (217, 16, 0, zledM, 1298, 0, 0, 0, 0),
  (222, 0, 2, mX12_led, 1999, 2000, 2001, 134, 2002),
  (223, 0, 1, mX12_thrown, 1495, 1496, 1497, 134, 1498),
  (226, 0, 2, mX11_size, 1290, 1291, 1292, 122, 1293),
  (229, 0, 2, mX12_size, 2003, 2004, 2005, 134, 2006),
  (230, 0, 1, mX11_trouble, 1294, 1295, 1296, 122, 1297),
  (233, 0, 1, mX12_trouble, 2007, 2008, 2009, 134, 2010)]
def zmthT14 : List (Nat × Nat × Nat × zM × Nat × Nat × Nat × Nat × Nat) := [(335, 0, 1, mJ0_coder_7d493, 667, 668, 669, 136, 670),
  (492, 0, 1, mJ0_isLatin1_aae02, 677, 678, 679, 136, 680),
  (495, 1, 2, mJ1_charAt_3b067, 681, 682, 0, 137, 683),
  (1059, 1, 3, mJ3_checkIndex_8e157, 689, 690, 0, 138, 691)]
def zmthT15 : List (Nat × Nat × Nat × zM × Nat × Nat × Nat × Nat × Nat) := [(9, 1, 2, mJ0_checkIndex_df160, 684, 685, 0, 136, 686)]
def zmthT16 : List (Nat × Nat × Nat × zM × Nat × Nat × Nat × Nat × Nat) := []
def zmthT17 : List (Nat × Nat × Nat × zM × Nat × Nat × Nat × Nat × Nat) := []
def zmthT18 : List (Nat × Nat × Nat × zM × Nat × Nat × Nat × Nat × Nat) := []
def zmthTT : List (List (Nat × Nat × Nat × zM × Nat × Nat × Nat × Nat × Nat)) := [zmthT0, zmthT1, zmthT2, zmthT3, zmthT4, zmthT5, zmthT6, zmthT7, zmthT8, zmthT9, zmthT10, zmthT11, zmthT12, zmthT13, zmthT14, zmthT15, zmthT16, zmthT17, zmthT18]
def zmth (o k : Nat) : Option (Nat × Nat × zM) := (zlook (zmthTT.getD o []) k).map (fun q => (q.1, q.2.1, q.2.2.1))
/-- all methods, with the place of their code word -/
def zall : List (zM × Nat) := [(mX0_init, 229), (mX1_init, 543), (mX1_solve, 1104), (mX1_worth, 1109), (mX1_choose, 1115), (mX1_firstBest, 1119), (mX2_init, 423), (mX2_begin, 812), (mX2_copyFrom, 1252), (mX2_isClosed, 914), (mX2_isSent, 946), (mX3_init, 522), (mX3_fewestToWatch, 1183), (mX3_waysOutOf, 1187), (mX3_findRound, 1196), (mX3_findShortest, 1200), (mX3_findRests, 1207), (mX3_daysOver, 1211), (mX3_nextOf, 1215), (mX4_init, 159), (mX4_clear, 638), (mX4_boxLength, 880), (mX4_wayBetween, 771), (mX4_hasSong, 759), (mX4_lastSpoutOf, 804), (mX5_init, 374), (mX5_readPost, 634), (mX5_faulty, 719), (mX5_readLine, 645), (mX5_readHead, 723), (mX5_readIsland, 739), (mX5_readWay, 763), (mX5_readWhale, 777), (mX5_readBox, 792), (mX5_readSpout, 800), (mX5_word, 728), (mX5_whole, 732), (mX5_newName, 743), (mX5_toldName, 767), (mX5_nameOfToken, 747), (mX5_letters, 751), (mX5_songOfToken, 755), (mX5_kindOfToken, 781), (mX5_sortOfLine, 657), (mX5_isToken, 662), (mX5_nextToken, 649), (mX5_passAll, 653), (mX6_init, 492), (mX6_dayOfLeaving, 938), (mX6_findFirstDays, 1032), (mX6_goes, 1041), (mX6_firstDayAt, 1028), (mX6_dayOfBringing, 1050), (mX6_soonestBringer, 1067), (mX6_surestBringer, 1076), (mX6_bringersBy, 1084), (mX6_dayOfMeeting, 1135), (mX6_fittingWhales, 1144), (mX6_isFitting, 1148), (mX6_islandsReached, 1156), (mX6_bestPier, 1165), (mX6_whalesReaching, 1171), (mX7_init, 462), (mX7_fallIn, 860), (mX7_raised, 864), (mX7_songIn, 856), (mX7_hearerOf, 892), (mX7_apartness, 958), (mX7_bearable, 966), (mX7_mixedPairs, 975), (mX7_findNew, 987), (mX7_keepSongsOf, 991), (mX7_isOfNotes, 996), (mX7_isFarFromKept, 1000), (mX7_draw, 1236), (mX7_slipped, 1232), (mX8_init, 256), (mX9_init, 172), (mX10_init, 203), (mX11_init, 151), (mX11_feed, 618), (mX11_post, 626), (mX11_fault, 820), (mX11_where, 824), (mX11_whale, 828), (mX11_box, 836), (mX11_length, 844), (mX11_note, 852), (mX11_sung, 872), (mX11_heard, 884), (mX11_way, 905), (mX11_season, 918), (mX11_sets, 930), (mX11_sent, 942), (mX11_apart, 954), (mX11_bear, 962), (mX11_mixed, 971), (mX11_fresh, 979), (mX11_byTurns, 1004), (mX11_near, 1008), (mX11_asNear, 1012), (mX11_heardIn, 1016), (mX11_strange, 1020), (mX11_arrival, 1024), (mX11_brings, 1046), (mX11_soonest, 1063), (mX11_surest, 1072), (mX11_by, 1080), (mX11_registered, 1088), (mX11_match, 1096), (mX11_matchDays, 1123), (mX11_matchOf, 1127), (mX11_meet, 1131), (mX11_fits, 1140), (mX11_reach, 1152), (mX11_pier, 1161), (mX11_watch, 1179), (mX11_round, 1192), (mX11_roundAt, 1219), (mX11_decade, 1223), (mX11_send, 1244), (mX11_tune, 1260), (mX11_years, 1273), (mX11_close, 1277), (mX11_undo, 1281), (mX11_image, 1285), (mX11_back, 1289), (mX11_led, 1305), (mX11_size, 1293), (mX11_trouble, 1297), (mX11_granted, 816), (mX11_refused, 630), (mX11_hasGranted, 1269), (mX11_hasRefused, 1264), (mX11_hasPost, 922), (mX11_isIsland, 848), (mX11_areTwoIslands, 909), (mX11_isWay, 934), (mX11_isWhale, 832), (mX11_isBox, 840), (mX11_isNoteOfBox, 876), (mX11_isWithin, 926), (mX11_refusalOfNewSong, 983), (mX11_appendBytes, 622), (mX11_takeDraft, 808), (mX11_keepForUndo, 1248), (mX11_hearerIn, 888), (mX11_sentPart, 950), (mX11_heardWithSlips, 1228), (mX11_solveMatch, 1100), (mX11_commonDivisor, 1091), (mX11_noteAt, 867), (mX11_withNote, 1240), (mX11_unlikeNotes, 895), (mX12_init, 1375), (mX12_thrown, 1498), (mX12_good, 1510), (mX12_no, 1517), (mX12_isNot, 1978), (mX12_in, 1513), (mX12_hasBit, 1737), (mX12_ones, 1932), (mX12_copy, 1646), (mX12_later, 1857), (mX12_feed, 1502), (mX12_look, 1525), (mX12_isSmall, 1528), (mX12_isDigit, 1531), (mX12_next, 1521), (mX12_wrong, 1550), (mX12_isWord, 1540), (mX12_takesWord, 1563), (mX12_must, 1559), (mX12_mustName, 1587), (mX12_find, 1595), (mX12_newName, 1583), (mX12_named, 1611), (mX12_islandPassed, 1607), (mX12_islandBehind, 1629), (mX12_number, 1567), (mX12_after, 1555), (mX12_post, 1506), (mX12_begins, 1575), (mX12_readLine, 1535), (mX12_postLine, 1546), (mX12_islandLine, 1579), (mX12_isSong, 1599), (mX12_wayLine, 1603), (mX12_joins, 1614), (mX12_whaleLine, 1620), (mX12_boxLine, 1635), (mX12_spoutLine, 1643), (mX12_fault, 1650), (mX12_where, 1654), (mX12_isIsland, 1686), (mX12_isWhale, 1662), (mX12_isBox, 1674), (mX12_ofWhale, 1666), (mX12_ofBox, 1678), (mX12_songLong, 1690), (mX12_boxLong, 1706), (mX12_noteIn, 1698), (mX12_whale, 1658), (mX12_box, 1670), (mX12_length, 1682), (mX12_note, 1694), (mX12_sung, 1702), (mX12_unlike, 1722), (mX12_hearsIn, 1718), (mX12_heardNow, 1714), (mX12_heard, 1710), (mX12_isClosed, 1734), (mX12_wayOf, 1730), (mX12_way, 1726), (mX12_nearOf, 1745), (mX12_near, 1741), (mX12_asNear, 1749), (mX12_sent, 1753), (mX12_apartOf, 1761), (mX12_apart, 1757), (mX12_bear, 1765), (mX12_mixed, 1769), (mX12_power, 1785), (mX12_digitsApart, 1789), (mX12_newSongs, 1781), (mX12_songWhy, 1777), (mX12_fresh, 1773), (mX12_byTurns, 1793), (mX12_heardIn, 1797), (mX12_hearsItself, 1805), (mX12_strange, 1801), (mX12_dayBy, 1842), (mX12_setsOut, 1821), (mX12_seasonOf, 1813), (mX12_season, 1809), (mX12_sets, 1817), (mX12_layDays, 1833), (mX12_goesBy, 1838), (mX12_arrivalOf, 1829), (mX12_arrival, 1825), (mX12_lays, 1854), (mX12_bringsOf, 1850), (mX12_brings, 1846), (mX12_soonest, 1861), (mX12_surestBut, 1869), (mX12_surest, 1865), (mX12_by, 1873), (mX12_lowest, 1881), (mX12_registered, 1877), (mX12_tryMatch, 1893), (mX12_seekMatch, 1889), (mX12_match, 1885), (mX12_matchDays, 1897), (mX12_matchOf, 1901), (mX12_meet, 1905), (mX12_fitsAll, 1913), (mX12_fits, 1909), (mX12_reachOf, 1921), (mX12_reach, 1917), (mX12_pier, 1925), (mX12_doLead, 1936), (mX12_watch, 1929), (mX12_layFar, 1948), (mX12_tryRound, 1952), (mX12_seekRound, 1944), (mX12_round, 1940), (mX12_roundAt, 1956), (mX12_decade, 1960), (mX12_note1, 1970), (mX12_send, 1966), (mX12_tune, 1974), (mX12_years, 1982), (mX12_close, 1986), (mX12_undo, 1990), (mX12_image, 1994), (mX12_back, 1998), (mX12_led, 2002), (mX12_size, 2006), (mX12_trouble, 2010), (mJ0_length_8abf5, 666), (mJ0_charAt_5068e, 676), (mJ0_coder_7d493, 670), (mJ0_isLatin1_aae02, 680), (mJ0_checkIndex_df160, 686), (mJ1_charAt_3b067, 683), (mJ3_checkIndex_8e157, 691), (mJ7_fill_53178, 1036), (mJ6_bitCount_0f7a4, 898)]
/-- the nest mates' links: class, pool number, method, host, place -/
def znm : List (Nat × Nat × zM × String × Nat) := [(4, 42, mX9_init, "WhalePost", 170), (4, 43, mX10_init, "WhalePost", 201), (4, 44, mX0_init, "WhalePost", 227), (4, 45, mX8_init, "WhalePost", 254), (11, 41, mX2_init, "WhalePost", 421), (11, 73, mX1_init, "WhalePost", 541), (7, 40, mX11_noteAt, "WhalePost", 865), (7, 60, mX11_unlikeNotes, "WhalePost", 893), (7, 92, mX11_withNote, "WhalePost", 1238)]
/-- the texts: class, pool number, text, special number, place -/
def zsr : List (Nat × Nat × String × Nat × Nat) := [(5, 263, "post", 1000010, 658), (5, 264, "island", 1000011, 711), (5, 265, "way", 1000012, 712), (5, 266, "whale", 1000013, 713), (5, 267, "box", 1000014, 714), (5, 268, "spout", 1000015, 715), (5, 137, "notes", 1000016, 724), (5, 146, "errors", 1000017, 733), (5, 150, "drift", 1000018, 734), (5, 154, "slip", 1000019, 735), (5, 187, "days", 1000020, 772), (5, 191, "open", 1000021, 773), (5, 255, "calf", 1000022, 782), (5, 257, "cow", 1000023, 783), (5, 259, "bull", 1000024, 784), (5, 261, "old", 1000025, 785), (5, 203, "at", 1000026, 786), (5, 207, "keeps", 1000027, 787), (5, 211, "lost", 1000028, 788), (5, 215, "from", 1000029, 793), (5, 221, "to", 1000030, 794), (5, 225, "weighs", 1000031, 795), (5, 229, "day", 1000032, 796), (11, 365, "no such box is left", 1000033, 1345), (12, 131, "post", 1000010, 1536), (12, 211, "notes", 1000016, 1551), (12, 217, "errors", 1000017, 1568), (12, 219, "drift", 1000018, 1569), (12, 221, "slip", 1000019, 1570), (12, 133, "island", 1000011, 1571), (12, 135, "way", 1000012, 1588), (12, 137, "whale", 1000013, 1589), (12, 139, "box", 1000014, 1590), (12, 141, "spout", 1000015, 1591), (12, 234, "days", 1000020, 1615), (12, 235, "open", 1000021, 1616), (12, 237, "calf", 1000022, 1621), (12, 239, "cow", 1000023, 1622), (12, 241, "bull", 1000024, 1623), (12, 243, "old", 1000025, 1624), (12, 245, "at", 1000026, 1625), (12, 250, "keeps", 1000027, 1630), (12, 252, "lost", 1000028, 1631), (12, 254, "from", 1000029, 1636), (12, 256, "to", 1000030, 1637), (12, 258, "weighs", 1000031, 1638), (12, 260, "day", 1000032, 1639)]
end
section
/-! THE SMALL MACHINE: values, heaps, one step, runs. Its tables (zfld, zcst, zmth, zcls, zsta, znf) stand ahead. -/
/-- the heap: kinds and lengths of the cells; ints, longs, references by cell and place; how often led has thrown -/
abbrev zH : Type := List (Nat × Nat) × (Nat → Nat → Int32) × (Nat → Nat → Int64) × (Nat → Nat → Option Nat) × Nat
abbrev zL : Type := List (Nat × zV)
def zup {α : Type} (f : Nat → Nat → α) (a k : Nat) (v : α) : Nat → Nat → α := fun b j => if b = a then (if j = k then v else f b j) else f b j
def zrow {α : Type} (f : Nat → Nat → α) (a : Nat) (g : Nat → α) : Nat → Nat → α := fun b j => if b = a then g j else f b j
def zsI (h : zH) (a k : Nat) (v : Int32) : zH := (h.1, zup h.2.1 a k v, h.2.2.1, h.2.2.2.1, h.2.2.2.2)
def zsL (h : zH) (a k : Nat) (v : Int64) : zH := (h.1, h.2.1, zup h.2.2.1 a k v, h.2.2.2.1, h.2.2.2.2)
def zsR (h : zH) (a k : Nat) (v : Option Nat) : zH := (h.1, h.2.1, h.2.2.1, zup h.2.2.2.1 a k v, h.2.2.2.2)
def zsRow (h : zH) (a : Nat) (g : Nat → Int32) : zH := (h.1, zrow h.2.1 a g, h.2.2.1, h.2.2.2.1, h.2.2.2.2)
/-- a new cell: all zero, all null -/
def znew (h : zH) (kind len : Nat) : zH := (h.1 ++ [(kind, len)], zrow h.2.1 h.1.length (fun _ => 0), zrow h.2.2.1 h.1.length (fun _ => 0), zrow h.2.2.2.1 h.1.length (fun _ => none), h.2.2.2.2)
def zthr (h : zH) : zH := (h.1, h.2.1, h.2.2.1, h.2.2.2.1, h.2.2.2.2 + 1)
def zcat (v : zV) : Nat := match v with
  | .inr (.inl _) => 2
  | _ => 1
def zget (ls : zL) (i : Nat) : Option zV := match ls with
  | [] => none
  | q :: t => if q.1 = i then some q.2 else zget t i
def zset1 (ls : zL) (i : Nat) (v : zV) : zL := (i, v) :: ls.filter (fun q => !(q.1 == i) && !(q.1 + 1 == i && zcat q.2 == 2))
def zset2 (ls : zL) (i : Nat) (v : zV) : zL := (i, v) :: ls.filter (fun q => !(q.1 == i) && (!(q.1 == i + 1) && !(q.1 + 1 == i && zcat q.2 == 2)))
def zargs : Nat → List zV → zL
  | _, [] => []
  | i, v :: vs => (i, v) :: zargs (if zcat v = 2 then i + 2 else i + 1) vs
def zwd (vs : List zV) : Nat := (vs.map zcat).sum
def zcond (c : ClassFile.Cond) (x y : Int32) : Bool := match c with
  | .eq => decide (x = y)
  | .ne => decide (¬ x = y)
  | .lt => decide (x < y)
  | .ge => decide (y ≤ x)
  | .gt => decide (y < x)
  | .le => decide (x ≤ y)
abbrev zC : Type := Nat × zL × List zV × zH
abbrev zR : Type := Option zV × zH
/-- on by len, with this stack -/
abbrev zgo (pc : Nat) (ls : zL) (st : List zV) (h : zH) : Option (zC ⊕ zR) := some (.inl (pc, ls, st, h))
def zjump (pc : Nat) (off : Int) (ls : zL) (st : List zV) (h : zH) : Option (zC ⊕ zR) := if 0 ≤ (pc : Int) + off then zgo ((pc : Int) + off).toNat ls st h else none
/-- a branch: to pc + off, or on -/
def zbr (b : Bool) (pc len : Nat) (off : Int) (ls : zL) (st : List zV) (h : zH) : Option (zC ⊕ zR) := if 0 ≤ (pc : Int) + off then (if b then zgo ((pc : Int) + off).toNat ls st h else zgo (pc + len) ls st h) else none
/-- the place in an array of n -/
def zin (i : Int32) (n : Nat) : Bool := decide (¬ (i < 0 ∨ n ≤ i.toNatClampNeg))
def zld (scr : Option (Nat × (Nat → Int32))) (h : zH) (kind a : Nat) (i : Int32) : Option Int32 := match h.1[a]? with
  | some (k, n) => if k = kind then (if zin i n then some (h.2.1 a i.toNatClampNeg) else none) else none
  | none => if kind = 14 ∧ a = 1000000 then (match scr with
    | some (n, xs) => if zin i n then some (xs i.toNatClampNeg) else none
    | none => none) else none
def zst (h : zH) (kind a : Nat) (i : Int32) (v : Int32) : Option zH := match h.1[a]? with
  | some (k, n) => if k = kind then (if zin i n then some (zsI h a i.toNatClampNeg v) else none) else none
  | none => none
def zlen (scr : Option (Nat × (Nat → Int32))) (h : zH) (a : Nat) : Option Int32 := match h.1[a]? with
  | some (k, n) => if 13 ≤ k then some (Int32.ofNat n) else none
  | none => if a = 1000000 then scr.map (fun q => Int32.ofNat q.1) else none
def zfv (h : zH) (ci a f : Nat) : zV := if (zft ci).getD f 0 = 3 then .inr (.inr (h.2.2.2.1 a f)) else .inl (h.2.1 a f)
/-- a field's store: an int, a boolean (0, 1), a reference -/
def zput (h : zH) (ci a f : Nat) (v : zV) : Option zH := match v with
  | .inl x => if (zft ci).getD f 9 = 0 ∨ ((zft ci).getD f 9 = 1 ∧ (x = 0 ∨ x = 1)) then some (zsI h a f x) else none
  | .inr (.inr r) => if (zft ci).getD f 9 = 3 then some (zsR h a f r) else none
  | _ => none
def zbin (i : Instr) (x y : Int32) : Option Int32 := match i with
  | .iadd => some (x + y)
  | .isub => some (x - y)
  | .imul => some (x * y)
  | .iand => some (x &&& y)
  | .ior => some (x ||| y)
  | .ixor => some (x ^^^ y)
  | .ishl => some (x <<< (y &&& 31))
  | .ishr => some (x >>> (y &&& 31))
  | .iushr => some (x.toUInt32 >>> (y.toUInt32 &&& Int32.toUInt32 31)).toInt32
  | .idiv => if y = 0 then none else some (x / y)
  | .irem => if y = 0 then none else some (x - x / y * y)
  | _ => none
def zun (i : Instr) (x : Int32) : Option zV := match i with
  | .ineg => some (.inl (-x))
  | .i2b => some (.inl x.toInt8.toInt32)
  | .i2c => some (.inl (x.toUInt32 % 65536).toInt32)
  | .i2l => some (.inr (.inl x.toInt64))
  | _ => none
def zlbin (i : Instr) (x y : Int64) : Option zV := match i with
  | .lor => some (.inr (.inl (x ||| y)))
  | .lcmp => some (.inl (lg_cmp x y))
  | .ldiv => if y = 0 then none else some (.inr (.inl (x / y)))
  | .lrem => if y = 0 then none else some (.inr (.inl (x - x / y * y)))
  | _ => none
def zldv (m : zM) (k len pc : Nat) (ls : zL) (st : List zV) (h : zH) : Option (zC ⊕ zR) := match zcst m.2.1 k with
  | some v => zgo (pc + len) ls (v :: st) h
  | none => none
/-- load, of a sort: 0 int, 1 long, 2 reference -/
def zload (so i len pc : Nat) (ls : zL) (st : List zV) (h : zH) : Option (zC ⊕ zR) := match zget ls i with
  | some (.inl x) => if so = 0 then zgo (pc + len) ls (.inl x :: st) h else none
  | some (.inr (.inl x)) => if so = 1 then zgo (pc + len) ls (.inr (.inl x) :: st) h else none
  | some (.inr (.inr (some a))) => if so = 2 then zgo (pc + len) ls (.inr (.inr (some a)) :: st) h else none
  | _ => none
def zstore (m : zM) (so i len pc : Nat) (ls : zL) (st : List zV) (h : zH) : Option (zC ⊕ zR) := match st with
  | .inl x :: st => if so = 0 ∧ i < m.2.2.1 then zgo (pc + len) (zset1 ls i (.inl x)) st h else none
  | .inr (.inl x) :: st => if so = 1 ∧ i + 1 < m.2.2.1 then zgo (pc + len) (zset2 ls i (.inr (.inl x))) st h else none
  | .inr (.inr (some a)) :: st => if so = 2 ∧ i < m.2.2.1 then zgo (pc + len) (zset1 ls i (.inr (.inr (some a)))) st h else none
  | _ => none
/-- a call by the tables: kind 0 virtual, 1 static, 2 constructor, 3 static of a nest mate, 4 constructor of a nest mate -/
def zcall (call : zM → List zV → zH → Option zR) (cm : zM) (kd na pc : Nat) (ls : zL) (st : List zV) (h : zH) : Option (zC ⊕ zR) :=
  if na ≤ st.length ∧ zwd (st.drop na) ≤ 8 then
    (if kd = 1 ∨ kd = 3 then (match call cm (st.take na).reverse h with
      | some (r, h') => zgo (pc + 3) ls (r.toList ++ st.drop na) h'
      | none => none)
    else match (st.take na).reverse with
      | .inr (.inr (some a)) :: vs => (match h.1[a]? with
        | some (k, _) => if k = cm.2.1 then (match call cm (.inr (.inr (some a)) :: vs) h with
          | some (r, h') => zgo (pc + 3) ls (r.toList ++ st.drop na) h'
          | none => none) else none
        | none => none)
      | _ => none)
  else none
/-- System.arraycopy between int arrays -/
def zcopy (pc : Nat) (ls : zL) (st : List zV) (h : zH) : Option (zC ⊕ zR) := match st with
  | .inl n :: .inl dp :: .inr (.inr (some a)) :: .inl sp :: .inr (.inr (some b)) :: st => (match h.1[b]?, h.1[a]? with
    | some (k0, n0), some (k1, n1) => if k0 = 14 ∧ k1 = 14 ∧ ¬ sp < 0 ∧ ¬ dp < 0 ∧ ¬ n < 0 ∧ sp.toNatClampNeg + n.toNatClampNeg ≤ n0 ∧ dp.toNatClampNeg + n.toNatClampNeg ≤ n1 ∧ zwd st ≤ 8 then
        zgo (pc + 3) ls st (zsRow h a (va_cpy (h.2.1 b) (h.2.1 a) sp.toNatClampNeg dp.toNatClampNeg n.toNatClampNeg)) else none
    | _, _ => none)
  | _ => none
def zprim (deep : Bool) (kd pc : Nat) (ls : zL) (st : List zV) (h : zH) : Option (zC ⊕ zR) := if deep then
    (if kd = 10 then (match st with
      | .inr (.inr (some _)) :: st => if zwd st ≤ 8 then zgo (pc + 3) ls st h else none
      | _ => none)
    else if kd = 11 then (match st with
      | .inl y :: .inl x :: st => if zwd st ≤ 8 then zgo (pc + 3) ls (.inl (if x < y then y else x) :: st) h else none
      | _ => none)
    else if kd = 12 then (match st with
      | .inl y :: .inl x :: st => if zwd st ≤ 8 then zgo (pc + 3) ls (.inl (if y < x then y else x) :: st) h else none
      | _ => none)
    else if kd = 13 then (match st with
      | .inl x :: st => if zwd st ≤ 8 then zgo (pc + 3) ls (.inl (if 0 ≤ x then x else 0 - x) :: st) h else none
      | _ => none)
    else if kd = 14 then zcopy pc ls st h
    else none) else none
/-- the law's own led: what x.led answers goes into out[0], and 0; a throw is 1 -/
def zled (call : zM → List zV → zH → Option zR) (pc : Nat) (ls : zL) (st : List zV) (h : zH) : Option (zC ⊕ zR) := match st with
  | .inr (.inr (some o)) :: .inl p0 :: .inr (.inr (some a)) :: st => if zwd st ≤ 8 ∧ h.1[a]? = some (11, 16) ∧ h.1[o]? = some (15, 1) ∧ h.2.2.2.2 < 1000 then
      (match call zledM [.inr (.inr (some a)), .inl p0] h with
      | some (some (.inl b), h') => zgo (pc + 3) ls (.inl 0 :: st) (zsL h' o 0 b.toInt64)
      | some (some (.inr (.inl _)), h') => zgo (pc + 3) ls (.inl 1 :: st) h'
      | _ => none) else none
  | _ => none
def zexec (scr : Option (Nat × (Nat → Int32))) (call : zM → List zV → zH → Option zR) (deep : Bool) (m : zM) (i : Instr) (len pc : Nat) (ls : zL) (st : List zV) (h : zH) : Option (zC ⊕ zR) := match i with
  | .iconst n => zgo (pc + len) ls (.inl (Int32.ofInt n) :: st) h
  | .bipush n => zgo (pc + len) ls (.inl (Int8.ofInt n).toInt32 :: st) h
  | .sipush n => zgo (pc + len) ls (.inl (Int16.ofInt n).toInt32 :: st) h
  | .lconst n => zgo (pc + len) ls (.inr (.inl (Int64.ofNat (n : Nat))) :: st) h
  | .ldc k => zldv m k len pc ls st h
  | .ldc_w k => zldv m k len pc ls st h
  | .ldc2_w k => zldv m k len pc ls st h
  | .iload k => zload 0 k len pc ls st h
  | .iload_n k => zload 0 k len pc ls st h
  | .lload k => zload 1 k len pc ls st h
  | .lload_n k => zload 1 k len pc ls st h
  | .aload k => zload 2 k len pc ls st h
  | .aload_n k => zload 2 k len pc ls st h
  | .istore k => zstore m 0 k len pc ls st h
  | .istore_n k => zstore m 0 k len pc ls st h
  | .lstore k => zstore m 1 k len pc ls st h
  | .lstore_n k => zstore m 1 k len pc ls st h
  | .astore k => zstore m 2 k len pc ls st h
  | .astore_n k => zstore m 2 k len pc ls st h
  | .iinc k n => (match zget ls k with
    | some (.inl x) => if k < m.2.2.1 then zgo (pc + len) (zset1 ls k (.inl (x + Int32.ofInt n))) st h else none
    | _ => none)
  | .lshl => (match st with
    | .inl y :: .inr (.inl x) :: st => zgo (pc + len) ls (.inr (.inl (x <<< (y.toInt64 &&& 63))) :: st) h
    | _ => none)
  | .ifCond c off => (match st with
    | .inl x :: st => zbr (zcond c x 0) pc len off ls st h
    | _ => none)
  | .if_icmp c off => (match st with
    | .inl y :: .inl x :: st => zbr (zcond c x y) pc len off ls st h
    | _ => none)
  | .goto off => zjump pc off ls st h
  | .tableswitch d lo hi offs => (match st with
    | .inl x :: st => if x.toInt < lo ∨ hi < x.toInt then zjump pc d ls st h else (match offs[(x.toInt - lo).toNat]? with
      | some off => zjump pc off ls st h
      | none => none)
    | _ => none)
  | .getfield k => (match st with
    | .inr (.inr (some a)) :: st => (match zfld m.2.1 k, h.1[a]? with
      | some (ci, f), some (kd, _) => if kd = ci then zgo (pc + len) ls (zfv h ci a f :: st) h else none
      | _, _ => none)
    | _ => none)
  | .putfield k => (match st with
    | v :: .inr (.inr (some a)) :: st => (match zfld m.2.1 k, h.1[a]? with
      | some (ci, f), some (kd, _) => if kd = ci ∧ (zfin ci f = false ∨ (m.2.2.2.2.2 = true ∧ m.2.1 = ci)) then (match zput h ci a f v with
        | some h' => zgo (pc + len) ls st h'
        | none => none) else none
      | _, _ => none)
    | _ => none)
  | .iaload => (match st with
    | .inl i :: .inr (.inr (some a)) :: st => (match zld scr h 14 a i with
      | some v => zgo (pc + len) ls (.inl v :: st) h
      | none => none)
    | _ => none)
  | .baload => (match st with
    | .inl i :: .inr (.inr (some a)) :: st => (match zld scr h 13 a i with
      | some v => zgo (pc + len) ls (.inl v :: st) h
      | none => none)
    | _ => none)
  | .laload => (match st with
    | .inl i :: .inr (.inr (some a)) :: st => (match h.1[a]? with
      | some (k, n) => if k = 15 ∧ zin i n = true then zgo (pc + len) ls (.inr (.inl (h.2.2.1 a i.toNatClampNeg)) :: st) h else none
      | none => none)
    | _ => none)
  | .aaload => (match st with
    | .inl i :: .inr (.inr (some a)) :: st => (match h.1[a]? with
      | some (k, n) => if 16 ≤ k ∧ k ≤ 20 ∧ zin i n = true then zgo (pc + len) ls (.inr (.inr (h.2.2.2.1 a i.toNatClampNeg)) :: st) h else none
      | none => none)
    | _ => none)
  | .iastore => (match st with
    | .inl v :: .inl i :: .inr (.inr (some a)) :: st => (match zst h 14 a i v with
      | some h' => zgo (pc + len) ls st h'
      | none => none)
    | _ => none)
  | .bastore => (match st with
    | .inl v :: .inl i :: .inr (.inr (some a)) :: st => (match zst h 13 a i (vp_nar .byte v) with
      | some h' => zgo (pc + len) ls st h'
      | none => none)
    | _ => none)
  | .lastore => (match st with
    | .inr (.inl v) :: .inl i :: .inr (.inr (some a)) :: st => (match h.1[a]? with
      | some (k, n) => if k = 15 ∧ zin i n = true then zgo (pc + len) ls st (zsL h a i.toNatClampNeg v) else none
      | none => none)
    | _ => none)
  | .aastore => (match st with
    | .inr (.inr (some v)) :: .inl i :: .inr (.inr (some a)) :: st => (match h.1[a]?, h.1[v]? with
      | some (k, n), some (kv, _) => if 16 ≤ k ∧ k ≤ 20 ∧ zin i n = true ∧ zrc k = kv then zgo (pc + len) ls st (zsR h a i.toNatClampNeg (some v)) else none
      | _, _ => none)
    | _ => none)
  | .arraylength => (match st with
    | .inr (.inr (some a)) :: st => (match zlen scr h a with
      | some v => zgo (pc + len) ls (.inl v :: st) h
      | none => none)
    | _ => none)
  | .new k => (match zcls m.2.1 k with
    | some ci => if ci < 13 then (if h.2.2.2.2 = 0 ∧ h.1.length < 900000 then zgo (pc + len) ls (.inr (.inr (some h.1.length)) :: st) (znew h ci (zft ci).length) else none) else (if st = [] then some (.inr (some (.inr (.inl (-1))), zthr h)) else none)
    | none => none)
  | .newarray t => (match st with
    | .inl n :: st => if h.2.2.2.2 = 0 ∧ h.1.length < 900000 ∧ ¬ n < 0 ∧ n.toNatClampNeg ≤ 100000 then (match t with
      | .byte => zgo (pc + len) ls (.inr (.inr (some h.1.length)) :: st) (znew h 13 n.toNatClampNeg)
      | .int => zgo (pc + len) ls (.inr (.inr (some h.1.length)) :: st) (znew h 14 n.toNatClampNeg)
      | .long => zgo (pc + len) ls (.inr (.inr (some h.1.length)) :: st) (znew h 15 n.toNatClampNeg)
      | _ => none) else none
    | _ => none)
  | .anewarray k => (match st with
    | .inl n :: st => if h.2.2.2.2 = 0 ∧ h.1.length < 900000 ∧ ¬ n < 0 ∧ n.toNatClampNeg ≤ 100000 then (match zcls m.2.1 k with
      | some ci => if 16 ≤ zak ci ∧ zak ci ≤ 20 then zgo (pc + len) ls (.inr (.inr (some h.1.length)) :: st) (znew h (zak ci) n.toNatClampNeg) else none
      | none => none) else none
    | _ => none)
  | .dup => (match st with
    | v :: st => if zcat v = 1 then zgo (pc + len) ls (v :: v :: st) h else none
    | _ => none)
  | .dup2 => (match st with
    | v :: w :: st => if zcat v = 1 ∧ zcat w = 1 then zgo (pc + len) ls (v :: w :: v :: w :: st) h else none
    | _ => none)
  | .pop => (match st with
    | v :: st => if zcat v = 1 then zgo (pc + len) ls st h else none
    | _ => none)
  | .pop2 => (match st with
    | v :: st => if zcat v = 2 then zgo (pc + len) ls st h else none
    | _ => none)
  | .invokevirtual k => (match zmth m.2.1 k with
    | some (kd, na, cm) => if kd = 0 then zcall call cm kd na pc ls st h else none
    | none => none)
  | .invokestatic k => (match zmth m.2.1 k with
    | some (kd, na, cm) => if kd = 1 ∨ kd = 3 then zcall call cm kd na pc ls st h else if kd = 16 then (if scr.isSome = true ∧ deep = true then zled call pc ls st h else none) else if kd = 10 then none else zprim deep kd pc ls st h
    | none => none)
  | .invokespecial k => (match zmth m.2.1 k with
    | some (kd, na, cm) => if kd = 2 ∨ kd = 4 then zcall call cm kd na pc ls st h else if kd = 10 then zprim deep kd pc ls st h else none
    | none => none)
  | .ireturn => (match st, m.2.2.2.1 with
    | [.inl x], some ty => if narrow ty (.int x) = .int x then some (.inr (some (.inl x), h)) else none
    | _, _ => none)
  | .lreturn => (match st, m.2.2.2.1 with
    | [.inr (.inl x)], some .long => some (.inr (some (.inr (.inl x)), h))
    | _, _ => none)
  | .return_ => (match st, m.2.2.2.1 with
    | [], none => some (.inr (none, h))
    | _, _ => none)
  | i => (match st with
    | .inl y :: .inl x :: st' => (match zbin i x y with
      | some v => zgo (pc + len) ls (.inl v :: st') h
      | none => (match zun i y with
        | some v => zgo (pc + len) ls (v :: .inl x :: st') h
        | none => none))
    | .inl x :: st' => (match zun i x with
      | some v => zgo (pc + len) ls (v :: st') h
      | none => none)
    | .inr (.inl y) :: .inr (.inl x) :: st' => (match zlbin i x y with
      | some v => zgo (pc + len) ls (v :: st') h
      | none => none)
    | _ => none)
/-- how long an instruction is (0: not asked) -/
def zilen (i : Instr) : Nat := match i with
  | .bipush _ => 2
  | .iload _ => 2
  | .lload _ => 2
  | .aload _ => 2
  | .istore _ => 2
  | .lstore _ => 2
  | .astore _ => 2
  | .ldc _ => 2
  | .newarray _ => 2
  | .sipush _ => 3
  | .ldc_w _ => 3
  | .ldc2_w _ => 3
  | .iinc _ _ => 3
  | .ifCond _ _ => 3
  | .if_icmp _ _ => 3
  | .goto _ => 3
  | .getfield _ => 3
  | .putfield _ => 3
  | .invokevirtual _ => 3
  | .invokestatic _ => 3
  | .invokespecial _ => 3
  | .new _ => 3
  | .anewarray _ => 3
  | .tableswitch _ _ _ _ => 0
  | _ => 1
def zstep (scr : Option (Nat × (Nat → Int32))) (call : zM → List zV → zH → Option zR) (deep : Bool) (m : zM) (c : zC) : Option (zC ⊕ zR) := match decode m.1 c.1 with
  | .ok (i, len) => if zilen i = 0 ∨ len = zilen i then zexec scr call deep m i len c.1 c.2.1 c.2.2.1 c.2.2.2 else none
  | .error _ => none
def zrun : Nat → Option (Nat × (Nat → Int32)) → Nat → zM → zC → Option zR
  | 0, _, _, _, _ => none
  | n + 1, scr, d, m, c => (match zstep scr (fun k vs h => (match d with
      | 0 => none
      | d' + 1 => zrun n none d' k (0, zargs 0 vs, [], h))) (decide (0 < d)) m c with
    | some (.inl c') => zrun n scr d m c'
    | some (.inr r) => some r
    | none => none)
end
section
/-! THE SMALL MACHINE OVER THE LARGE ONE: the world of a small heap -/
def zad (B : Nat) (sp : Nat → Nat) (a : Nat) : Nat := if a < 1000000 then B + a else sp a
def zcv (B : Nat) (sp : Nat → Nat) (v : zV) : Value := match v with
  | .inl x => .int x
  | .inr (.inl x) => .long x
  | .inr (.inr r) => va_rf (r.map (zad B sp))
def zE (B : Nat) (sp : Nat → Nat) (cA : Nat → ClassId) (h : zH) (a kind len : Nat) : va_E :=
  if kind < 13 then .inr (kind, (List.range (zft kind).length).map (fun f => zcv B sp (zfv h kind a f)))
  else if kind < 15 then .inl (cA kind, len, .inl (h.2.1 a))
  else if kind = 15 then .inl (cA kind, len, .inr (.inl (h.2.2.1 a)))
  else .inl (cA kind, len, .inr (.inr (.inr (.inr (fun k => (h.2.2.2.1 a k).map (zad B sp))))))
def zW (B : Nat) (sp : Nat → Nat) (cA : Nat → ClassId) (h : zH) : va_W := h.1.mapIdx (fun a q => (B + a, zE B sp cA h a q.1 q.2))
def zAr (B : Nat) : Nat → Prop := fun q => B ≤ q
def zok (h : zH) : Prop := h.1.length ≤ 900000 ∧ ∀ (a : Nat) (q : Nat × Nat), h.1[a]? = some q → q.1 ≤ 20
def ztys (cA : Nat → ClassId) : List (ClassId × FieldType) := [(cA 13, .byte), (cA 14, .int), (cA 15, .long), (cA 16, .object RX0), (cA 17, .object RX2), (cA 18, .object RX8), (cA 19, .object RX9), (cA 20, .object RX10)]
def zRel (B : Nat) (sp : Nat → Nat) (cA : Nat → ClassId) (D : va_G) (h : zH) (H : Heap) : Prop := va_P D vwCl (zW B sp cA h) H ∧ zok h ∧ (h.2.2.2.2 = 0 → H.size = B + h.1.length)
section ZW
variable {B : Nat} {sp : Nat → Nat} {cA : Nat → ClassId} {D : va_G} {h h' : zH} {H : Heap}
theorem zW_get {a : Nat} {q : Nat × Nat} (hq : h.1[a]? = some q) : (zW B sp cA h)[a]? = some (B + a, zE B sp cA h a q.1 q.2) := by
  simp [zW, List.getElem?_mapIdx, hq]
theorem zW_some {a : Nat} {x : Nat × va_E} (hq : (zW B sp cA h)[a]? = some x) : ∃ q : Nat × Nat, h.1[a]? = some q ∧ x = (B + a, zE B sp cA h a q.1 q.2) := by
  simp only [zW, List.getElem?_mapIdx, Option.map_eq_some_iff] at hq
  obtain ⟨q, h1, h2⟩ := hq
  exact ⟨q, h1, h2.symm⟩
theorem zW_len : (zW B sp cA h).length = h.1.length := by simp [zW]
theorem zW_D : va_D (zAr B) (zW B sp cA h) := by
  refine ⟨fun i j x y hi hj hxy => ?_, fun k q hk => ?_⟩
  · obtain ⟨q1, -, rfl⟩ := zW_some hi
    obtain ⟨q2, -, rfl⟩ := zW_some hj
    have : B + i = B + j := hxy
    omega
  · obtain ⟨q1, -, rfl⟩ := zW_some hk
    exact Nat.le_add_right B k
/-- one cell has changed -/
theorem zW_set {a k n : Nat} (hq : h.1[a]? = some (k, n)) (h1 : h'.1 = h.1) (ho : ∀ b, b ≠ a → ∀ k n, zE B sp cA h' b k n = zE B sp cA h b k n) : zW B sp cA h' = (zW B sp cA h).set a (B + a, zE B sp cA h' a k n) := by
  refine List.ext_getElem? fun i => ?_
  by_cases hi : i = a
  · subst hi
    rw [zW_get (q := (k, n)) (by rw [h1]; exact hq), List.getElem?_set_self (by rw [zW_len]; exact (List.getElem?_eq_some_iff.mp hq).1)]
  · rw [List.getElem?_set_ne (Ne.symm hi)]
    simp only [zW, List.getElem?_mapIdx, h1]
    cases h.1[i]? with
    | none => rfl
    | some q => simp [ho i hi q.1 q.2]
/-- one cell more -/
theorem zW_new {k n : Nat} (h1 : h'.1 = h.1 ++ [(k, n)]) (ho : ∀ b, b < h.1.length → ∀ k n, zE B sp cA h' b k n = zE B sp cA h b k n) : zW B sp cA h' = zW B sp cA h ++ [(B + h.1.length, zE B sp cA h' h.1.length k n)] := by
  refine List.ext_getElem? fun i => ?_
  by_cases hi : i < h.1.length
  · rw [List.getElem?_append_left (by rw [zW_len]; exact hi)]
    simp only [zW, List.getElem?_mapIdx, h1, List.getElem?_append_left hi]
    cases h.1[i]? with
    | none => rfl
    | some q => simp [ho i hi q.1 q.2]
  · rw [List.getElem?_append_right (by rw [zW_len]; omega), zW_len]
    simp only [zW, List.getElem?_mapIdx, h1]
    rw [List.getElem?_append_right (by omega)]
    by_cases he : i - h.1.length = 0
    · have : i = h.1.length := by omega
      subst this
      simp
    · cases hx : i - h.1.length with
      | zero => exact absurd hx he
      | succ j => simp
theorem zfv_I {b a k ci f : Nat} {v : Int32} (hb : b ≠ a) : zfv (zsI h a k v) ci b f = zfv h ci b f := by simp [zfv, zsI, zup, hb]
theorem zE_sI {b a k kd n : Nat} {v : Int32} (hb : b ≠ a) : zE B sp cA (zsI h a k v) b kd n = zE B sp cA h b kd n := by
  have e : (fun j => (zsI h a k v).2.1 b j) = (fun j => h.2.1 b j) := by funext j; simp [zsI, zup, hb]
  have e2 : (zsI h a k v).2.1 b = h.2.1 b := e
  unfold zE
  simp only [zfv_I hb, e2]
  rfl
theorem zE_sR {b a k kd n : Nat} {v : Option Nat} (hb : b ≠ a) : zE B sp cA (zsR h a k v) b kd n = zE B sp cA h b kd n := by
  have e : ∀ j, (zsR h a k v).2.2.2.1 b j = h.2.2.2.1 b j := fun j => by simp [zsR, zup, hb]
  have e1 : ∀ ci f, zfv (zsR h a k v) ci b f = zfv h ci b f := fun ci f => by unfold zfv; rw [e]; rfl
  unfold zE
  simp only [e1, e]
  rfl
theorem zE_sL {b a k kd n : Nat} {v : Int64} (hb : b ≠ a) : zE B sp cA (zsL h a k v) b kd n = zE B sp cA h b kd n := by
  have e : (zsL h a k v).2.2.1 b = h.2.2.1 b := by funext j; simp [zsL, zup, hb]
  unfold zE
  simp only [e]
  rfl
theorem zE_sRow {b a kd n : Nat} {g : Nat → Int32} (hb : b ≠ a) : zE B sp cA (zsRow h a g) b kd n = zE B sp cA h b kd n := by
  have e2 : (zsRow h a g).2.1 b = h.2.1 b := by funext j; simp [zsRow, zrow, hb]
  have e1 : ∀ ci f, zfv (zsRow h a g) ci b f = zfv h ci b f := fun ci f => by unfold zfv; rw [e2]; rfl
  unfold zE
  simp only [e1, e2]
  rfl
theorem zE_new {b kd n k0 n0 : Nat} (hb : b < h.1.length) : zE B sp cA (znew h k0 n0) b kd n = zE B sp cA h b kd n := by
  have hb' : b ≠ h.1.length := by omega
  have e2 : (znew h k0 n0).2.1 b = h.2.1 b := by funext j; simp [znew, zrow, hb']
  have e3 : (znew h k0 n0).2.2.1 b = h.2.2.1 b := by funext j; simp [znew, zrow, hb']
  have e4 : (znew h k0 n0).2.2.2.1 b = h.2.2.2.1 b := by funext j; simp [znew, zrow, hb']
  have e1 : ∀ ci f, zfv (znew h k0 n0) ci b f = zfv h ci b f := fun ci f => by unfold zfv; rw [e2, e4]
  unfold zE
  simp only [e1, e2, e3, e4]
theorem zcv_rf (r : Option Nat) : zcv B sp (.inr (.inr r)) = va_rf (r.map (zad B sp)) := rfl
theorem zcv_ref {a : Nat} (ha : a < 1000000) : zcv B sp (.inr (.inr (some a))) = .ref (B + a) := by
  show va_rf (some (zad B sp a)) = _
  rw [zad, if_pos ha]
  rfl
theorem zcat_cv (v : zV) : (zcv B sp v).category = zcat v := by
  match v with
  | .inl x => rfl
  | .inr (.inl x) => rfl
  | .inr (.inr none) => rfl
  | .inr (.inr (some a)) => rfl
theorem zwd_cv (vs : List zV) : ((vs.map (zcv B sp)).map fun v => v.category).sum = zwd vs := by
  rw [List.map_map]
  exact congrArg List.sum (List.map_congr_left fun v _ => zcat_cv v)
/-- locals -/
def zlv (B : Nat) (sp : Nat → Nat) (ls : zL) : List (Nat × Value) := ls.map (fun q => (q.1, zcv B sp q.2))
theorem zget_mem {ls : zL} {i : Nat} {v : zV} (hg : zget ls i = some v) : (i, v) ∈ ls := by
  induction ls with
  | nil => cases hg
  | cons q t ih =>
    unfold zget at hg
    split at hg
    · next e => cases hg; subst e; exact List.mem_cons_self
    · exact List.mem_cons_of_mem _ (ih hg)
theorem zget_at {ls : zL} {i n : Nat} {v : zV} {lA : Array Slot} (hl : lv_has lA n (zlv B sp ls)) (hg : zget ls i = some v) : lA[i]? = some (.val (zcv B sp v)) :=
  hl.2.2 (i, zcv B sp v) (List.mem_map.mpr ⟨(i, v), zget_mem hg, rfl⟩)
theorem zget_place {ls : zL} {i : Nat} {v : zV} (hg : zget ls i = some v) : ∃ k : Nat, (zlv B sp ls)[k]? = some (i, zcv B sp v) :=
  List.getElem?_of_mem (List.mem_map.mpr ⟨(i, v), zget_mem hg, rfl⟩)
theorem zset1_lv {ls : zL} {i : Nat} {v : zV} : (i, zcv B sp v) :: (zlv B sp ls).filter (fun q => !(q.1 == i) && !(q.1 + 1 == i && q.2.category == 2)) = zlv B sp (zset1 ls i v) := by
  show _ = (i, zcv B sp v) :: zlv B sp (ls.filter _)
  congr 1
  unfold zlv
  rw [List.filter_map]
  refine congrArg _ (List.filter_congr fun q _ => ?_)
  simp [zcat_cv]
theorem zset2_lv {ls : zL} {i : Nat} {v : zV} : (i, zcv B sp v) :: (zlv B sp ls).filter (fun q => !(q.1 == i) && (!(q.1 == i + 1) && !(q.1 + 1 == i && q.2.category == 2))) = zlv B sp (zset2 ls i v) := by
  show _ = (i, zcv B sp v) :: zlv B sp (ls.filter _)
  congr 1
  unfold zlv
  rw [List.filter_map]
  refine congrArg _ (List.filter_congr fun q _ => ?_)
  simp [zcat_cv]
theorem zargs_lv (vs : List zV) : ∀ i : Nat, lv_args i (vs.map (zcv B sp)) = zlv B sp (zargs i vs) := by
  induction vs with
  | nil => intro i; rfl
  | cons v vs ih =>
    intro i
    show (i, zcv B sp v) :: lv_args (if (zcv B sp v).category = 2 then i + 2 else i + 1) (vs.map (zcv B sp)) = (i, zcv B sp v) :: zlv B sp (zargs (if zcat v = 2 then i + 2 else i + 1) vs)
    rw [zcat_cv, ih]
end ZW
end
section
/-! the context of a method of the small machine, and the judgement at one of its states -/
def zws : List Cond := lw_tbl.filter goodWord
def zwsM (mi : zM) : List Cond := Cond.code mi.2.2.2.2.1 mi.1 mi.2.2.1 mi.2.2.2.1 :: zws
def zc (h : zH) : Nat := h.1.length + h.2.2.2.2
def zt (h : zH) : Nat := (h.1.map (fun q => q.2)).sum + 6 * h.2.2.2.2
def zCx (B : Nat) (sp : Nat → Nat) (cA : Nat → ClassId) (D : va_G) (U : State) : Prop :=
  va_K D vwCl (ztys cA) U ∧ (∀ q ∈ znm, va_Nw (.methodLinkNest (zRn q.1) q.2.1 q.2.2.1.2.2.2.2.1 q.2.2.2.1) U) ∧ (∀ q ∈ zsr, vk_R (zRn q.1) q.2.1 q.2.2.1 (sp q.2.2.2.1) U) ∧ (∀ k, 16 ≤ k → k ≤ 20 → va_AO (zRn (zrc k)) U) ∧ B ≤ U.heap.size
theorem zCx.warm {B : Nat} {sp : Nat → Nat} {cA : Nat → ClassId} {D : va_G} {s U : State} (h : zCx B sp cA D s) (hW : s.WarmedH U.vm) (hB : B ≤ U.heap.size) : zCx B sp cA D U :=
  ⟨va_K.moved hW.alike h.1, fun q hq => va_Nw.warmM hW (h.2.1 q hq), fun q hq => vk_R.warm hW (h.2.2.1 q hq), fun k h1 h2 => va_AO.moved hW.alike (h.2.2.2.1 k h1 h2), hB⟩
def zX (p : Program) (s : State) (m : MethodId) (args : Array Value) (meth : Method) (c : Code) (B : Nat) (sp : Nat → Nat) (cA : Nat → ClassId) (D : va_G) (mi : zM) : Prop :=
  p.tables.exec = Jvm.exec ∧ c.code = mi.1 ∧ c.maxLocals = mi.2.2.1 ∧ s.vm.findClass (zRn mi.2.1) = some m.cls ∧ (∀ w ∈ zws, w.before args s = true) ∧ (mi.2.2.2.2.2 = true → meth.name = "<init>") ∧ zCx B sp cA D s
def zK (p : Program) (l : Launch) (e : Env) (R : Room) (s : State) (m : MethodId) (args : Array Value) (below : List Frame) (meth : Method) (c : Code) (Q : State → Prop) (B : Nat) (sp : Nat → Nat) (cA : Nat → ClassId) (D : va_G) (mi : zM) (c0 s0 : Nat) (g : zC) : Prop :=
  ∀ (H : Heap) (locs : List Loc) (lA : Array Slot) (cells slots : Nat), zRel B sp cA D g.2.2.2 H → va_S (zAr B) s.heap H locs → lv_has lA mi.2.2.1 (zlv B sp g.2.1) → c0 + cells = zc g.2.2.2 → s0 + slots = zt g.2.2.2 →
    W p l e R s m args below meth c H locs cells slots Q (F0 m g.1 lA (g.2.2.1.map (zcv B sp)))
section ZS
variable {p : Program} {l : Launch} {e : Env} {R : Room} {s : State} {m : MethodId} {args : Array Value} {below : List Frame} {meth : Method} {c : Code} {Q : State → Prop} {B : Nat} {sp : Nat → Nat} {cA : Nat → ClassId} {D : va_G} {mi : zM} {c0 s0 : Nat}
variable {pc len : Nat} {ls : zL} {st : List zV} {h : zH}
theorem zs_iconst {n : Int} (cx : zX p s m args meth c B sp cA D mi) (hd : decode mi.1 pc = .ok (.iconst n, 1)) (k : zK p l e R s m args below meth c Q B sp cA D mi c0 s0 (pc + 1, ls, .inl (Int32.ofInt n) :: st, h)) : zK p l e R s m args below meth c Q B sp cA D mi c0 s0 (pc, ls, st, h) :=
  fun H locs lA cells slots hR hS hl h1 h2 => lv_iconst cx.1 cx.2.1 hd rfl (k H locs lA cells slots hR hS hl h1 h2)
theorem zs_bipush {n : Int} (cx : zX p s m args meth c B sp cA D mi) (hd : decode mi.1 pc = .ok (.bipush n, 2)) (k : zK p l e R s m args below meth c Q B sp cA D mi c0 s0 (pc + 2, ls, .inl (Int8.ofInt n).toInt32 :: st, h)) : zK p l e R s m args below meth c Q B sp cA D mi c0 s0 (pc, ls, st, h) :=
  fun H locs lA cells slots hR hS hl h1 h2 => lv_bipush cx.1 cx.2.1 hd rfl (k H locs lA cells slots hR hS hl h1 h2)
theorem zs_sipush {n : Int} (cx : zX p s m args meth c B sp cA D mi) (hd : decode mi.1 pc = .ok (.sipush n, 3)) (k : zK p l e R s m args below meth c Q B sp cA D mi c0 s0 (pc + 3, ls, .inl (Int16.ofInt n).toInt32 :: st, h)) : zK p l e R s m args below meth c Q B sp cA D mi c0 s0 (pc, ls, st, h) :=
  fun H locs lA cells slots hR hS hl h1 h2 => lv_sipush cx.1 cx.2.1 hd rfl (k H locs lA cells slots hR hS hl h1 h2)
theorem zs_lconst {n : Fin 2} (cx : zX p s m args meth c B sp cA D mi) (hd : decode mi.1 pc = .ok (.lconst n, 1)) (k : zK p l e R s m args below meth c Q B sp cA D mi c0 s0 (pc + 1, ls, .inr (.inl (Int64.ofNat (n : Nat))) :: st, h)) : zK p l e R s m args below meth c Q B sp cA D mi c0 s0 (pc, ls, st, h) :=
  fun H locs lA cells slots hR hS hl h1 h2 => lv_lconst cx.1 cx.2.1 hd rfl (k H locs lA cells slots hR hS hl h1 h2)
/-- loads -/
theorem zs_load {i : Instr} {so j : Nat} {g : zC} (cx : zX p s m args meth c B sp cA D mi) (hd : decode mi.1 pc = .ok (i, len)) (hi : (i = .iload j ∧ len = 2 ∧ so = 0) ∨ (∃ f : Fin 4, i = .iload_n f ∧ (f : Nat) = j ∧ len = 1 ∧ so = 0) ∨ (i = .lload j ∧ len = 2 ∧ so = 1) ∨ (∃ f : Fin 4, i = .lload_n f ∧ (f : Nat) = j ∧ len = 1 ∧ so = 1) ∨ (i = .aload j ∧ len = 2 ∧ so = 2) ∨ (∃ f : Fin 4, i = .aload_n f ∧ (f : Nat) = j ∧ len = 1 ∧ so = 2))
    (hz : zload so j len pc ls st h = some (.inl g)) (k : zK p l e R s m args below meth c Q B sp cA D mi c0 s0 g) : zK p l e R s m args below meth c Q B sp cA D mi c0 s0 (pc, ls, st, h) := by
  intro H locs lA cells slots hR hS hl h1 h2
  unfold zload at hz
  split at hz
  · next x hg =>
    split at hz
    · next hso =>
      subst hso
      cases hz
      have k' := k H locs lA cells slots hR hS hl h1 h2
      have ha := zget_at hl hg
      rcases hi with ⟨rfl, rfl, -⟩ | ⟨f, rfl, rfl, rfl, -⟩ | ⟨-, -, q⟩ | ⟨f, -, -, -, q⟩ | ⟨-, -, q⟩ | ⟨f, -, -, -, q⟩
      · exact lv_iload cx.1 cx.2.1 hd ha k'
      · exact lv_iload_n cx.1 cx.2.1 hd rfl ha k'
      all_goals cases q
    · cases hz
  · next x hg =>
    split at hz
    · next hso =>
      subst hso
      cases hz
      have k' := k H locs lA cells slots hR hS hl h1 h2
      have ha := zget_at hl hg
      rcases hi with ⟨-, -, q⟩ | ⟨f, -, -, -, q⟩ | ⟨rfl, rfl, -⟩ | ⟨f, rfl, rfl, rfl, -⟩ | ⟨-, -, q⟩ | ⟨f, -, -, -, q⟩
      · cases q
      · cases q
      · exact lv_lload cx.1 cx.2.1 hd ha k'
      · exact lv_lload_n cx.1 cx.2.1 hd rfl ha k'
      all_goals cases q
    · cases hz
  · next x hg =>
    split at hz
    · next hso =>
      subst hso
      cases hz
      have k' := k H locs lA cells slots hR hS hl h1 h2
      have ha := zget_at hl hg
      rcases hi with ⟨-, -, q⟩ | ⟨f, -, -, -, q⟩ | ⟨-, -, q⟩ | ⟨f, -, -, -, q⟩ | ⟨rfl, rfl, -⟩ | ⟨f, rfl, rfl, rfl, -⟩
      · cases q
      · cases q
      · cases q
      · cases q
      · exact lv_aload cx.1 cx.2.1 hd ha k'
      · exact lv_aload_n cx.1 cx.2.1 hd rfl ha k'
    · cases hz
  · cases hz
/-- stores -/
theorem zs_store {i : Instr} {so j : Nat} {g : zC} (cx : zX p s m args meth c B sp cA D mi) (hd : decode mi.1 pc = .ok (i, len)) (hi : (i = .istore j ∧ len = 2 ∧ so = 0) ∨ (∃ f : Fin 4, i = .istore_n f ∧ (f : Nat) = j ∧ len = 1 ∧ so = 0) ∨ (i = .lstore j ∧ len = 2 ∧ so = 1) ∨ (∃ f : Fin 4, i = .lstore_n f ∧ (f : Nat) = j ∧ len = 1 ∧ so = 1) ∨ (i = .astore j ∧ len = 2 ∧ so = 2) ∨ (∃ f : Fin 4, i = .astore_n f ∧ (f : Nat) = j ∧ len = 1 ∧ so = 2))
    (hz : zstore mi so j len pc ls st h = some (.inl g)) (k : zK p l e R s m args below meth c Q B sp cA D mi c0 s0 g) : zK p l e R s m args below meth c Q B sp cA D mi c0 s0 (pc, ls, st, h) := by
  intro H locs lA cells slots hR hS hl h1 h2
  unfold zstore at hz
  split at hz
  · next x st' =>
    split at hz
    · next hso =>
      obtain ⟨rfl, hj⟩ := hso
      cases hz
      have k' := fun lA' hl' => k H locs lA' cells slots hR hS hl' h1 h2
      rcases hi with ⟨rfl, rfl, -⟩ | ⟨f, rfl, rfl, rfl, -⟩ | ⟨-, -, q⟩ | ⟨f, -, -, -, q⟩ | ⟨-, -, q⟩ | ⟨f, -, -, -, q⟩
      · exact lv_istore cx.1 cx.2.1 hd hl hj (zset1_lv (v := .inl x)) k'
      · exact lv_istore_n cx.1 cx.2.1 hd rfl hl hj (zset1_lv (v := .inl x)) k'
      all_goals cases q
    · cases hz
  · next x st' =>
    split at hz
    · next hso =>
      obtain ⟨rfl, hj⟩ := hso
      cases hz
      have k' := fun lA' hl' => k H locs lA' cells slots hR hS hl' h1 h2
      rcases hi with ⟨-, -, q⟩ | ⟨f, -, -, -, q⟩ | ⟨rfl, rfl, -⟩ | ⟨f, rfl, rfl, rfl, -⟩ | ⟨-, -, q⟩ | ⟨f, -, -, -, q⟩
      · cases q
      · cases q
      · exact lv_lstore cx.1 cx.2.1 hd hl hj (zset2_lv (v := .inr (.inl x))) k'
      · exact lv_lstore_n cx.1 cx.2.1 hd rfl hl hj (zset2_lv (v := .inr (.inl x))) k'
      all_goals cases q
    · cases hz
  · next x st' =>
    split at hz
    · next hso =>
      obtain ⟨rfl, hj⟩ := hso
      cases hz
      have k' := fun lA' hl' => k H locs lA' cells slots hR hS hl' h1 h2
      rcases hi with ⟨-, -, q⟩ | ⟨f, -, -, -, q⟩ | ⟨-, -, q⟩ | ⟨f, -, -, -, q⟩ | ⟨rfl, rfl, -⟩ | ⟨f, rfl, rfl, rfl, -⟩
      · cases q
      · cases q
      · cases q
      · cases q
      · exact lv_astore cx.1 cx.2.1 hd hl hj (zset1_lv (v := .inr (.inr (some x)))) k'
      · exact lv_astore_n cx.1 cx.2.1 hd rfl hl hj (zset1_lv (v := .inr (.inr (some x)))) k'
    · cases hz
  · cases hz
theorem zs_iinc {j : Nat} {n : Int} {x : Int32} (cx : zX p s m args meth c B sp cA D mi) (hd : decode mi.1 pc = .ok (.iinc j n, 3)) (hg : zget ls j = some (.inl x)) (hj : j < mi.2.2.1) (k : zK p l e R s m args below meth c Q B sp cA D mi c0 s0 (pc + 3, zset1 ls j (.inl (x + Int32.ofInt n)), st, h)) : zK p l e R s m args below meth c Q B sp cA D mi c0 s0 (pc, ls, st, h) := by
  intro H locs lA cells slots hR hS hl h1 h2
  obtain ⟨q, hq⟩ := zget_place (B := B) (sp := sp) hg
  exact lv_iinc cx.1 cx.2.1 hd hl hq rfl hj (zset1_lv (v := .inl (x + Int32.ofInt n))) (fun lA' hl' => k H locs lA' cells slots hR hS hl' h1 h2)
/-- two ints to one -/
theorem zs_bin {i : Instr} {x y v : Int32} (cx : zX p s m args meth c B sp cA D mi) (hd : decode mi.1 pc = .ok (i, 1)) (hz : zbin i x y = some v) (k : zK p l e R s m args below meth c Q B sp cA D mi c0 s0 (pc + 1, ls, .inl v :: st, h)) : zK p l e R s m args below meth c Q B sp cA D mi c0 s0 (pc, ls, .inl y :: .inl x :: st, h) := by
  intro H locs lA cells slots hR hS hl h1 h2
  have k' := k H locs lA cells slots hR hS hl h1 h2
  unfold zbin at hz
  split at hz
  · cases hz; exact lv_iadd cx.1 cx.2.1 hd k'
  · cases hz; exact lv_isub cx.1 cx.2.1 hd k'
  · cases hz; exact lv_imul cx.1 cx.2.1 hd k'
  · cases hz; exact lv_iand cx.1 cx.2.1 hd k'
  · cases hz; exact lv_ior cx.1 cx.2.1 hd k'
  · cases hz; exact lv_ixor cx.1 cx.2.1 hd k'
  · cases hz; exact lv_ishl cx.1 cx.2.1 hd k'
  · cases hz; exact lv_ishr cx.1 cx.2.1 hd k'
  · cases hz; exact lv_iushr cx.1 cx.2.1 hd rfl k'
  · split at hz
    · cases hz
    · next hy => cases hz; exact lv_idiv cx.1 cx.2.1 hd hy k'
  · split at hz
    · cases hz
    · next hy => cases hz; exact lv_irem cx.1 cx.2.1 hd hy k'
  · cases hz
theorem zs_un {i : Instr} {x : Int32} {v : zV} (cx : zX p s m args meth c B sp cA D mi) (hd : decode mi.1 pc = .ok (i, 1)) (hz : zun i x = some v) (k : zK p l e R s m args below meth c Q B sp cA D mi c0 s0 (pc + 1, ls, v :: st, h)) : zK p l e R s m args below meth c Q B sp cA D mi c0 s0 (pc, ls, .inl x :: st, h) := by
  intro H locs lA cells slots hR hS hl h1 h2
  have k' := k H locs lA cells slots hR hS hl h1 h2
  unfold zun at hz
  split at hz
  · cases hz; exact lv_ineg cx.1 cx.2.1 hd k'
  · cases hz; exact lv_i2b cx.1 cx.2.1 hd rfl k'
  · cases hz; exact lv_i2c cx.1 cx.2.1 hd rfl k'
  · cases hz; exact lv_i2l cx.1 cx.2.1 hd rfl k'
  · cases hz
theorem zs_lbin {i : Instr} {x y : Int64} {v : zV} (cx : zX p s m args meth c B sp cA D mi) (hd : decode mi.1 pc = .ok (i, 1)) (hz : zlbin i x y = some v) (k : zK p l e R s m args below meth c Q B sp cA D mi c0 s0 (pc + 1, ls, v :: st, h)) : zK p l e R s m args below meth c Q B sp cA D mi c0 s0 (pc, ls, .inr (.inl y) :: .inr (.inl x) :: st, h) := by
  intro H locs lA cells slots hR hS hl h1 h2
  have k' := k H locs lA cells slots hR hS hl h1 h2
  unfold zlbin at hz
  split at hz
  · cases hz; exact lv_lor cx.1 cx.2.1 hd k'
  · cases hz; exact W.lcmp cx.1 cx.2.1 hd k'
  · split at hz
    · cases hz
    · next hy => cases hz; exact lv_ldiv cx.1 cx.2.1 hd hy k'
  · split at hz
    · cases hz
    · next hy => cases hz; exact lv_lrem cx.1 cx.2.1 hd hy k'
  · cases hz
theorem zs_lshl {x : Int64} {y : Int32} (cx : zX p s m args meth c B sp cA D mi) (hd : decode mi.1 pc = .ok (.lshl, 1)) (k : zK p l e R s m args below meth c Q B sp cA D mi c0 s0 (pc + 1, ls, .inr (.inl (x <<< (y.toInt64 &&& 63))) :: st, h)) : zK p l e R s m args below meth c Q B sp cA D mi c0 s0 (pc, ls, .inl y :: .inr (.inl x) :: st, h) :=
  fun H locs lA cells slots hR hS hl h1 h2 => lv_lshl cx.1 cx.2.1 hd rfl (k H locs lA cells slots hR hS hl h1 h2)
/-- jumps -/
theorem zjump_at {off : Int} {g : zC} (hz : zjump pc off ls st h = some (.inl g)) : (pc : Int) + off = ((g.1 : Nat) : Int) ∧ g = (g.1, ls, st, h) := by
  unfold zjump at hz
  split at hz
  · next h0 =>
    cases hz
    exact ⟨(Int.toNat_of_nonneg h0).symm, rfl⟩
  · cases hz
theorem zs_goto {off : Int} {g : zC} (cx : zX p s m args meth c B sp cA D mi) (hd : decode mi.1 pc = .ok (.goto off, 3)) (hz : zjump pc off ls st h = some (.inl g)) (k : zK p l e R s m args below meth c Q B sp cA D mi c0 s0 g) : zK p l e R s m args below meth c Q B sp cA D mi c0 s0 (pc, ls, st, h) := by
  obtain ⟨e1, e2⟩ := zjump_at hz
  rw [e2] at k
  exact fun H locs lA cells slots hR hS hl h1 h2 => lv_goto cx.1 cx.2.1 hd e1 (k H locs lA cells slots hR hS hl h1 h2)
theorem zs_if {cd : ClassFile.Cond} {off : Int} {x : Int32} {g : zC} (cx : zX p s m args meth c B sp cA D mi) (hd : decode mi.1 pc = .ok (.ifCond cd off, 3)) (hz : zbr (zcond cd x 0) pc 3 off ls st h = some (.inl g)) (k : zK p l e R s m args below meth c Q B sp cA D mi c0 s0 g) : zK p l e R s m args below meth c Q B sp cA D mi c0 s0 (pc, ls, .inl x :: st, h) := by
  intro H locs lA cells slots hR hS hl h1 h2
  unfold zbr at hz
  split at hz
  · next h0 =>
    have e1 : (pc : Int) + off = (((pc : Int) + off).toNat : Int) := (Int.toNat_of_nonneg h0).symm
    by_cases hc : zcond cd x 0 = true
    · rw [if_pos hc] at hz
      cases hz
      have k' := k H locs lA cells slots hR hS hl h1 h2
      cases cd <;> simp only [zcond, decide_eq_true_eq] at hc
      · exact lv_if_eq cx.1 cx.2.1 hd e1 (fun _ => k') (fun q => absurd hc q)
      · exact lv_if_ne cx.1 cx.2.1 hd e1 (fun _ => k') (fun q => absurd q hc)
      · exact lv_if_lt cx.1 cx.2.1 hd e1 (fun _ => k') (fun q => absurd hc q)
      · exact lv_if_ge cx.1 cx.2.1 hd e1 (fun _ => k') (fun q => absurd hc q)
      · exact lv_if_gt cx.1 cx.2.1 hd e1 (fun _ => k') (fun q => absurd hc q)
      · exact lv_if_le cx.1 cx.2.1 hd e1 (fun _ => k') (fun q => absurd hc q)
    · rw [if_neg hc] at hz
      cases hz
      have k' := k H locs lA cells slots hR hS hl h1 h2
      cases cd <;> simp only [zcond, decide_eq_true_eq] at hc
      · exact lv_if_eq cx.1 cx.2.1 hd e1 (fun q => absurd q hc) (fun _ => k')
      · exact lv_if_ne cx.1 cx.2.1 hd e1 (fun q => absurd q hc) (fun _ => k')
      · exact lv_if_lt cx.1 cx.2.1 hd e1 (fun q => absurd q hc) (fun _ => k')
      · exact lv_if_ge cx.1 cx.2.1 hd e1 (fun q => absurd q hc) (fun _ => k')
      · exact lv_if_gt cx.1 cx.2.1 hd e1 (fun q => absurd q hc) (fun _ => k')
      · exact lv_if_le cx.1 cx.2.1 hd e1 (fun q => absurd q hc) (fun _ => k')
  · cases hz
theorem zs_icmp {cd : ClassFile.Cond} {off : Int} {x y : Int32} {g : zC} (cx : zX p s m args meth c B sp cA D mi) (hd : decode mi.1 pc = .ok (.if_icmp cd off, 3)) (hz : zbr (zcond cd x y) pc 3 off ls st h = some (.inl g)) (k : zK p l e R s m args below meth c Q B sp cA D mi c0 s0 g) : zK p l e R s m args below meth c Q B sp cA D mi c0 s0 (pc, ls, .inl y :: .inl x :: st, h) := by
  intro H locs lA cells slots hR hS hl h1 h2
  unfold zbr at hz
  split at hz
  · next h0 =>
    have e1 : (pc : Int) + off = (((pc : Int) + off).toNat : Int) := (Int.toNat_of_nonneg h0).symm
    by_cases hc : zcond cd x y = true
    · rw [if_pos hc] at hz
      cases hz
      have k' := k H locs lA cells slots hR hS hl h1 h2
      cases cd <;> simp only [zcond, decide_eq_true_eq] at hc
      · exact lv_icmp_eq cx.1 cx.2.1 hd e1 (fun _ => k') (fun q => absurd hc q)
      · exact lv_icmp_ne cx.1 cx.2.1 hd e1 (fun _ => k') (fun q => absurd q hc)
      · exact lv_icmp_lt cx.1 cx.2.1 hd e1 (fun _ => k') (fun q => absurd hc q)
      · exact lv_icmp_ge cx.1 cx.2.1 hd e1 (fun _ => k') (fun q => absurd hc q)
      · exact lv_icmp_gt cx.1 cx.2.1 hd e1 (fun _ => k') (fun q => absurd hc q)
      · exact lv_icmp_le cx.1 cx.2.1 hd e1 (fun _ => k') (fun q => absurd hc q)
    · rw [if_neg hc] at hz
      cases hz
      have k' := k H locs lA cells slots hR hS hl h1 h2
      cases cd <;> simp only [zcond, decide_eq_true_eq] at hc
      · exact lv_icmp_eq cx.1 cx.2.1 hd e1 (fun q => absurd q hc) (fun _ => k')
      · exact lv_icmp_ne cx.1 cx.2.1 hd e1 (fun q => absurd q hc) (fun _ => k')
      · exact lv_icmp_lt cx.1 cx.2.1 hd e1 (fun q => absurd q hc) (fun _ => k')
      · exact lv_icmp_ge cx.1 cx.2.1 hd e1 (fun q => absurd q hc) (fun _ => k')
      · exact lv_icmp_gt cx.1 cx.2.1 hd e1 (fun q => absurd q hc) (fun _ => k')
      · exact lv_icmp_le cx.1 cx.2.1 hd e1 (fun q => absurd q hc) (fun _ => k')
  · cases hz
theorem zs_switch {d lo hi : Int} {offs : Array Int} {x : Int32} {g : zC} (cx : zX p s m args meth c B sp cA D mi) (hd : decode mi.1 pc = .ok (.tableswitch d lo hi offs, len)) (hz : (if x.toInt < lo ∨ hi < x.toInt then zjump pc d ls st h else (match offs[(x.toInt - lo).toNat]? with
      | some off => zjump pc off ls st h
      | none => none)) = some (.inl g)) (k : zK p l e R s m args below meth c Q B sp cA D mi c0 s0 g) : zK p l e R s m args below meth c Q B sp cA D mi c0 s0 (pc, ls, .inl x :: st, h) := by
  intro H locs lA cells slots hR hS hl h1 h2
  split at hz
  · next ho =>
    obtain ⟨e1, e2⟩ := zjump_at hz
    rw [e2] at k
    exact lv_tableOut cx.1 cx.2.1 hd ho e1 (k H locs lA cells slots hR hS hl h1 h2)
  · next ho =>
    split at hz
    · next off hoff =>
      obtain ⟨e1, e2⟩ := zjump_at hz
      rw [e2] at k
      exact lv_tableIn cx.1 cx.2.1 hd (fun q => ho (Or.inl q)) (fun q => ho (Or.inr q)) hoff e1 (k H locs lA cells slots hR hS hl h1 h2)
    · cases hz
theorem zs_dup {v : zV} (cx : zX p s m args meth c B sp cA D mi) (hd : decode mi.1 pc = .ok (.dup, 1)) (hv : zcat v = 1) (k : zK p l e R s m args below meth c Q B sp cA D mi c0 s0 (pc + 1, ls, v :: v :: st, h)) : zK p l e R s m args below meth c Q B sp cA D mi c0 s0 (pc, ls, v :: st, h) :=
  fun H locs lA cells slots hR hS hl h1 h2 => lv_dup cx.1 cx.2.1 hd (by rw [zcat_cv]; exact hv) (k H locs lA cells slots hR hS hl h1 h2)
theorem zs_dup2 {v w : zV} (cx : zX p s m args meth c B sp cA D mi) (hd : decode mi.1 pc = .ok (.dup2, 1)) (hv : zcat v = 1) (hw : zcat w = 1) (k : zK p l e R s m args below meth c Q B sp cA D mi c0 s0 (pc + 1, ls, v :: w :: v :: w :: st, h)) : zK p l e R s m args below meth c Q B sp cA D mi c0 s0 (pc, ls, v :: w :: st, h) :=
  fun H locs lA cells slots hR hS hl h1 h2 => lv_dup2_11 cx.1 cx.2.1 hd (by rw [zcat_cv]; exact hv) (by rw [zcat_cv]; exact hw) (k H locs lA cells slots hR hS hl h1 h2)
theorem zs_pop {v : zV} (cx : zX p s m args meth c B sp cA D mi) (hd : decode mi.1 pc = .ok (.pop, 1)) (hv : zcat v = 1) (k : zK p l e R s m args below meth c Q B sp cA D mi c0 s0 (pc + 1, ls, st, h)) : zK p l e R s m args below meth c Q B sp cA D mi c0 s0 (pc, ls, v :: st, h) :=
  fun H locs lA cells slots hR hS hl h1 h2 => lv_pop cx.1 cx.2.1 hd (by rw [zcat_cv]; exact hv) (k H locs lA cells slots hR hS hl h1 h2)
theorem zs_pop2 {v : zV} (cx : zX p s m args meth c B sp cA D mi) (hd : decode mi.1 pc = .ok (.pop2, 1)) (hv : zcat v = 2) (k : zK p l e R s m args below meth c Q B sp cA D mi c0 s0 (pc + 1, ls, st, h)) : zK p l e R s m args below meth c Q B sp cA D mi c0 s0 (pc, ls, v :: st, h) :=
  fun H locs lA cells slots hR hS hl h1 h2 => lv_pop2_2 cx.1 cx.2.1 hd (by rw [zcat_cv]; exact hv) (k H locs lA cells slots hR hS hl h1 h2)
end ZS
end
section
/-! what the kernel decides of the tables -/
theorem zws_in {i : Nat} {w : Cond} (h1 : lw_tbl[i]? = some w) (h2 : goodWord w = true) : w ∈ zws := List.mem_filter.mpr ⟨List.mem_of_getElem? h1, h2⟩
theorem zws_of {ws : List Cond} (ps : List Nat) (h1 : ps.map (fun i => lw_tbl[i]?) = ws.map some) (h2 : ws.all goodWord = true) : ∀ w ∈ ws, w ∈ zws := by
  intro w hw
  have h3 : some w ∈ ps.map (fun i => lw_tbl[i]?) := by rw [h1]; exact List.mem_map.mpr ⟨w, hw, rfl⟩
  obtain ⟨i, -, hi⟩ := List.mem_map.mp h3
  exact zws_in hi (List.all_eq_true.mp h2 w hw)
theorem zws_good : ∀ w ∈ zws, (w.onTables && w.keeps) = true ∨ ∃ ty, w = .arrayClass ty := fun w hw => good_of_word (List.mem_filter.mp hw).2
theorem zws_tbl : ∀ w ∈ zws, w ∈ lw_tbl := fun w hw => (List.mem_filter.mp hw).1
theorem zlook_mem {α : Type} {l : List (Nat × α)} {i : Nat} {v : α} (h : zlook l i = some v) : (i, v) ∈ l := by
  induction l with
  | nil => cases h
  | cons q t ih =>
    unfold zlook at h
    split at h
    · next e => cases h; subst e; exact List.mem_cons_self
    · exact List.mem_cons_of_mem _ (ih h)
set_option maxRecDepth 20000 in
theorem zcw0 : ∀ w ∈ u_ws RX0 TX0 4, w ∈ zws := zws_of [244, 246, 248, 250] (by decide +kernel) (by decide +kernel)
set_option maxRecDepth 20000 in
theorem zcw1 : ∀ w ∈ u_ws RX1 TX1 5, w ∈ zws := zws_of [554, 556, 558, 560, 562] (by decide +kernel) (by decide +kernel)
set_option maxRecDepth 20000 in
theorem zcw2 : ∀ w ∈ u_ws RX2 TX2 7, w ∈ zws := zws_of [443, 445, 447, 449, 451, 453, 455] (by decide +kernel) (by decide +kernel)
set_option maxRecDepth 20000 in
theorem zcw3 : ∀ w ∈ u_ws RX3 TX3 4, w ∈ zws := zws_of [530, 532, 534, 536] (by decide +kernel) (by decide +kernel)
set_option maxRecDepth 20000 in
theorem zcw4 : ∀ w ∈ u_ws RX4 TX4 15, w ∈ zws := zws_of [339, 341, 343, 345, 347, 349, 351, 353, 355, 357, 359, 361, 363, 365, 367] (by decide +kernel) (by decide +kernel)
set_option maxRecDepth 20000 in
theorem zcw5 : ∀ w ∈ u_ws RX5 TX5 13, w ∈ zws := zws_of [391, 393, 395, 397, 399, 401, 403, 405, 407, 409, 411, 413, 415] (by decide +kernel) (by decide +kernel)
set_option maxRecDepth 20000 in
theorem zcw6 : ∀ w ∈ u_ws RX6 TX6 7, w ∈ zws := zws_of [503, 505, 507, 509, 511, 513, 515] (by decide +kernel) (by decide +kernel)
set_option maxRecDepth 20000 in
theorem zcw7 : ∀ w ∈ u_ws RX7 TX7 6, w ∈ zws := zws_of [475, 477, 479, 481, 483, 485] (by decide +kernel) (by decide +kernel)
set_option maxRecDepth 20000 in
theorem zcw8 : ∀ w ∈ u_ws RX8 TX8 3, w ∈ zws := zws_of [265, 267, 269] (by decide +kernel) (by decide +kernel)
set_option maxRecDepth 20000 in
theorem zcw9 : ∀ w ∈ u_ws RX9 TX9 4, w ∈ zws := zws_of [189, 191, 193, 195] (by decide +kernel) (by decide +kernel)
set_option maxRecDepth 20000 in
theorem zcw10 : ∀ w ∈ u_ws RX10 TX10 4, w ∈ zws := zws_of [217, 219, 221, 223] (by decide +kernel) (by decide +kernel)
set_option maxRecDepth 20000 in
theorem zcw11 : ∀ w ∈ u_ws RX11 TX11 16, w ∈ zws := zws_of [582, 584, 586, 588, 590, 592, 594, 596, 598, 600, 602, 604, 606, 608, 610, 612] (by decide +kernel) (by decide +kernel)
set_option maxRecDepth 20000 in
theorem zcw12 : ∀ w ∈ u_ws RX12 TX12 39, w ∈ zws := zws_of [1416, 1418, 1420, 1422, 1424, 1426, 1428, 1430, 1432, 1434, 1436, 1438, 1440, 1442, 1444, 1446, 1448, 1450, 1452, 1454, 1456, 1458, 1460, 1462, 1464, 1466, 1468, 1470, 1472, 1474, 1476, 1478, 1480, 1482, 1484, 1486, 1488, 1490, 1492] (by decide +kernel) (by decide +kernel)
theorem zcl_cl {ci : Nat} (h : ci < 13) : vwCl[ci]? = some (zRn ci, zTT ci, (zft ci).length) := by
  match ci, h with
  | 0, _ => exact rfl
  | 1, _ => exact rfl
  | 2, _ => exact rfl
  | 3, _ => exact rfl
  | 4, _ => exact rfl
  | 5, _ => exact rfl
  | 6, _ => exact rfl
  | 7, _ => exact rfl
  | 8, _ => exact rfl
  | 9, _ => exact rfl
  | 10, _ => exact rfl
  | 11, _ => exact rfl
  | 12, _ => exact rfl
theorem zcl_ws {ci : Nat} (h : ci < 13) : ∀ w ∈ u_ws (zRn ci) (zTT ci) (zft ci).length, w ∈ zws := by
  match ci, h with
  | 0, _ => exact zcw0
  | 1, _ => exact zcw1
  | 2, _ => exact zcw2
  | 3, _ => exact zcw3
  | 4, _ => exact zcw4
  | 5, _ => exact zcw5
  | 6, _ => exact zcw6
  | 7, _ => exact zcw7
  | 8, _ => exact zcw8
  | 9, _ => exact zcw9
  | 10, _ => exact zcw10
  | 11, _ => exact zcw11
  | 12, _ => exact zcw12
theorem zcl_ty {ci : Nat} (h : ci < 13) : ∀ k, k < (zft ci).length → parseFieldDescriptor (zTT ci k).2.2.1 = some (zty ci k) := by
  match ci, h with
  | 0, _ => exact tyX0_ok
  | 1, _ => exact tyX1_ok
  | 2, _ => exact tyX2_ok
  | 3, _ => exact tyX3_ok
  | 4, _ => exact tyX4_ok
  | 5, _ => exact tyX5_ok
  | 6, _ => exact tyX6_ok
  | 7, _ => exact tyX7_ok
  | 8, _ => exact tyX8_ok
  | 9, _ => exact tyX9_ok
  | 10, _ => exact tyX10_ok
  | 11, _ => exact tyX11_ok
  | 12, _ => exact tyX12_ok
theorem zcl_nm {ci : Nat} (h : ci < 13) : ∀ a, a < (zft ci).length → ∀ b, b < (zft ci).length → a ≠ b → (zTT ci a).2.1 ≠ (zTT ci b).2.1 := by
  match ci, h with
  | 0, _ => exact nmX0
  | 1, _ => exact nmX1
  | 2, _ => exact nmX2
  | 3, _ => exact nmX3
  | 4, _ => exact nmX4
  | 5, _ => exact nmX5
  | 6, _ => exact nmX6
  | 7, _ => exact nmX7
  | 8, _ => exact nmX8
  | 9, _ => exact nmX9
  | 10, _ => exact nmX10
  | 11, _ => exact nmX11
  | 12, _ => exact nmX12
def zrefT (t : FieldType) : Bool := match t with
  | .object _ => true
  | .array _ => true
  | _ => false
def zftok (ci f : Nat) : Bool := match (zft ci).getD f 9 with
  | 0 => decide (zty ci f = .int)
  | 1 => decide (zty ci f = .boolean)
  | 3 => zrefT (zty ci f)
  | _ => false
theorem zft_ok : (List.range 13).all (fun ci => (List.range (zft ci).length).all (fun f => zftok ci f && decide ((zTT ci f).1 = zRn ci))) = true := by decide +kernel
def zfldC (o : Nat) (q : Nat × Nat × Nat × Nat) : Bool := decide (q.2.1 < 13) && decide (q.2.2.1 < (zft q.2.1).length) && decide (lw_tbl[q.2.2.2]? = some (Cond.fieldLink (zRn o) q.1 (zRn q.2.1) (zTT q.2.1 q.2.2.1).2.1 (zTT q.2.1 q.2.2.1).2.2.1)) && goodWord (Cond.fieldLink (zRn o) q.1 (zRn q.2.1) (zTT q.2.1 q.2.2.1).2.1 (zTT q.2.1 q.2.2.1).2.2.1)
set_option maxRecDepth 20000 in
theorem zfldK0 : (zfldTT.getD 0 []).all (zfldC 0) = true := by decide +kernel
set_option maxRecDepth 20000 in
theorem zfldK1 : (zfldTT.getD 1 []).all (zfldC 1) = true := by decide +kernel
set_option maxRecDepth 20000 in
theorem zfldK2 : (zfldTT.getD 2 []).all (zfldC 2) = true := by decide +kernel
set_option maxRecDepth 20000 in
theorem zfldK3 : (zfldTT.getD 3 []).all (zfldC 3) = true := by decide +kernel
set_option maxRecDepth 20000 in
theorem zfldK4 : (zfldTT.getD 4 []).all (zfldC 4) = true := by decide +kernel
set_option maxRecDepth 20000 in
theorem zfldK5 : (zfldTT.getD 5 []).all (zfldC 5) = true := by decide +kernel
set_option maxRecDepth 20000 in
theorem zfldK6 : (zfldTT.getD 6 []).all (zfldC 6) = true := by decide +kernel
set_option maxRecDepth 20000 in
theorem zfldK7 : (zfldTT.getD 7 []).all (zfldC 7) = true := by decide +kernel
set_option maxRecDepth 20000 in
theorem zfldK8 : (zfldTT.getD 8 []).all (zfldC 8) = true := by decide +kernel
set_option maxRecDepth 20000 in
theorem zfldK9 : (zfldTT.getD 9 []).all (zfldC 9) = true := by decide +kernel
set_option maxRecDepth 20000 in
theorem zfldK10 : (zfldTT.getD 10 []).all (zfldC 10) = true := by decide +kernel
set_option maxRecDepth 20000 in
theorem zfldK11 : (zfldTT.getD 11 []).all (zfldC 11) = true := by decide +kernel
set_option maxRecDepth 20000 in
theorem zfldK12 : (zfldTT.getD 12 []).all (zfldC 12) = true := by decide +kernel
set_option maxRecDepth 20000 in
theorem zfldK13 : (zfldTT.getD 13 []).all (zfldC 13) = true := by decide +kernel
set_option maxRecDepth 20000 in
theorem zfldK14 : (zfldTT.getD 14 []).all (zfldC 14) = true := by decide +kernel
set_option maxRecDepth 20000 in
theorem zfldK15 : (zfldTT.getD 15 []).all (zfldC 15) = true := by decide +kernel
set_option maxRecDepth 20000 in
theorem zfldK16 : (zfldTT.getD 16 []).all (zfldC 16) = true := by decide +kernel
set_option maxRecDepth 20000 in
theorem zfldK17 : (zfldTT.getD 17 []).all (zfldC 17) = true := by decide +kernel
set_option maxRecDepth 20000 in
theorem zfldK18 : (zfldTT.getD 18 []).all (zfldC 18) = true := by decide +kernel
theorem zfldK : ∀ o, o < 19 → (zfldTT.getD o []).all (zfldC o) = true
  | 0, _ => zfldK0
  | 1, _ => zfldK1
  | 2, _ => zfldK2
  | 3, _ => zfldK3
  | 4, _ => zfldK4
  | 5, _ => zfldK5
  | 6, _ => zfldK6
  | 7, _ => zfldK7
  | 8, _ => zfldK8
  | 9, _ => zfldK9
  | 10, _ => zfldK10
  | 11, _ => zfldK11
  | 12, _ => zfldK12
  | 13, _ => zfldK13
  | 14, _ => zfldK14
  | 15, _ => zfldK15
  | 16, _ => zfldK16
  | 17, _ => zfldK17
  | 18, _ => zfldK18
def zcstC (o : Nat) (q : Nat × zV × Nat) : Bool := match q.2.1 with
  | .inl x => decide (lw_tbl[q.2.2]? = some (Cond.constant (zRn o) q.1 x)) && goodWord (Cond.constant (zRn o) q.1 x)
  | .inr (.inl x) => decide (lw_tbl[q.2.2]? = some (Cond.constantLong (zRn o) q.1 x)) && goodWord (Cond.constantLong (zRn o) q.1 x)
  | .inr (.inr (some a)) => zsr.any (fun r => decide (r.1 = o) && decide (r.2.1 = q.1) && decide (r.2.2.2.1 = a)) && decide (1000000 ≤ a)
  | _ => false
set_option maxRecDepth 20000 in
theorem zcstK : (List.range 19).all (fun o => (zcstTT.getD o []).all (zcstC o)) = true := by decide +kernel
def zclsC (o : Nat) (q : Nat × Nat × Nat) : Bool := if q.2.1 < 13 then decide (lw_tbl[q.2.2]? = some (Cond.classLink (zRn o) q.1 (zRn q.2.1))) && goodWord (Cond.classLink (zRn o) q.1 (zRn q.2.1)) else decide (q.2.1 = 99)
set_option maxRecDepth 20000 in
theorem zclsK : (List.range 19).all (fun o => (zclsTT.getD o []).all (zclsC o)) = true := by decide +kernel
def zinsP : List (Nat × Nat) := [(226, 126), (540, 133), (420, 129), (519, 132), (156, 123), (371, 128), (489, 131), (459, 130), (253, 127), (169, 124), (200, 125), (148, 122), (1372, 134)]
set_option maxRecDepth 20000 in
theorem zinsK : (List.range 13).all (fun ci => decide (lw_tbl[(zinsP.getD ci (0, 0)).1]? = some (Cond.instantiable (zRn ci) (zft ci).length)) && goodWord (Cond.instantiable (zRn ci) (zft ci).length) && decide (lw_tbl[(zinsP.getD ci (0, 0)).2]? = some (Cond.initialized (zRn ci))) && goodWord (Cond.initialized (zRn ci))) = true := by decide +kernel
set_option maxRecDepth 20000 in
theorem zarrK : Cond.arrayClass .byte ∈ zws ∧ Cond.arrayClass .int ∈ zws ∧ Cond.arrayClass .long ∈ zws := ⟨zws_in (i := 198) (by decide +kernel) rfl, zws_in (i := 199) (by decide +kernel) rfl, zws_in (i := 418) (by decide +kernel) rfl⟩
def zallC (q : zM × Nat) : Bool := decide (lw_tbl[q.2]? = some (Cond.code q.1.2.2.2.2.1 q.1.1 q.1.2.2.1 q.1.2.2.2.1)) && goodWord (Cond.code q.1.2.2.2.2.1 q.1.1 q.1.2.2.1 q.1.2.2.2.1) && decide (zRn q.1.2.1 = q.1.2.2.2.2.1.cls) && plainName q.1.2.2.2.2.1.cls && decide (q.1.2.2.2.2.1.cls ≠ "java/lang/invoke/MethodHandle") && decide (q.1.2.2.2.2.1.cls ≠ "java/lang/invoke/VarHandle") && decide (q.1.2.2.1 ≤ 30) && (q.1.2.2.2.2.2 == decide (q.1.2.2.2.2.1.name = "<init>"))
def zmthC (o : Nat) (q : Nat × Nat × Nat × zM × Nat × Nat × Nat × Nat × Nat) : Bool := match q with
  | (k, kd, na, cm, pl, pi, ps, pn, pc) => match kd with
    | 0 => zallC (cm, pc) && decide (lw_tbl[pl]? = some (Cond.methodLink (zRn o) k cm.2.2.2.2.1)) && goodWord (Cond.methodLink (zRn o) k cm.2.2.2.2.1) && decide (lw_tbl[pi]? = some (Cond.instanceMethod cm.2.2.2.2.1)) && goodWord (Cond.instanceMethod cm.2.2.2.2.1) && decide (lw_tbl[ps]? = some (Cond.selects (zRn cm.2.1) cm.2.2.2.2.1 cm.2.2.2.2.1)) && goodWord (Cond.selects (zRn cm.2.1) cm.2.2.2.2.1 cm.2.2.2.2.1) && decide (lw_tbl[pn]? = some (Cond.initialized cm.2.2.2.2.1.cls)) && goodWord (Cond.initialized cm.2.2.2.2.1.cls) && decide ((parseMethodDescriptor cm.2.2.2.2.1.desc).map (fun d => d.parameters.length + 1) = some na)
    | 1 => zallC (cm, pc) && decide (lw_tbl[pl]? = some (Cond.methodLink (zRn o) k cm.2.2.2.2.1)) && goodWord (Cond.methodLink (zRn o) k cm.2.2.2.2.1) && decide (lw_tbl[pi]? = some (Cond.static cm.2.2.2.2.1)) && goodWord (Cond.static cm.2.2.2.2.1) && decide (lw_tbl[pn]? = some (Cond.initialized cm.2.2.2.2.1.cls)) && goodWord (Cond.initialized cm.2.2.2.2.1.cls) && decide ((parseMethodDescriptor cm.2.2.2.2.1.desc).map (fun d => d.parameters.length) = some na)
    | 2 => zallC (cm, pc) && decide (lw_tbl[pl]? = some (Cond.methodLink (zRn o) k cm.2.2.2.2.1)) && goodWord (Cond.methodLink (zRn o) k cm.2.2.2.2.1) && decide (lw_tbl[pi]? = some (Cond.instanceMethod cm.2.2.2.2.1)) && goodWord (Cond.instanceMethod cm.2.2.2.2.1) && decide (lw_tbl[pn]? = some (Cond.initialized cm.2.2.2.2.1.cls)) && goodWord (Cond.initialized cm.2.2.2.2.1.cls) && decide ((parseMethodDescriptor cm.2.2.2.2.1.desc).map (fun d => d.parameters.length + 1) = some na) && decide (cm.2.2.2.2.1.name = "<init>") && decide (cm.2.2.2.1 = none)
    | 3 => zallC (cm, pc) && znm.any (fun r => decide (r.1 = o) && decide (r.2.1 = k) && decide (r.2.2.1.2.2.2.2.1 = cm.2.2.2.2.1)) && decide (lw_tbl[pi]? = some (Cond.static cm.2.2.2.2.1)) && goodWord (Cond.static cm.2.2.2.2.1) && decide (lw_tbl[pn]? = some (Cond.initialized cm.2.2.2.2.1.cls)) && goodWord (Cond.initialized cm.2.2.2.2.1.cls) && decide ((parseMethodDescriptor cm.2.2.2.2.1.desc).map (fun d => d.parameters.length) = some na)
    | 4 => zallC (cm, pc) && znm.any (fun r => decide (r.1 = o) && decide (r.2.1 = k) && decide (r.2.2.1.2.2.2.2.1 = cm.2.2.2.2.1)) && decide (lw_tbl[pi]? = some (Cond.instanceMethod cm.2.2.2.2.1)) && goodWord (Cond.instanceMethod cm.2.2.2.2.1) && decide (lw_tbl[pn]? = some (Cond.initialized cm.2.2.2.2.1.cls)) && goodWord (Cond.initialized cm.2.2.2.2.1.cls) && decide ((parseMethodDescriptor cm.2.2.2.2.1.desc).map (fun d => d.parameters.length + 1) = some na) && decide (cm.2.2.2.2.1.name = "<init>") && decide (cm.2.2.2.1 = none)
    | 10 => decide (lw_tbl[pl]? = some (Cond.methodLink (zRn o) k Lib.objectInit)) && goodWord (Cond.methodLink (zRn o) k Lib.objectInit)
    | 11 => decide (lw_tbl[pl]? = some (Cond.methodLink (zRn o) k Lib.Math.max.name)) && goodWord (Cond.methodLink (zRn o) k Lib.Math.max.name)
    | 12 => decide (lw_tbl[pl]? = some (Cond.methodLink (zRn o) k Lib.Math.min.name)) && goodWord (Cond.methodLink (zRn o) k Lib.Math.min.name)
    | 13 => decide (lw_tbl[pl]? = some (Cond.methodLink (zRn o) k Lib.Math.abs.name)) && goodWord (Cond.methodLink (zRn o) k Lib.Math.abs.name)
    | 14 => decide (lw_tbl[pl]? = some (Cond.methodLink (zRn o) k arraycopyName)) && goodWord (Cond.methodLink (zRn o) k arraycopyName)
    | _ => decide (kd = 16)
set_option maxRecDepth 20000 in
theorem zmthK0 : (zmthTT.getD 0 []).all (zmthC 0) = true := by decide +kernel
set_option maxRecDepth 20000 in
theorem zmthK1 : (zmthTT.getD 1 []).all (zmthC 1) = true := by decide +kernel
set_option maxRecDepth 20000 in
theorem zmthK2 : (zmthTT.getD 2 []).all (zmthC 2) = true := by decide +kernel
set_option maxRecDepth 20000 in
theorem zmthK3 : (zmthTT.getD 3 []).all (zmthC 3) = true := by decide +kernel
set_option maxRecDepth 20000 in
theorem zmthK4 : (zmthTT.getD 4 []).all (zmthC 4) = true := by decide +kernel
set_option maxRecDepth 20000 in
theorem zmthK5 : (zmthTT.getD 5 []).all (zmthC 5) = true := by decide +kernel
set_option maxRecDepth 20000 in
theorem zmthK6 : (zmthTT.getD 6 []).all (zmthC 6) = true := by decide +kernel
set_option maxRecDepth 20000 in
theorem zmthK7 : (zmthTT.getD 7 []).all (zmthC 7) = true := by decide +kernel
set_option maxRecDepth 20000 in
theorem zmthK8 : (zmthTT.getD 8 []).all (zmthC 8) = true := by decide +kernel
set_option maxRecDepth 20000 in
theorem zmthK9 : (zmthTT.getD 9 []).all (zmthC 9) = true := by decide +kernel
set_option maxRecDepth 20000 in
theorem zmthK10 : (zmthTT.getD 10 []).all (zmthC 10) = true := by decide +kernel
set_option maxRecDepth 20000 in
theorem zmthK11 : (zmthTT.getD 11 []).all (zmthC 11) = true := by decide +kernel
set_option maxRecDepth 20000 in
theorem zmthK12 : (zmthTT.getD 12 []).all (zmthC 12) = true := by decide +kernel
set_option maxRecDepth 20000 in
theorem zmthK13 : (zmthTT.getD 13 []).all (zmthC 13) = true := by decide +kernel
set_option maxRecDepth 20000 in
theorem zmthK14 : (zmthTT.getD 14 []).all (zmthC 14) = true := by decide +kernel
set_option maxRecDepth 20000 in
theorem zmthK15 : (zmthTT.getD 15 []).all (zmthC 15) = true := by decide +kernel
set_option maxRecDepth 20000 in
theorem zmthK16 : (zmthTT.getD 16 []).all (zmthC 16) = true := by decide +kernel
set_option maxRecDepth 20000 in
theorem zmthK17 : (zmthTT.getD 17 []).all (zmthC 17) = true := by decide +kernel
set_option maxRecDepth 20000 in
theorem zmthK18 : (zmthTT.getD 18 []).all (zmthC 18) = true := by decide +kernel
theorem zmthK : ∀ o, o < 19 → (zmthTT.getD o []).all (zmthC o) = true
  | 0, _ => zmthK0
  | 1, _ => zmthK1
  | 2, _ => zmthK2
  | 3, _ => zmthK3
  | 4, _ => zmthK4
  | 5, _ => zmthK5
  | 6, _ => zmthK6
  | 7, _ => zmthK7
  | 8, _ => zmthK8
  | 9, _ => zmthK9
  | 10, _ => zmthK10
  | 11, _ => zmthK11
  | 12, _ => zmthK12
  | 13, _ => zmthK13
  | 14, _ => zmthK14
  | 15, _ => zmthK15
  | 16, _ => zmthK16
  | 17, _ => zmthK17
  | 18, _ => zmthK18
set_option maxRecDepth 20000 in
theorem zallK : zall.all zallC = true := by decide +kernel
set_option maxRecDepth 20000 in
theorem zobjK : Cond.instanceMethod Lib.objectInit ∈ zws ∧ Cond.code Lib.objectInit ⟨#[0xb1]⟩ 1 none ∈ zws := ⟨zws_in (i := 153) (by decide +kernel) (by decide +kernel), zws_in (i := 154) (by decide +kernel) (by decide +kernel)⟩
set_option maxRecDepth 20000 in
theorem zmaxK : Cond.static Lib.Math.max.name ∈ zws ∧ Cond.initialized "java/lang/Math" ∈ zws ∧ Cond.code Lib.Math.max.name Lib.Math.max.code 2 (some .int) ∈ zws := ⟨zws_in (i := 1058) (by decide +kernel) (by decide +kernel), zws_in (i := 135) (by decide +kernel) (by decide +kernel), zws_in (i := 1059) (by decide +kernel) (by decide +kernel)⟩
set_option maxRecDepth 20000 in
theorem zminK : Cond.static Lib.Math.min.name ∈ zws ∧ Cond.initialized "java/lang/Math" ∈ zws ∧ Cond.code Lib.Math.min.name Lib.Math.min.code 2 (some .int) ∈ zws := ⟨zws_in (i := 640) (by decide +kernel) (by decide +kernel), zws_in (i := 135) (by decide +kernel) (by decide +kernel), zws_in (i := 641) (by decide +kernel) (by decide +kernel)⟩
set_option maxRecDepth 20000 in
theorem zabsK : Cond.static Lib.Math.abs.name ∈ zws ∧ Cond.initialized "java/lang/Math" ∈ zws ∧ Cond.code Lib.Math.abs.name Lib.Math.abs.code 1 (some .int) ∈ zws := ⟨zws_in (i := 1174) (by decide +kernel) (by decide +kernel), zws_in (i := 135) (by decide +kernel) (by decide +kernel), zws_in (i := 1175) (by decide +kernel) (by decide +kernel)⟩
set_option maxRecDepth 20000 in
theorem zcpyK : Cond.native arraycopyName ∈ zws ∧ Cond.static arraycopyName ∈ zws ∧ Cond.initialized "java/lang/System" ∈ zws := ⟨zws_in (i := 1255) (by decide +kernel) (by decide +kernel), zws_in (i := 1254) (by decide +kernel) (by decide +kernel), zws_in (i := 142) (by decide +kernel) (by decide +kernel)⟩
end
