section
-- ===== PART A: goes FIRST, ahead of the names: the tables' words, and 'selects' of the private methods out of them =====
/-- a private method of a class that the tables say can be made, by its rows of tables_1 -/
def lw_okq (q : MethodName × Nat) : Prop := (q.1.cls ≠ "java/lang/invoke/MethodHandle" ∧ q.1.cls ≠ "java/lang/invoke/VarHandle") ∧ Cond.instantiable q.1.cls q.2 ∈ tables_1 ∧ Cond.privateMethod q.1 ∈ tables_1 ∧ Cond.instanceMethod q.1 ∈ tables_1
theorem lw_p0 : lw_okq (⟨"WhalePost", "appendBytes", "(I)V"⟩, 16) := ⟨⟨by decide +kernel, by decide +kernel⟩, List.mem_of_getElem? (i := 27) (by decide +kernel), List.mem_of_getElem? (i := 499) (by decide +kernel), List.mem_of_getElem? (i := 500) (by decide +kernel)⟩
theorem lw_p1 : lw_okq (⟨"WhalePost", "refused", "(I)I"⟩, 16) := ⟨⟨by decide +kernel, by decide +kernel⟩, List.mem_of_getElem? (i := 27) (by decide +kernel), List.mem_of_getElem? (i := 507) (by decide +kernel), List.mem_of_getElem? (i := 508) (by decide +kernel)⟩
theorem lw_p2 : lw_okq (⟨"WhalePost$Reader", "readLine", "()Z"⟩, 13) := ⟨⟨by decide +kernel, by decide +kernel⟩, List.mem_of_getElem? (i := 250) (by decide +kernel), List.mem_of_getElem? (i := 522) (by decide +kernel), List.mem_of_getElem? (i := 523) (by decide +kernel)⟩
theorem lw_p3 : lw_okq (⟨"WhalePost$Reader", "nextToken", "()V"⟩, 13) := ⟨⟨by decide +kernel, by decide +kernel⟩, List.mem_of_getElem? (i := 250) (by decide +kernel), List.mem_of_getElem? (i := 526) (by decide +kernel), List.mem_of_getElem? (i := 527) (by decide +kernel)⟩
theorem lw_p4 : lw_okq (⟨"WhalePost$Reader", "passAll", "(CC)Z"⟩, 13) := ⟨⟨by decide +kernel, by decide +kernel⟩, List.mem_of_getElem? (i := 250) (by decide +kernel), List.mem_of_getElem? (i := 530) (by decide +kernel), List.mem_of_getElem? (i := 531) (by decide +kernel)⟩
theorem lw_p5 : lw_okq (⟨"WhalePost$Reader", "sortOfLine", "()I"⟩, 13) := ⟨⟨by decide +kernel, by decide +kernel⟩, List.mem_of_getElem? (i := 250) (by decide +kernel), List.mem_of_getElem? (i := 534) (by decide +kernel), List.mem_of_getElem? (i := 535) (by decide +kernel)⟩
theorem lw_p6 : lw_okq (⟨"WhalePost$Reader", "isToken", "(Ljava/lang/String;)Z"⟩, 13) := ⟨⟨by decide +kernel, by decide +kernel⟩, List.mem_of_getElem? (i := 250) (by decide +kernel), List.mem_of_getElem? (i := 539) (by decide +kernel), List.mem_of_getElem? (i := 540) (by decide +kernel)⟩
theorem lw_p7 : lw_okq (⟨"WhalePost$Reader", "faulty", "(I)Z"⟩, 13) := ⟨⟨by decide +kernel, by decide +kernel⟩, List.mem_of_getElem? (i := 250) (by decide +kernel), List.mem_of_getElem? (i := 596) (by decide +kernel), List.mem_of_getElem? (i := 597) (by decide +kernel)⟩
theorem lw_p8 : lw_okq (⟨"WhalePost$Reader", "readHead", "()Z"⟩, 13) := ⟨⟨by decide +kernel, by decide +kernel⟩, List.mem_of_getElem? (i := 250) (by decide +kernel), List.mem_of_getElem? (i := 600) (by decide +kernel), List.mem_of_getElem? (i := 601) (by decide +kernel)⟩
theorem lw_p9 : lw_okq (⟨"WhalePost$Reader", "word", "(Ljava/lang/String;)Z"⟩, 13) := ⟨⟨by decide +kernel, by decide +kernel⟩, List.mem_of_getElem? (i := 250) (by decide +kernel), List.mem_of_getElem? (i := 605) (by decide +kernel), List.mem_of_getElem? (i := 606) (by decide +kernel)⟩
theorem lw_p10 : lw_okq (⟨"WhalePost$Reader", "whole", "(II)Z"⟩, 13) := ⟨⟨by decide +kernel, by decide +kernel⟩, List.mem_of_getElem? (i := 250) (by decide +kernel), List.mem_of_getElem? (i := 609) (by decide +kernel), List.mem_of_getElem? (i := 610) (by decide +kernel)⟩
theorem lw_p11 : lw_okq (⟨"WhalePost$Reader", "readIsland", "()Z"⟩, 13) := ⟨⟨by decide +kernel, by decide +kernel⟩, List.mem_of_getElem? (i := 250) (by decide +kernel), List.mem_of_getElem? (i := 616) (by decide +kernel), List.mem_of_getElem? (i := 617) (by decide +kernel)⟩
theorem lw_p12 : lw_okq (⟨"WhalePost$Reader", "newName", "(II)Z"⟩, 13) := ⟨⟨by decide +kernel, by decide +kernel⟩, List.mem_of_getElem? (i := 250) (by decide +kernel), List.mem_of_getElem? (i := 620) (by decide +kernel), List.mem_of_getElem? (i := 621) (by decide +kernel)⟩
theorem lw_p13 : lw_okq (⟨"WhalePost$Reader", "nameOfToken", "()I"⟩, 13) := ⟨⟨by decide +kernel, by decide +kernel⟩, List.mem_of_getElem? (i := 250) (by decide +kernel), List.mem_of_getElem? (i := 624) (by decide +kernel), List.mem_of_getElem? (i := 625) (by decide +kernel)⟩
theorem lw_p14 : lw_okq (⟨"WhalePost$Reader", "letters", "()J"⟩, 13) := ⟨⟨by decide +kernel, by decide +kernel⟩, List.mem_of_getElem? (i := 250) (by decide +kernel), List.mem_of_getElem? (i := 628) (by decide +kernel), List.mem_of_getElem? (i := 629) (by decide +kernel)⟩
theorem lw_p15 : lw_okq (⟨"WhalePost$Reader", "songOfToken", "()I"⟩, 13) := ⟨⟨by decide +kernel, by decide +kernel⟩, List.mem_of_getElem? (i := 250) (by decide +kernel), List.mem_of_getElem? (i := 632) (by decide +kernel), List.mem_of_getElem? (i := 633) (by decide +kernel)⟩
def lw_privs_1 : List (MethodName × Nat) := [(⟨"WhalePost", "appendBytes", "(I)V"⟩, 16), (⟨"WhalePost", "refused", "(I)I"⟩, 16), (⟨"WhalePost$Reader", "readLine", "()Z"⟩, 13), (⟨"WhalePost$Reader", "nextToken", "()V"⟩, 13), (⟨"WhalePost$Reader", "passAll", "(CC)Z"⟩, 13), (⟨"WhalePost$Reader", "sortOfLine", "()I"⟩, 13), (⟨"WhalePost$Reader", "isToken", "(Ljava/lang/String;)Z"⟩, 13), (⟨"WhalePost$Reader", "faulty", "(I)Z"⟩, 13), (⟨"WhalePost$Reader", "readHead", "()Z"⟩, 13), (⟨"WhalePost$Reader", "word", "(Ljava/lang/String;)Z"⟩, 13), (⟨"WhalePost$Reader", "whole", "(II)Z"⟩, 13), (⟨"WhalePost$Reader", "readIsland", "()Z"⟩, 13), (⟨"WhalePost$Reader", "newName", "(II)Z"⟩, 13), (⟨"WhalePost$Reader", "nameOfToken", "()I"⟩, 13), (⟨"WhalePost$Reader", "letters", "()J"⟩, 13), (⟨"WhalePost$Reader", "songOfToken", "()I"⟩, 13)]
theorem lw_r1 : ∀ q ∈ lw_privs_1, lw_okq q := List.forall_mem_cons.mpr ⟨lw_p0, List.forall_mem_cons.mpr ⟨lw_p1, List.forall_mem_cons.mpr ⟨lw_p2, List.forall_mem_cons.mpr ⟨lw_p3, List.forall_mem_cons.mpr ⟨lw_p4, List.forall_mem_cons.mpr ⟨lw_p5, List.forall_mem_cons.mpr ⟨lw_p6, List.forall_mem_cons.mpr ⟨lw_p7, List.forall_mem_cons.mpr ⟨lw_p8, List.forall_mem_cons.mpr ⟨lw_p9, List.forall_mem_cons.mpr ⟨lw_p10, List.forall_mem_cons.mpr ⟨lw_p11, List.forall_mem_cons.mpr ⟨lw_p12, List.forall_mem_cons.mpr ⟨lw_p13, List.forall_mem_cons.mpr ⟨lw_p14, List.forall_mem_cons.mpr ⟨lw_p15, fun _ h => absurd h List.not_mem_nil⟩⟩⟩⟩⟩⟩⟩⟩⟩⟩⟩⟩⟩⟩⟩⟩
theorem lw_p16 : lw_okq (⟨"WhalePost$Reader", "readWay", "(LWhalePost$Way;)Z"⟩, 13) := ⟨⟨by decide +kernel, by decide +kernel⟩, List.mem_of_getElem? (i := 250) (by decide +kernel), List.mem_of_getElem? (i := 640) (by decide +kernel), List.mem_of_getElem? (i := 641) (by decide +kernel)⟩
theorem lw_p17 : lw_okq (⟨"WhalePost$Reader", "toldName", "(I)Z"⟩, 13) := ⟨⟨by decide +kernel, by decide +kernel⟩, List.mem_of_getElem? (i := 250) (by decide +kernel), List.mem_of_getElem? (i := 644) (by decide +kernel), List.mem_of_getElem? (i := 645) (by decide +kernel)⟩
theorem lw_p18 : lw_okq (⟨"WhalePost$Reader", "readWhale", "(LWhalePost$Whale;)Z"⟩, 13) := ⟨⟨by decide +kernel, by decide +kernel⟩, List.mem_of_getElem? (i := 250) (by decide +kernel), List.mem_of_getElem? (i := 654) (by decide +kernel), List.mem_of_getElem? (i := 655) (by decide +kernel)⟩
theorem lw_p19 : lw_okq (⟨"WhalePost$Reader", "kindOfToken", "()I"⟩, 13) := ⟨⟨by decide +kernel, by decide +kernel⟩, List.mem_of_getElem? (i := 250) (by decide +kernel), List.mem_of_getElem? (i := 658) (by decide +kernel), List.mem_of_getElem? (i := 659) (by decide +kernel)⟩
theorem lw_p20 : lw_okq (⟨"WhalePost$Reader", "readBox", "(LWhalePost$Box;)Z"⟩, 13) := ⟨⟨by decide +kernel, by decide +kernel⟩, List.mem_of_getElem? (i := 250) (by decide +kernel), List.mem_of_getElem? (i := 669) (by decide +kernel), List.mem_of_getElem? (i := 670) (by decide +kernel)⟩
theorem lw_p21 : lw_okq (⟨"WhalePost$Reader", "readSpout", "(LWhalePost$Spout;)Z"⟩, 13) := ⟨⟨by decide +kernel, by decide +kernel⟩, List.mem_of_getElem? (i := 250) (by decide +kernel), List.mem_of_getElem? (i := 677) (by decide +kernel), List.mem_of_getElem? (i := 678) (by decide +kernel)⟩
theorem lw_p22 : lw_okq (⟨"WhalePost", "takeDraft", "()V"⟩, 16) := ⟨⟨by decide +kernel, by decide +kernel⟩, List.mem_of_getElem? (i := 27) (by decide +kernel), List.mem_of_getElem? (i := 685) (by decide +kernel), List.mem_of_getElem? (i := 686) (by decide +kernel)⟩
theorem lw_p23 : lw_okq (⟨"WhalePost", "granted", "(I)I"⟩, 16) := ⟨⟨by decide +kernel, by decide +kernel⟩, List.mem_of_getElem? (i := 27) (by decide +kernel), List.mem_of_getElem? (i := 693) (by decide +kernel), List.mem_of_getElem? (i := 694) (by decide +kernel)⟩
theorem lw_p24 : lw_okq (⟨"WhalePost", "isWhale", "(I)Z"⟩, 16) := ⟨⟨by decide +kernel, by decide +kernel⟩, List.mem_of_getElem? (i := 27) (by decide +kernel), List.mem_of_getElem? (i := 709) (by decide +kernel), List.mem_of_getElem? (i := 710) (by decide +kernel)⟩
theorem lw_p25 : lw_okq (⟨"WhalePost", "isBox", "(I)Z"⟩, 16) := ⟨⟨by decide +kernel, by decide +kernel⟩, List.mem_of_getElem? (i := 27) (by decide +kernel), List.mem_of_getElem? (i := 717) (by decide +kernel), List.mem_of_getElem? (i := 718) (by decide +kernel)⟩
theorem lw_p26 : lw_okq (⟨"WhalePost", "isIsland", "(I)Z"⟩, 16) := ⟨⟨by decide +kernel, by decide +kernel⟩, List.mem_of_getElem? (i := 27) (by decide +kernel), List.mem_of_getElem? (i := 725) (by decide +kernel), List.mem_of_getElem? (i := 726) (by decide +kernel)⟩
theorem lw_p27 : lw_okq (⟨"WhalePost$Songs", "fallIn", "(I)I"⟩, 6) := ⟨⟨by decide +kernel, by decide +kernel⟩, List.mem_of_getElem? (i := 338) (by decide +kernel), List.mem_of_getElem? (i := 737) (by decide +kernel), List.mem_of_getElem? (i := 738) (by decide +kernel)⟩
theorem lw_p28 : lw_okq (⟨"WhalePost$Songs", "raised", "(III)I"⟩, 6) := ⟨⟨by decide +kernel, by decide +kernel⟩, List.mem_of_getElem? (i := 338) (by decide +kernel), List.mem_of_getElem? (i := 741) (by decide +kernel), List.mem_of_getElem? (i := 742) (by decide +kernel)⟩
theorem lw_p29 : lw_okq (⟨"WhalePost", "isNoteOfBox", "(II)Z"⟩, 16) := ⟨⟨by decide +kernel, by decide +kernel⟩, List.mem_of_getElem? (i := 27) (by decide +kernel), List.mem_of_getElem? (i := 753) (by decide +kernel), List.mem_of_getElem? (i := 754) (by decide +kernel)⟩
theorem lw_p30 : lw_okq (⟨"WhalePost", "hearerIn", "(II)I"⟩, 16) := ⟨⟨by decide +kernel, by decide +kernel⟩, List.mem_of_getElem? (i := 27) (by decide +kernel), List.mem_of_getElem? (i := 765) (by decide +kernel), List.mem_of_getElem? (i := 766) (by decide +kernel)⟩
theorem lw_p31 : lw_okq (⟨"WhalePost", "areTwoIslands", "(II)Z"⟩, 16) := ⟨⟨by decide +kernel, by decide +kernel⟩, List.mem_of_getElem? (i := 27) (by decide +kernel), List.mem_of_getElem? (i := 786) (by decide +kernel), List.mem_of_getElem? (i := 787) (by decide +kernel)⟩
def lw_privs_2 : List (MethodName × Nat) := [(⟨"WhalePost$Reader", "readWay", "(LWhalePost$Way;)Z"⟩, 13), (⟨"WhalePost$Reader", "toldName", "(I)Z"⟩, 13), (⟨"WhalePost$Reader", "readWhale", "(LWhalePost$Whale;)Z"⟩, 13), (⟨"WhalePost$Reader", "kindOfToken", "()I"⟩, 13), (⟨"WhalePost$Reader", "readBox", "(LWhalePost$Box;)Z"⟩, 13), (⟨"WhalePost$Reader", "readSpout", "(LWhalePost$Spout;)Z"⟩, 13), (⟨"WhalePost", "takeDraft", "()V"⟩, 16), (⟨"WhalePost", "granted", "(I)I"⟩, 16), (⟨"WhalePost", "isWhale", "(I)Z"⟩, 16), (⟨"WhalePost", "isBox", "(I)Z"⟩, 16), (⟨"WhalePost", "isIsland", "(I)Z"⟩, 16), (⟨"WhalePost$Songs", "fallIn", "(I)I"⟩, 6), (⟨"WhalePost$Songs", "raised", "(III)I"⟩, 6), (⟨"WhalePost", "isNoteOfBox", "(II)Z"⟩, 16), (⟨"WhalePost", "hearerIn", "(II)I"⟩, 16), (⟨"WhalePost", "areTwoIslands", "(II)Z"⟩, 16)]
theorem lw_r2 : ∀ q ∈ lw_privs_2, lw_okq q := List.forall_mem_cons.mpr ⟨lw_p16, List.forall_mem_cons.mpr ⟨lw_p17, List.forall_mem_cons.mpr ⟨lw_p18, List.forall_mem_cons.mpr ⟨lw_p19, List.forall_mem_cons.mpr ⟨lw_p20, List.forall_mem_cons.mpr ⟨lw_p21, List.forall_mem_cons.mpr ⟨lw_p22, List.forall_mem_cons.mpr ⟨lw_p23, List.forall_mem_cons.mpr ⟨lw_p24, List.forall_mem_cons.mpr ⟨lw_p25, List.forall_mem_cons.mpr ⟨lw_p26, List.forall_mem_cons.mpr ⟨lw_p27, List.forall_mem_cons.mpr ⟨lw_p28, List.forall_mem_cons.mpr ⟨lw_p29, List.forall_mem_cons.mpr ⟨lw_p30, List.forall_mem_cons.mpr ⟨lw_p31, fun _ h => absurd h List.not_mem_nil⟩⟩⟩⟩⟩⟩⟩⟩⟩⟩⟩⟩⟩⟩⟩⟩
theorem lw_p32 : lw_okq (⟨"WhalePost", "hasPost", "()Z"⟩, 16) := ⟨⟨by decide +kernel, by decide +kernel⟩, List.mem_of_getElem? (i := 27) (by decide +kernel), List.mem_of_getElem? (i := 799) (by decide +kernel), List.mem_of_getElem? (i := 800) (by decide +kernel)⟩
theorem lw_p33 : lw_okq (⟨"WhalePost", "isWay", "(I)Z"⟩, 16) := ⟨⟨by decide +kernel, by decide +kernel⟩, List.mem_of_getElem? (i := 27) (by decide +kernel), List.mem_of_getElem? (i := 811) (by decide +kernel), List.mem_of_getElem? (i := 812) (by decide +kernel)⟩
theorem lw_p34 : lw_okq (⟨"WhalePost", "sentPart", "(II)I"⟩, 16) := ⟨⟨by decide +kernel, by decide +kernel⟩, List.mem_of_getElem? (i := 27) (by decide +kernel), List.mem_of_getElem? (i := 827) (by decide +kernel), List.mem_of_getElem? (i := 828) (by decide +kernel)⟩
theorem lw_p35 : lw_okq (⟨"WhalePost", "refusalOfNewSong", "(II)I"⟩, 16) := ⟨⟨by decide +kernel, by decide +kernel⟩, List.mem_of_getElem? (i := 27) (by decide +kernel), List.mem_of_getElem? (i := 860) (by decide +kernel), List.mem_of_getElem? (i := 861) (by decide +kernel)⟩
theorem lw_p36 : lw_okq (⟨"WhalePost$Songs", "keepSongsOf", "(II)I"⟩, 6) := ⟨⟨by decide +kernel, by decide +kernel⟩, List.mem_of_getElem? (i := 338) (by decide +kernel), List.mem_of_getElem? (i := 868) (by decide +kernel), List.mem_of_getElem? (i := 869) (by decide +kernel)⟩
theorem lw_p37 : lw_okq (⟨"WhalePost$Songs", "isOfNotes", "(II)Z"⟩, 6) := ⟨⟨by decide +kernel, by decide +kernel⟩, List.mem_of_getElem? (i := 338) (by decide +kernel), List.mem_of_getElem? (i := 873) (by decide +kernel), List.mem_of_getElem? (i := 874) (by decide +kernel)⟩
theorem lw_p38 : lw_okq (⟨"WhalePost$Songs", "isFarFromKept", "(III)Z"⟩, 6) := ⟨⟨by decide +kernel, by decide +kernel⟩, List.mem_of_getElem? (i := 338) (by decide +kernel), List.mem_of_getElem? (i := 877) (by decide +kernel), List.mem_of_getElem? (i := 878) (by decide +kernel)⟩
theorem lw_p39 : lw_okq (⟨"WhalePost$Sea", "findFirstDays", "(III)V"⟩, 7) := ⟨⟨by decide +kernel, by decide +kernel⟩, List.mem_of_getElem? (i := 368) (by decide +kernel), List.mem_of_getElem? (i := 909) (by decide +kernel), List.mem_of_getElem? (i := 910) (by decide +kernel)⟩
theorem lw_p40 : lw_okq (⟨"WhalePost$Sea", "goes", "(ILWhalePost$Way;II)Z"⟩, 7) := ⟨⟨by decide +kernel, by decide +kernel⟩, List.mem_of_getElem? (i := 368) (by decide +kernel), List.mem_of_getElem? (i := 918) (by decide +kernel), List.mem_of_getElem? (i := 919) (by decide +kernel)⟩
theorem lw_p41 : lw_okq (⟨"WhalePost", "solveMatch", "()V"⟩, 16) := ⟨⟨by decide +kernel, by decide +kernel⟩, List.mem_of_getElem? (i := 27) (by decide +kernel), List.mem_of_getElem? (i := 977) (by decide +kernel), List.mem_of_getElem? (i := 978) (by decide +kernel)⟩
theorem lw_p42 : lw_okq (⟨"WhalePost$Matching", "worth", "(III)I"⟩, 5) := ⟨⟨by decide +kernel, by decide +kernel⟩, List.mem_of_getElem? (i := 419) (by decide +kernel), List.mem_of_getElem? (i := 986) (by decide +kernel), List.mem_of_getElem? (i := 987) (by decide +kernel)⟩
theorem lw_p43 : lw_okq (⟨"WhalePost$Matching", "choose", "(II)V"⟩, 5) := ⟨⟨by decide +kernel, by decide +kernel⟩, List.mem_of_getElem? (i := 419) (by decide +kernel), List.mem_of_getElem? (i := 992) (by decide +kernel), List.mem_of_getElem? (i := 993) (by decide +kernel)⟩
theorem lw_p44 : lw_okq (⟨"WhalePost$Matching", "firstBest", "(III)I"⟩, 5) := ⟨⟨by decide +kernel, by decide +kernel⟩, List.mem_of_getElem? (i := 419) (by decide +kernel), List.mem_of_getElem? (i := 996) (by decide +kernel), List.mem_of_getElem? (i := 997) (by decide +kernel)⟩
theorem lw_p45 : lw_okq (⟨"WhalePost$Sea", "isFitting", "(I)Z"⟩, 7) := ⟨⟨by decide +kernel, by decide +kernel⟩, List.mem_of_getElem? (i := 368) (by decide +kernel), List.mem_of_getElem? (i := 1025) (by decide +kernel), List.mem_of_getElem? (i := 1026) (by decide +kernel)⟩
theorem lw_p46 : lw_okq (⟨"WhalePost$Sea", "whalesReaching", "(II)I"⟩, 7) := ⟨⟨by decide +kernel, by decide +kernel⟩, List.mem_of_getElem? (i := 368) (by decide +kernel), List.mem_of_getElem? (i := 1048) (by decide +kernel), List.mem_of_getElem? (i := 1049) (by decide +kernel)⟩
theorem lw_p47 : lw_okq (⟨"WhalePost$Paths", "waysOutOf", "(I)I"⟩, 4) := ⟨⟨by decide +kernel, by decide +kernel⟩, List.mem_of_getElem? (i := 398) (by decide +kernel), List.mem_of_getElem? (i := 1064) (by decide +kernel), List.mem_of_getElem? (i := 1065) (by decide +kernel)⟩
def lw_privs_3 : List (MethodName × Nat) := [(⟨"WhalePost", "hasPost", "()Z"⟩, 16), (⟨"WhalePost", "isWay", "(I)Z"⟩, 16), (⟨"WhalePost", "sentPart", "(II)I"⟩, 16), (⟨"WhalePost", "refusalOfNewSong", "(II)I"⟩, 16), (⟨"WhalePost$Songs", "keepSongsOf", "(II)I"⟩, 6), (⟨"WhalePost$Songs", "isOfNotes", "(II)Z"⟩, 6), (⟨"WhalePost$Songs", "isFarFromKept", "(III)Z"⟩, 6), (⟨"WhalePost$Sea", "findFirstDays", "(III)V"⟩, 7), (⟨"WhalePost$Sea", "goes", "(ILWhalePost$Way;II)Z"⟩, 7), (⟨"WhalePost", "solveMatch", "()V"⟩, 16), (⟨"WhalePost$Matching", "worth", "(III)I"⟩, 5), (⟨"WhalePost$Matching", "choose", "(II)V"⟩, 5), (⟨"WhalePost$Matching", "firstBest", "(III)I"⟩, 5), (⟨"WhalePost$Sea", "isFitting", "(I)Z"⟩, 7), (⟨"WhalePost$Sea", "whalesReaching", "(II)I"⟩, 7), (⟨"WhalePost$Paths", "waysOutOf", "(I)I"⟩, 4)]
theorem lw_r3 : ∀ q ∈ lw_privs_3, lw_okq q := List.forall_mem_cons.mpr ⟨lw_p32, List.forall_mem_cons.mpr ⟨lw_p33, List.forall_mem_cons.mpr ⟨lw_p34, List.forall_mem_cons.mpr ⟨lw_p35, List.forall_mem_cons.mpr ⟨lw_p36, List.forall_mem_cons.mpr ⟨lw_p37, List.forall_mem_cons.mpr ⟨lw_p38, List.forall_mem_cons.mpr ⟨lw_p39, List.forall_mem_cons.mpr ⟨lw_p40, List.forall_mem_cons.mpr ⟨lw_p41, List.forall_mem_cons.mpr ⟨lw_p42, List.forall_mem_cons.mpr ⟨lw_p43, List.forall_mem_cons.mpr ⟨lw_p44, List.forall_mem_cons.mpr ⟨lw_p45, List.forall_mem_cons.mpr ⟨lw_p46, List.forall_mem_cons.mpr ⟨lw_p47, fun _ h => absurd h List.not_mem_nil⟩⟩⟩⟩⟩⟩⟩⟩⟩⟩⟩⟩⟩⟩⟩⟩
theorem lw_p48 : lw_okq (⟨"WhalePost$Paths", "findShortest", "(I)V"⟩, 4) := ⟨⟨by decide +kernel, by decide +kernel⟩, List.mem_of_getElem? (i := 398) (by decide +kernel), List.mem_of_getElem? (i := 1077) (by decide +kernel), List.mem_of_getElem? (i := 1078) (by decide +kernel)⟩
theorem lw_p49 : lw_okq (⟨"WhalePost$Paths", "findRests", "()V"⟩, 4) := ⟨⟨by decide +kernel, by decide +kernel⟩, List.mem_of_getElem? (i := 398) (by decide +kernel), List.mem_of_getElem? (i := 1084) (by decide +kernel), List.mem_of_getElem? (i := 1085) (by decide +kernel)⟩
theorem lw_p50 : lw_okq (⟨"WhalePost$Paths", "daysOver", "(III)I"⟩, 4) := ⟨⟨by decide +kernel, by decide +kernel⟩, List.mem_of_getElem? (i := 398) (by decide +kernel), List.mem_of_getElem? (i := 1088) (by decide +kernel), List.mem_of_getElem? (i := 1089) (by decide +kernel)⟩
theorem lw_p51 : lw_okq (⟨"WhalePost$Paths", "nextOf", "(II)I"⟩, 4) := ⟨⟨by decide +kernel, by decide +kernel⟩, List.mem_of_getElem? (i := 398) (by decide +kernel), List.mem_of_getElem? (i := 1092) (by decide +kernel), List.mem_of_getElem? (i := 1093) (by decide +kernel)⟩
theorem lw_p52 : lw_okq (⟨"WhalePost", "heardWithSlips", "(I)I"⟩, 16) := ⟨⟨by decide +kernel, by decide +kernel⟩, List.mem_of_getElem? (i := 27) (by decide +kernel), List.mem_of_getElem? (i := 1105) (by decide +kernel), List.mem_of_getElem? (i := 1106) (by decide +kernel)⟩
theorem lw_p53 : lw_okq (⟨"WhalePost$Songs", "draw", "()I"⟩, 6) := ⟨⟨by decide +kernel, by decide +kernel⟩, List.mem_of_getElem? (i := 338) (by decide +kernel), List.mem_of_getElem? (i := 1113) (by decide +kernel), List.mem_of_getElem? (i := 1114) (by decide +kernel)⟩
theorem lw_p54 : lw_okq (⟨"WhalePost", "keepForUndo", "()V"⟩, 16) := ⟨⟨by decide +kernel, by decide +kernel⟩, List.mem_of_getElem? (i := 27) (by decide +kernel), List.mem_of_getElem? (i := 1125) (by decide +kernel), List.mem_of_getElem? (i := 1126) (by decide +kernel)⟩
theorem lw_p55 : lw_okq (⟨"WhalePost", "hasRefused", "(I)Z"⟩, 16) := ⟨⟨by decide +kernel, by decide +kernel⟩, List.mem_of_getElem? (i := 27) (by decide +kernel), List.mem_of_getElem? (i := 1141) (by decide +kernel), List.mem_of_getElem? (i := 1142) (by decide +kernel)⟩
theorem lw_p56 : lw_okq (⟨"WhalePost", "hasGranted", "()Z"⟩, 16) := ⟨⟨by decide +kernel, by decide +kernel⟩, List.mem_of_getElem? (i := 27) (by decide +kernel), List.mem_of_getElem? (i := 1146) (by decide +kernel), List.mem_of_getElem? (i := 1147) (by decide +kernel)⟩
theorem lw_p57 : lw_okq (⟨"java/lang/Throwable", "fillInStackTrace", "(I)Ljava/lang/Throwable;"⟩, 6) := ⟨⟨by decide +kernel, by decide +kernel⟩, List.mem_of_getElem? (i := 1222) (by decide +kernel), List.mem_of_getElem? (i := 1220) (by decide +kernel), List.mem_of_getElem? (i := 1221) (by decide +kernel)⟩
theorem lw_p58 : lw_okq (⟨"WhalePostModel", "good", "()V"⟩, 39) := ⟨⟨by decide +kernel, by decide +kernel⟩, List.mem_of_getElem? (i := 1251) (by decide +kernel), List.mem_of_getElem? (i := 1387) (by decide +kernel), List.mem_of_getElem? (i := 1388) (by decide +kernel)⟩
theorem lw_p59 : lw_okq (⟨"WhalePostModel", "no", "(I)I"⟩, 39) := ⟨⟨by decide +kernel, by decide +kernel⟩, List.mem_of_getElem? (i := 1251) (by decide +kernel), List.mem_of_getElem? (i := 1394) (by decide +kernel), List.mem_of_getElem? (i := 1395) (by decide +kernel)⟩
theorem lw_p60 : lw_okq (⟨"WhalePostModel", "next", "()V"⟩, 39) := ⟨⟨by decide +kernel, by decide +kernel⟩, List.mem_of_getElem? (i := 1251) (by decide +kernel), List.mem_of_getElem? (i := 1398) (by decide +kernel), List.mem_of_getElem? (i := 1399) (by decide +kernel)⟩
theorem lw_p61 : lw_okq (⟨"WhalePostModel", "look", "(I)I"⟩, 39) := ⟨⟨by decide +kernel, by decide +kernel⟩, List.mem_of_getElem? (i := 1251) (by decide +kernel), List.mem_of_getElem? (i := 1402) (by decide +kernel), List.mem_of_getElem? (i := 1403) (by decide +kernel)⟩
theorem lw_p62 : lw_okq (⟨"WhalePostModel", "readLine", "()V"⟩, 39) := ⟨⟨by decide +kernel, by decide +kernel⟩, List.mem_of_getElem? (i := 1251) (by decide +kernel), List.mem_of_getElem? (i := 1412) (by decide +kernel), List.mem_of_getElem? (i := 1413) (by decide +kernel)⟩
theorem lw_p63 : lw_okq (⟨"WhalePostModel", "isWord", "(Ljava/lang/String;)Z"⟩, 39) := ⟨⟨by decide +kernel, by decide +kernel⟩, List.mem_of_getElem? (i := 1251) (by decide +kernel), List.mem_of_getElem? (i := 1417) (by decide +kernel), List.mem_of_getElem? (i := 1418) (by decide +kernel)⟩
def lw_privs_4 : List (MethodName × Nat) := [(⟨"WhalePost$Paths", "findShortest", "(I)V"⟩, 4), (⟨"WhalePost$Paths", "findRests", "()V"⟩, 4), (⟨"WhalePost$Paths", "daysOver", "(III)I"⟩, 4), (⟨"WhalePost$Paths", "nextOf", "(II)I"⟩, 4), (⟨"WhalePost", "heardWithSlips", "(I)I"⟩, 16), (⟨"WhalePost$Songs", "draw", "()I"⟩, 6), (⟨"WhalePost", "keepForUndo", "()V"⟩, 16), (⟨"WhalePost", "hasRefused", "(I)Z"⟩, 16), (⟨"WhalePost", "hasGranted", "()Z"⟩, 16), (⟨"java/lang/Throwable", "fillInStackTrace", "(I)Ljava/lang/Throwable;"⟩, 6), (⟨"WhalePostModel", "good", "()V"⟩, 39), (⟨"WhalePostModel", "no", "(I)I"⟩, 39), (⟨"WhalePostModel", "next", "()V"⟩, 39), (⟨"WhalePostModel", "look", "(I)I"⟩, 39), (⟨"WhalePostModel", "readLine", "()V"⟩, 39), (⟨"WhalePostModel", "isWord", "(Ljava/lang/String;)Z"⟩, 39)]
theorem lw_r4 : ∀ q ∈ lw_privs_4, lw_okq q := List.forall_mem_cons.mpr ⟨lw_p48, List.forall_mem_cons.mpr ⟨lw_p49, List.forall_mem_cons.mpr ⟨lw_p50, List.forall_mem_cons.mpr ⟨lw_p51, List.forall_mem_cons.mpr ⟨lw_p52, List.forall_mem_cons.mpr ⟨lw_p53, List.forall_mem_cons.mpr ⟨lw_p54, List.forall_mem_cons.mpr ⟨lw_p55, List.forall_mem_cons.mpr ⟨lw_p56, List.forall_mem_cons.mpr ⟨lw_p57, List.forall_mem_cons.mpr ⟨lw_p58, List.forall_mem_cons.mpr ⟨lw_p59, List.forall_mem_cons.mpr ⟨lw_p60, List.forall_mem_cons.mpr ⟨lw_p61, List.forall_mem_cons.mpr ⟨lw_p62, List.forall_mem_cons.mpr ⟨lw_p63, fun _ h => absurd h List.not_mem_nil⟩⟩⟩⟩⟩⟩⟩⟩⟩⟩⟩⟩⟩⟩⟩⟩
theorem lw_p64 : lw_okq (⟨"WhalePostModel", "postLine", "()V"⟩, 39) := ⟨⟨by decide +kernel, by decide +kernel⟩, List.mem_of_getElem? (i := 1251) (by decide +kernel), List.mem_of_getElem? (i := 1423) (by decide +kernel), List.mem_of_getElem? (i := 1424) (by decide +kernel)⟩
theorem lw_p65 : lw_okq (⟨"WhalePostModel", "wrong", "(II)V"⟩, 39) := ⟨⟨by decide +kernel, by decide +kernel⟩, List.mem_of_getElem? (i := 1251) (by decide +kernel), List.mem_of_getElem? (i := 1427) (by decide +kernel), List.mem_of_getElem? (i := 1428) (by decide +kernel)⟩
theorem lw_p66 : lw_okq (⟨"WhalePostModel", "after", "(Ljava/lang/String;II)I"⟩, 39) := ⟨⟨by decide +kernel, by decide +kernel⟩, List.mem_of_getElem? (i := 1251) (by decide +kernel), List.mem_of_getElem? (i := 1432) (by decide +kernel), List.mem_of_getElem? (i := 1433) (by decide +kernel)⟩
theorem lw_p67 : lw_okq (⟨"WhalePostModel", "must", "(Ljava/lang/String;)V"⟩, 39) := ⟨⟨by decide +kernel, by decide +kernel⟩, List.mem_of_getElem? (i := 1251) (by decide +kernel), List.mem_of_getElem? (i := 1436) (by decide +kernel), List.mem_of_getElem? (i := 1437) (by decide +kernel)⟩
theorem lw_p68 : lw_okq (⟨"WhalePostModel", "takesWord", "(Ljava/lang/String;)Z"⟩, 39) := ⟨⟨by decide +kernel, by decide +kernel⟩, List.mem_of_getElem? (i := 1251) (by decide +kernel), List.mem_of_getElem? (i := 1440) (by decide +kernel), List.mem_of_getElem? (i := 1441) (by decide +kernel)⟩
theorem lw_p69 : lw_okq (⟨"WhalePostModel", "number", "(II)I"⟩, 39) := ⟨⟨by decide +kernel, by decide +kernel⟩, List.mem_of_getElem? (i := 1251) (by decide +kernel), List.mem_of_getElem? (i := 1444) (by decide +kernel), List.mem_of_getElem? (i := 1445) (by decide +kernel)⟩
theorem lw_p70 : lw_okq (⟨"WhalePostModel", "begins", "(Ljava/lang/String;Z)Z"⟩, 39) := ⟨⟨by decide +kernel, by decide +kernel⟩, List.mem_of_getElem? (i := 1251) (by decide +kernel), List.mem_of_getElem? (i := 1452) (by decide +kernel), List.mem_of_getElem? (i := 1453) (by decide +kernel)⟩
theorem lw_p71 : lw_okq (⟨"WhalePostModel", "islandLine", "()V"⟩, 39) := ⟨⟨by decide +kernel, by decide +kernel⟩, List.mem_of_getElem? (i := 1251) (by decide +kernel), List.mem_of_getElem? (i := 1456) (by decide +kernel), List.mem_of_getElem? (i := 1457) (by decide +kernel)⟩
theorem lw_p72 : lw_okq (⟨"WhalePostModel", "newName", "(I)V"⟩, 39) := ⟨⟨by decide +kernel, by decide +kernel⟩, List.mem_of_getElem? (i := 1251) (by decide +kernel), List.mem_of_getElem? (i := 1460) (by decide +kernel), List.mem_of_getElem? (i := 1461) (by decide +kernel)⟩
theorem lw_p73 : lw_okq (⟨"WhalePostModel", "mustName", "()V"⟩, 39) := ⟨⟨by decide +kernel, by decide +kernel⟩, List.mem_of_getElem? (i := 1251) (by decide +kernel), List.mem_of_getElem? (i := 1464) (by decide +kernel), List.mem_of_getElem? (i := 1465) (by decide +kernel)⟩
theorem lw_p74 : lw_okq (⟨"WhalePostModel", "find", "()I"⟩, 39) := ⟨⟨by decide +kernel, by decide +kernel⟩, List.mem_of_getElem? (i := 1251) (by decide +kernel), List.mem_of_getElem? (i := 1472) (by decide +kernel), List.mem_of_getElem? (i := 1473) (by decide +kernel)⟩
theorem lw_p75 : lw_okq (⟨"WhalePostModel", "isSong", "(I)Z"⟩, 39) := ⟨⟨by decide +kernel, by decide +kernel⟩, List.mem_of_getElem? (i := 1251) (by decide +kernel), List.mem_of_getElem? (i := 1476) (by decide +kernel), List.mem_of_getElem? (i := 1477) (by decide +kernel)⟩
theorem lw_p76 : lw_okq (⟨"WhalePostModel", "wayLine", "()V"⟩, 39) := ⟨⟨by decide +kernel, by decide +kernel⟩, List.mem_of_getElem? (i := 1251) (by decide +kernel), List.mem_of_getElem? (i := 1480) (by decide +kernel), List.mem_of_getElem? (i := 1481) (by decide +kernel)⟩
theorem lw_p77 : lw_okq (⟨"WhalePostModel", "islandPassed", "()I"⟩, 39) := ⟨⟨by decide +kernel, by decide +kernel⟩, List.mem_of_getElem? (i := 1251) (by decide +kernel), List.mem_of_getElem? (i := 1484) (by decide +kernel), List.mem_of_getElem? (i := 1485) (by decide +kernel)⟩
theorem lw_p78 : lw_okq (⟨"WhalePostModel", "named", "(II)I"⟩, 39) := ⟨⟨by decide +kernel, by decide +kernel⟩, List.mem_of_getElem? (i := 1251) (by decide +kernel), List.mem_of_getElem? (i := 1488) (by decide +kernel), List.mem_of_getElem? (i := 1489) (by decide +kernel)⟩
theorem lw_p79 : lw_okq (⟨"WhalePostModel", "whaleLine", "()V"⟩, 39) := ⟨⟨by decide +kernel, by decide +kernel⟩, List.mem_of_getElem? (i := 1251) (by decide +kernel), List.mem_of_getElem? (i := 1497) (by decide +kernel), List.mem_of_getElem? (i := 1498) (by decide +kernel)⟩
def lw_privs_5 : List (MethodName × Nat) := [(⟨"WhalePostModel", "postLine", "()V"⟩, 39), (⟨"WhalePostModel", "wrong", "(II)V"⟩, 39), (⟨"WhalePostModel", "after", "(Ljava/lang/String;II)I"⟩, 39), (⟨"WhalePostModel", "must", "(Ljava/lang/String;)V"⟩, 39), (⟨"WhalePostModel", "takesWord", "(Ljava/lang/String;)Z"⟩, 39), (⟨"WhalePostModel", "number", "(II)I"⟩, 39), (⟨"WhalePostModel", "begins", "(Ljava/lang/String;Z)Z"⟩, 39), (⟨"WhalePostModel", "islandLine", "()V"⟩, 39), (⟨"WhalePostModel", "newName", "(I)V"⟩, 39), (⟨"WhalePostModel", "mustName", "()V"⟩, 39), (⟨"WhalePostModel", "find", "()I"⟩, 39), (⟨"WhalePostModel", "isSong", "(I)Z"⟩, 39), (⟨"WhalePostModel", "wayLine", "()V"⟩, 39), (⟨"WhalePostModel", "islandPassed", "()I"⟩, 39), (⟨"WhalePostModel", "named", "(II)I"⟩, 39), (⟨"WhalePostModel", "whaleLine", "()V"⟩, 39)]
theorem lw_r5 : ∀ q ∈ lw_privs_5, lw_okq q := List.forall_mem_cons.mpr ⟨lw_p64, List.forall_mem_cons.mpr ⟨lw_p65, List.forall_mem_cons.mpr ⟨lw_p66, List.forall_mem_cons.mpr ⟨lw_p67, List.forall_mem_cons.mpr ⟨lw_p68, List.forall_mem_cons.mpr ⟨lw_p69, List.forall_mem_cons.mpr ⟨lw_p70, List.forall_mem_cons.mpr ⟨lw_p71, List.forall_mem_cons.mpr ⟨lw_p72, List.forall_mem_cons.mpr ⟨lw_p73, List.forall_mem_cons.mpr ⟨lw_p74, List.forall_mem_cons.mpr ⟨lw_p75, List.forall_mem_cons.mpr ⟨lw_p76, List.forall_mem_cons.mpr ⟨lw_p77, List.forall_mem_cons.mpr ⟨lw_p78, List.forall_mem_cons.mpr ⟨lw_p79, fun _ h => absurd h List.not_mem_nil⟩⟩⟩⟩⟩⟩⟩⟩⟩⟩⟩⟩⟩⟩⟩⟩
theorem lw_p80 : lw_okq (⟨"WhalePostModel", "islandBehind", "(Ljava/lang/String;)I"⟩, 39) := ⟨⟨by decide +kernel, by decide +kernel⟩, List.mem_of_getElem? (i := 1251) (by decide +kernel), List.mem_of_getElem? (i := 1506) (by decide +kernel), List.mem_of_getElem? (i := 1507) (by decide +kernel)⟩
theorem lw_p81 : lw_okq (⟨"WhalePostModel", "boxLine", "()V"⟩, 39) := ⟨⟨by decide +kernel, by decide +kernel⟩, List.mem_of_getElem? (i := 1251) (by decide +kernel), List.mem_of_getElem? (i := 1512) (by decide +kernel), List.mem_of_getElem? (i := 1513) (by decide +kernel)⟩
theorem lw_p82 : lw_okq (⟨"WhalePostModel", "spoutLine", "()V"⟩, 39) := ⟨⟨by decide +kernel, by decide +kernel⟩, List.mem_of_getElem? (i := 1251) (by decide +kernel), List.mem_of_getElem? (i := 1520) (by decide +kernel), List.mem_of_getElem? (i := 1521) (by decide +kernel)⟩
theorem lw_p83 : lw_okq (⟨"WhalePostModel", "isWhale", "(I)Z"⟩, 39) := ⟨⟨by decide +kernel, by decide +kernel⟩, List.mem_of_getElem? (i := 1251) (by decide +kernel), List.mem_of_getElem? (i := 1539) (by decide +kernel), List.mem_of_getElem? (i := 1540) (by decide +kernel)⟩
theorem lw_p84 : lw_okq (⟨"WhalePostModel", "ofWhale", "(II)I"⟩, 39) := ⟨⟨by decide +kernel, by decide +kernel⟩, List.mem_of_getElem? (i := 1251) (by decide +kernel), List.mem_of_getElem? (i := 1543) (by decide +kernel), List.mem_of_getElem? (i := 1544) (by decide +kernel)⟩
theorem lw_p85 : lw_okq (⟨"WhalePostModel", "isBox", "(I)Z"⟩, 39) := ⟨⟨by decide +kernel, by decide +kernel⟩, List.mem_of_getElem? (i := 1251) (by decide +kernel), List.mem_of_getElem? (i := 1551) (by decide +kernel), List.mem_of_getElem? (i := 1552) (by decide +kernel)⟩
theorem lw_p86 : lw_okq (⟨"WhalePostModel", "ofBox", "(II)I"⟩, 39) := ⟨⟨by decide +kernel, by decide +kernel⟩, List.mem_of_getElem? (i := 1251) (by decide +kernel), List.mem_of_getElem? (i := 1555) (by decide +kernel), List.mem_of_getElem? (i := 1556) (by decide +kernel)⟩
theorem lw_p87 : lw_okq (⟨"WhalePostModel", "isIsland", "(I)Z"⟩, 39) := ⟨⟨by decide +kernel, by decide +kernel⟩, List.mem_of_getElem? (i := 1251) (by decide +kernel), List.mem_of_getElem? (i := 1563) (by decide +kernel), List.mem_of_getElem? (i := 1564) (by decide +kernel)⟩
theorem lw_p88 : lw_okq (⟨"WhalePostModel", "songLong", "(I)I"⟩, 39) := ⟨⟨by decide +kernel, by decide +kernel⟩, List.mem_of_getElem? (i := 1251) (by decide +kernel), List.mem_of_getElem? (i := 1567) (by decide +kernel), List.mem_of_getElem? (i := 1568) (by decide +kernel)⟩
theorem lw_p89 : lw_okq (⟨"WhalePostModel", "noteIn", "(III)I"⟩, 39) := ⟨⟨by decide +kernel, by decide +kernel⟩, List.mem_of_getElem? (i := 1251) (by decide +kernel), List.mem_of_getElem? (i := 1575) (by decide +kernel), List.mem_of_getElem? (i := 1576) (by decide +kernel)⟩
theorem lw_p90 : lw_okq (⟨"WhalePostModel", "boxLong", "(I)I"⟩, 39) := ⟨⟨by decide +kernel, by decide +kernel⟩, List.mem_of_getElem? (i := 1251) (by decide +kernel), List.mem_of_getElem? (i := 1583) (by decide +kernel), List.mem_of_getElem? (i := 1584) (by decide +kernel)⟩
theorem lw_p91 : lw_okq (⟨"WhalePostModel", "heardNow", "(I)I"⟩, 39) := ⟨⟨by decide +kernel, by decide +kernel⟩, List.mem_of_getElem? (i := 1251) (by decide +kernel), List.mem_of_getElem? (i := 1591) (by decide +kernel), List.mem_of_getElem? (i := 1592) (by decide +kernel)⟩
theorem lw_p92 : lw_okq (⟨"WhalePostModel", "hearsIn", "(IIII)I"⟩, 39) := ⟨⟨by decide +kernel, by decide +kernel⟩, List.mem_of_getElem? (i := 1251) (by decide +kernel), List.mem_of_getElem? (i := 1595) (by decide +kernel), List.mem_of_getElem? (i := 1596) (by decide +kernel)⟩
theorem lw_p93 : lw_okq (⟨"WhalePostModel", "unlike", "(IIIII)I"⟩, 39) := ⟨⟨by decide +kernel, by decide +kernel⟩, List.mem_of_getElem? (i := 1251) (by decide +kernel), List.mem_of_getElem? (i := 1599) (by decide +kernel), List.mem_of_getElem? (i := 1600) (by decide +kernel)⟩
theorem lw_p94 : lw_okq (⟨"WhalePostModel", "wayOf", "(II)I"⟩, 39) := ⟨⟨by decide +kernel, by decide +kernel⟩, List.mem_of_getElem? (i := 1251) (by decide +kernel), List.mem_of_getElem? (i := 1607) (by decide +kernel), List.mem_of_getElem? (i := 1608) (by decide +kernel)⟩
theorem lw_p95 : lw_okq (⟨"WhalePostModel", "isClosed", "(I)Z"⟩, 39) := ⟨⟨by decide +kernel, by decide +kernel⟩, List.mem_of_getElem? (i := 1251) (by decide +kernel), List.mem_of_getElem? (i := 1611) (by decide +kernel), List.mem_of_getElem? (i := 1612) (by decide +kernel)⟩
def lw_privs_6 : List (MethodName × Nat) := [(⟨"WhalePostModel", "islandBehind", "(Ljava/lang/String;)I"⟩, 39), (⟨"WhalePostModel", "boxLine", "()V"⟩, 39), (⟨"WhalePostModel", "spoutLine", "()V"⟩, 39), (⟨"WhalePostModel", "isWhale", "(I)Z"⟩, 39), (⟨"WhalePostModel", "ofWhale", "(II)I"⟩, 39), (⟨"WhalePostModel", "isBox", "(I)Z"⟩, 39), (⟨"WhalePostModel", "ofBox", "(II)I"⟩, 39), (⟨"WhalePostModel", "isIsland", "(I)Z"⟩, 39), (⟨"WhalePostModel", "songLong", "(I)I"⟩, 39), (⟨"WhalePostModel", "noteIn", "(III)I"⟩, 39), (⟨"WhalePostModel", "boxLong", "(I)I"⟩, 39), (⟨"WhalePostModel", "heardNow", "(I)I"⟩, 39), (⟨"WhalePostModel", "hearsIn", "(IIII)I"⟩, 39), (⟨"WhalePostModel", "unlike", "(IIIII)I"⟩, 39), (⟨"WhalePostModel", "wayOf", "(II)I"⟩, 39), (⟨"WhalePostModel", "isClosed", "(I)Z"⟩, 39)]
theorem lw_r6 : ∀ q ∈ lw_privs_6, lw_okq q := List.forall_mem_cons.mpr ⟨lw_p80, List.forall_mem_cons.mpr ⟨lw_p81, List.forall_mem_cons.mpr ⟨lw_p82, List.forall_mem_cons.mpr ⟨lw_p83, List.forall_mem_cons.mpr ⟨lw_p84, List.forall_mem_cons.mpr ⟨lw_p85, List.forall_mem_cons.mpr ⟨lw_p86, List.forall_mem_cons.mpr ⟨lw_p87, List.forall_mem_cons.mpr ⟨lw_p88, List.forall_mem_cons.mpr ⟨lw_p89, List.forall_mem_cons.mpr ⟨lw_p90, List.forall_mem_cons.mpr ⟨lw_p91, List.forall_mem_cons.mpr ⟨lw_p92, List.forall_mem_cons.mpr ⟨lw_p93, List.forall_mem_cons.mpr ⟨lw_p94, List.forall_mem_cons.mpr ⟨lw_p95, fun _ h => absurd h List.not_mem_nil⟩⟩⟩⟩⟩⟩⟩⟩⟩⟩⟩⟩⟩⟩⟩⟩
theorem lw_p96 : lw_okq (⟨"WhalePostModel", "nearOf", "(IZ)I"⟩, 39) := ⟨⟨by decide +kernel, by decide +kernel⟩, List.mem_of_getElem? (i := 1251) (by decide +kernel), List.mem_of_getElem? (i := 1622) (by decide +kernel), List.mem_of_getElem? (i := 1623) (by decide +kernel)⟩
theorem lw_p97 : lw_okq (⟨"WhalePostModel", "apartOf", "(II)I"⟩, 39) := ⟨⟨by decide +kernel, by decide +kernel⟩, List.mem_of_getElem? (i := 1251) (by decide +kernel), List.mem_of_getElem? (i := 1638) (by decide +kernel), List.mem_of_getElem? (i := 1639) (by decide +kernel)⟩
theorem lw_p98 : lw_okq (⟨"WhalePostModel", "songWhy", "(II)I"⟩, 39) := ⟨⟨by decide +kernel, by decide +kernel⟩, List.mem_of_getElem? (i := 1251) (by decide +kernel), List.mem_of_getElem? (i := 1654) (by decide +kernel), List.mem_of_getElem? (i := 1655) (by decide +kernel)⟩
theorem lw_p99 : lw_okq (⟨"WhalePostModel", "newSongs", "(IIZ)I"⟩, 39) := ⟨⟨by decide +kernel, by decide +kernel⟩, List.mem_of_getElem? (i := 1251) (by decide +kernel), List.mem_of_getElem? (i := 1658) (by decide +kernel), List.mem_of_getElem? (i := 1659) (by decide +kernel)⟩
theorem lw_p100 : lw_okq (⟨"WhalePostModel", "power", "(I)I"⟩, 39) := ⟨⟨by decide +kernel, by decide +kernel⟩, List.mem_of_getElem? (i := 1251) (by decide +kernel), List.mem_of_getElem? (i := 1662) (by decide +kernel), List.mem_of_getElem? (i := 1663) (by decide +kernel)⟩
theorem lw_p101 : lw_okq (⟨"WhalePostModel", "digitsApart", "(III)I"⟩, 39) := ⟨⟨by decide +kernel, by decide +kernel⟩, List.mem_of_getElem? (i := 1251) (by decide +kernel), List.mem_of_getElem? (i := 1666) (by decide +kernel), List.mem_of_getElem? (i := 1667) (by decide +kernel)⟩
theorem lw_p102 : lw_okq (⟨"WhalePostModel", "hearsItself", "(II)Z"⟩, 39) := ⟨⟨by decide +kernel, by decide +kernel⟩, List.mem_of_getElem? (i := 1251) (by decide +kernel), List.mem_of_getElem? (i := 1682) (by decide +kernel), List.mem_of_getElem? (i := 1683) (by decide +kernel)⟩
theorem lw_p103 : lw_okq (⟨"WhalePostModel", "setsOut", "(III)I"⟩, 39) := ⟨⟨by decide +kernel, by decide +kernel⟩, List.mem_of_getElem? (i := 1251) (by decide +kernel), List.mem_of_getElem? (i := 1698) (by decide +kernel), List.mem_of_getElem? (i := 1699) (by decide +kernel)⟩
theorem lw_p104 : lw_okq (⟨"WhalePostModel", "arrivalOf", "(IIII)I"⟩, 39) := ⟨⟨by decide +kernel, by decide +kernel⟩, List.mem_of_getElem? (i := 1251) (by decide +kernel), List.mem_of_getElem? (i := 1706) (by decide +kernel), List.mem_of_getElem? (i := 1707) (by decide +kernel)⟩
theorem lw_p105 : lw_okq (⟨"WhalePostModel", "layDays", "(III)V"⟩, 39) := ⟨⟨by decide +kernel, by decide +kernel⟩, List.mem_of_getElem? (i := 1251) (by decide +kernel), List.mem_of_getElem? (i := 1710) (by decide +kernel), List.mem_of_getElem? (i := 1711) (by decide +kernel)⟩
theorem lw_p106 : lw_okq (⟨"WhalePostModel", "goesBy", "(III)V"⟩, 39) := ⟨⟨by decide +kernel, by decide +kernel⟩, List.mem_of_getElem? (i := 1251) (by decide +kernel), List.mem_of_getElem? (i := 1715) (by decide +kernel), List.mem_of_getElem? (i := 1716) (by decide +kernel)⟩
theorem lw_p107 : lw_okq (⟨"WhalePostModel", "dayBy", "(III)I"⟩, 39) := ⟨⟨by decide +kernel, by decide +kernel⟩, List.mem_of_getElem? (i := 1251) (by decide +kernel), List.mem_of_getElem? (i := 1719) (by decide +kernel), List.mem_of_getElem? (i := 1720) (by decide +kernel)⟩
theorem lw_p108 : lw_okq (⟨"WhalePostModel", "bringsOf", "(II)I"⟩, 39) := ⟨⟨by decide +kernel, by decide +kernel⟩, List.mem_of_getElem? (i := 1251) (by decide +kernel), List.mem_of_getElem? (i := 1727) (by decide +kernel), List.mem_of_getElem? (i := 1728) (by decide +kernel)⟩
theorem lw_p109 : lw_okq (⟨"WhalePostModel", "lays", "(II)Z"⟩, 39) := ⟨⟨by decide +kernel, by decide +kernel⟩, List.mem_of_getElem? (i := 1251) (by decide +kernel), List.mem_of_getElem? (i := 1731) (by decide +kernel), List.mem_of_getElem? (i := 1732) (by decide +kernel)⟩
theorem lw_p110 : lw_okq (⟨"WhalePostModel", "surestBut", "(II)I"⟩, 39) := ⟨⟨by decide +kernel, by decide +kernel⟩, List.mem_of_getElem? (i := 1251) (by decide +kernel), List.mem_of_getElem? (i := 1746) (by decide +kernel), List.mem_of_getElem? (i := 1747) (by decide +kernel)⟩
theorem lw_p111 : lw_okq (⟨"WhalePostModel", "seekMatch", "()V"⟩, 39) := ⟨⟨by decide +kernel, by decide +kernel⟩, List.mem_of_getElem? (i := 1251) (by decide +kernel), List.mem_of_getElem? (i := 1766) (by decide +kernel), List.mem_of_getElem? (i := 1767) (by decide +kernel)⟩
def lw_privs_7 : List (MethodName × Nat) := [(⟨"WhalePostModel", "nearOf", "(IZ)I"⟩, 39), (⟨"WhalePostModel", "apartOf", "(II)I"⟩, 39), (⟨"WhalePostModel", "songWhy", "(II)I"⟩, 39), (⟨"WhalePostModel", "newSongs", "(IIZ)I"⟩, 39), (⟨"WhalePostModel", "power", "(I)I"⟩, 39), (⟨"WhalePostModel", "digitsApart", "(III)I"⟩, 39), (⟨"WhalePostModel", "hearsItself", "(II)Z"⟩, 39), (⟨"WhalePostModel", "setsOut", "(III)I"⟩, 39), (⟨"WhalePostModel", "arrivalOf", "(IIII)I"⟩, 39), (⟨"WhalePostModel", "layDays", "(III)V"⟩, 39), (⟨"WhalePostModel", "goesBy", "(III)V"⟩, 39), (⟨"WhalePostModel", "dayBy", "(III)I"⟩, 39), (⟨"WhalePostModel", "bringsOf", "(II)I"⟩, 39), (⟨"WhalePostModel", "lays", "(II)Z"⟩, 39), (⟨"WhalePostModel", "surestBut", "(II)I"⟩, 39), (⟨"WhalePostModel", "seekMatch", "()V"⟩, 39)]
theorem lw_r7 : ∀ q ∈ lw_privs_7, lw_okq q := List.forall_mem_cons.mpr ⟨lw_p96, List.forall_mem_cons.mpr ⟨lw_p97, List.forall_mem_cons.mpr ⟨lw_p98, List.forall_mem_cons.mpr ⟨lw_p99, List.forall_mem_cons.mpr ⟨lw_p100, List.forall_mem_cons.mpr ⟨lw_p101, List.forall_mem_cons.mpr ⟨lw_p102, List.forall_mem_cons.mpr ⟨lw_p103, List.forall_mem_cons.mpr ⟨lw_p104, List.forall_mem_cons.mpr ⟨lw_p105, List.forall_mem_cons.mpr ⟨lw_p106, List.forall_mem_cons.mpr ⟨lw_p107, List.forall_mem_cons.mpr ⟨lw_p108, List.forall_mem_cons.mpr ⟨lw_p109, List.forall_mem_cons.mpr ⟨lw_p110, List.forall_mem_cons.mpr ⟨lw_p111, fun _ h => absurd h List.not_mem_nil⟩⟩⟩⟩⟩⟩⟩⟩⟩⟩⟩⟩⟩⟩⟩⟩
theorem lw_p112 : lw_okq (⟨"WhalePostModel", "tryMatch", "(IIII)V"⟩, 39) := ⟨⟨by decide +kernel, by decide +kernel⟩, List.mem_of_getElem? (i := 1251) (by decide +kernel), List.mem_of_getElem? (i := 1770) (by decide +kernel), List.mem_of_getElem? (i := 1771) (by decide +kernel)⟩
theorem lw_p113 : lw_okq (⟨"WhalePostModel", "fitsAll", "(I)Z"⟩, 39) := ⟨⟨by decide +kernel, by decide +kernel⟩, List.mem_of_getElem? (i := 1251) (by decide +kernel), List.mem_of_getElem? (i := 1790) (by decide +kernel), List.mem_of_getElem? (i := 1791) (by decide +kernel)⟩
theorem lw_p114 : lw_okq (⟨"WhalePostModel", "reachOf", "(II)I"⟩, 39) := ⟨⟨by decide +kernel, by decide +kernel⟩, List.mem_of_getElem? (i := 1251) (by decide +kernel), List.mem_of_getElem? (i := 1798) (by decide +kernel), List.mem_of_getElem? (i := 1799) (by decide +kernel)⟩
theorem lw_p115 : lw_okq (⟨"WhalePostModel", "doLead", "(III)Z"⟩, 39) := ⟨⟨by decide +kernel, by decide +kernel⟩, List.mem_of_getElem? (i := 1251) (by decide +kernel), List.mem_of_getElem? (i := 1813) (by decide +kernel), List.mem_of_getElem? (i := 1814) (by decide +kernel)⟩
theorem lw_p116 : lw_okq (⟨"WhalePostModel", "seekRound", "(I)I"⟩, 39) := ⟨⟨by decide +kernel, by decide +kernel⟩, List.mem_of_getElem? (i := 1251) (by decide +kernel), List.mem_of_getElem? (i := 1821) (by decide +kernel), List.mem_of_getElem? (i := 1822) (by decide +kernel)⟩
theorem lw_p117 : lw_okq (⟨"WhalePostModel", "layFar", "()V"⟩, 39) := ⟨⟨by decide +kernel, by decide +kernel⟩, List.mem_of_getElem? (i := 1251) (by decide +kernel), List.mem_of_getElem? (i := 1825) (by decide +kernel), List.mem_of_getElem? (i := 1826) (by decide +kernel)⟩
theorem lw_p118 : lw_okq (⟨"WhalePostModel", "tryRound", "(III)V"⟩, 39) := ⟨⟨by decide +kernel, by decide +kernel⟩, List.mem_of_getElem? (i := 1251) (by decide +kernel), List.mem_of_getElem? (i := 1829) (by decide +kernel), List.mem_of_getElem? (i := 1830) (by decide +kernel)⟩
theorem lw_p119 : lw_okq (⟨"WhalePostModel", "note1", "()V"⟩, 39) := ⟨⟨by decide +kernel, by decide +kernel⟩, List.mem_of_getElem? (i := 1251) (by decide +kernel), List.mem_of_getElem? (i := 1847) (by decide +kernel), List.mem_of_getElem? (i := 1848) (by decide +kernel)⟩
theorem lw_p120 : lw_okq (⟨"WhalePostModel", "isNot", "(I)Z"⟩, 39) := ⟨⟨by decide +kernel, by decide +kernel⟩, List.mem_of_getElem? (i := 1251) (by decide +kernel), List.mem_of_getElem? (i := 1855) (by decide +kernel), List.mem_of_getElem? (i := 1856) (by decide +kernel)⟩
def lw_privs_8 : List (MethodName × Nat) := [(⟨"WhalePostModel", "tryMatch", "(IIII)V"⟩, 39), (⟨"WhalePostModel", "fitsAll", "(I)Z"⟩, 39), (⟨"WhalePostModel", "reachOf", "(II)I"⟩, 39), (⟨"WhalePostModel", "doLead", "(III)Z"⟩, 39), (⟨"WhalePostModel", "seekRound", "(I)I"⟩, 39), (⟨"WhalePostModel", "layFar", "()V"⟩, 39), (⟨"WhalePostModel", "tryRound", "(III)V"⟩, 39), (⟨"WhalePostModel", "note1", "()V"⟩, 39), (⟨"WhalePostModel", "isNot", "(I)Z"⟩, 39)]
theorem lw_r8 : ∀ q ∈ lw_privs_8, lw_okq q := List.forall_mem_cons.mpr ⟨lw_p112, List.forall_mem_cons.mpr ⟨lw_p113, List.forall_mem_cons.mpr ⟨lw_p114, List.forall_mem_cons.mpr ⟨lw_p115, List.forall_mem_cons.mpr ⟨lw_p116, List.forall_mem_cons.mpr ⟨lw_p117, List.forall_mem_cons.mpr ⟨lw_p118, List.forall_mem_cons.mpr ⟨lw_p119, List.forall_mem_cons.mpr ⟨lw_p120, fun _ h => absurd h List.not_mem_nil⟩⟩⟩⟩⟩⟩⟩⟩⟩
def lw_privs : List (MethodName × Nat) := lw_privs_1 ++ (lw_privs_2 ++ (lw_privs_3 ++ (lw_privs_4 ++ (lw_privs_5 ++ (lw_privs_6 ++ (lw_privs_7 ++ (lw_privs_8)))))))
def lw_tbl : List Cond := k2_sels lw_privs ++ tables_1
theorem lw_privs_ok : ∀ q ∈ lw_privs, lw_okq q := by
  show ∀ q ∈ lw_privs_1 ++ (lw_privs_2 ++ (lw_privs_3 ++ (lw_privs_4 ++ (lw_privs_5 ++ (lw_privs_6 ++ (lw_privs_7 ++ (lw_privs_8))))))), lw_okq q
  exact List.forall_mem_append.mpr ⟨lw_r1, List.forall_mem_append.mpr ⟨lw_r2, List.forall_mem_append.mpr ⟨lw_r3, List.forall_mem_append.mpr ⟨lw_r4, List.forall_mem_append.mpr ⟨lw_r5, List.forall_mem_append.mpr ⟨lw_r6, List.forall_mem_append.mpr ⟨lw_r7, lw_r8⟩⟩⟩⟩⟩⟩⟩
end
section
def RX0 : String := "WhalePost$Box"
def TX0 : u_T := fun k => match k with
  | 0 => ("WhalePost$Box", "from", "I", false)
  | 1 => ("WhalePost$Box", "to", "I", false)
  | 2 => ("WhalePost$Box", "weighs", "I", false)
  | _ => ("WhalePost$Box", "day", "I", false)
def tyX0 : Nat → FieldType := fun k => match k with
  | 0 => .int
  | 1 => .int
  | 2 => .int
  | _ => .int
theorem nmX0 : ∀ a, a < 4 → ∀ b, b < 4 → a ≠ b → (TX0 a).2.1 ≠ (TX0 b).2.1 := by decide +kernel
theorem tyX0_ok : ∀ k, k < 4 → parseFieldDescriptor (TX0 k).2.2.1 = some (tyX0 k) := by decide +kernel
abbrev cX0_init : ByteArray := prog_2_method_1_code
def yX0_init : MethodName := ⟨RX0, "<init>", "()V"⟩
def RX1 : String := "WhalePost$Matching"
def TX1 : u_T := fun k => match k with
  | 0 => ("WhalePost$Matching", "days", "[I", true)
  | 1 => ("WhalePost$Matching", "whaleOf", "[I", true)
  | 2 => ("WhalePost$Matching", "count", "I", false)
  | 3 => ("WhalePost$Matching", "sumOfDays", "I", false)
  | _ => ("WhalePost$Matching", "best", "[I", true)
def tyX1 : Nat → FieldType := fun k => match k with
  | 0 => .array .int
  | 1 => .array .int
  | 2 => .int
  | 3 => .int
  | _ => .array .int
theorem nmX1 : ∀ a, a < 5 → ∀ b, b < 5 → a ≠ b → (TX1 a).2.1 ≠ (TX1 b).2.1 := by decide +kernel
theorem tyX1_ok : ∀ k, k < 5 → parseFieldDescriptor (TX1 k).2.2.1 = some (tyX1 k) := by decide +kernel
abbrev cX1_init : ByteArray := prog_3_method_1_code
def yX1_init : MethodName := ⟨RX1, "<init>", "()V"⟩
abbrev cX1_solve : ByteArray := prog_3_method_2_code
def yX1_solve : MethodName := ⟨RX1, "solve", "(II)V"⟩
abbrev cX1_worth : ByteArray := prog_3_method_3_code
def yX1_worth : MethodName := ⟨RX1, "worth", "(III)I"⟩
abbrev cX1_choose : ByteArray := prog_3_method_4_code
def yX1_choose : MethodName := ⟨RX1, "choose", "(II)V"⟩
abbrev cX1_firstBest : ByteArray := prog_3_method_5_code
def yX1_firstBest : MethodName := ⟨RX1, "firstBest", "(III)I"⟩
def RX2 : String := "WhalePost$Now"
def TX2 : u_T := fun k => match k with
  | 0 => ("WhalePost$Now", "year", "I", false)
  | 1 => ("WhalePost$Now", "closed", "I", false)
  | 2 => ("WhalePost$Now", "whaleAt", "[I", true)
  | 3 => ("WhalePost$Now", "whaleFree", "[I", true)
  | 4 => ("WhalePost$Now", "boxCame", "[I", true)
  | 5 => ("WhalePost$Now", "boxGot", "[I", true)
  | _ => ("WhalePost$Now", "boxSong", "[I", true)
def tyX2 : Nat → FieldType := fun k => match k with
  | 0 => .int
  | 1 => .int
  | 2 => .array .int
  | 3 => .array .int
  | 4 => .array .int
  | 5 => .array .int
  | _ => .array .int
theorem nmX2 : ∀ a, a < 7 → ∀ b, b < 7 → a ≠ b → (TX2 a).2.1 ≠ (TX2 b).2.1 := by decide +kernel
theorem tyX2_ok : ∀ k, k < 7 → parseFieldDescriptor (TX2 k).2.2.1 = some (tyX2 k) := by decide +kernel
abbrev cX2_init : ByteArray := prog_4_method_1_code
def yX2_init : MethodName := ⟨RX2, "<init>", "()V"⟩
abbrev cX2_begin : ByteArray := prog_4_method_2_code
def yX2_begin : MethodName := ⟨RX2, "begin", "(LWhalePost$Post;)V"⟩
abbrev cX2_copyFrom : ByteArray := prog_4_method_3_code
def yX2_copyFrom : MethodName := ⟨RX2, "copyFrom", "(LWhalePost$Now;)V"⟩
abbrev cX2_isClosed : ByteArray := prog_4_method_4_code
def yX2_isClosed : MethodName := ⟨RX2, "isClosed", "(I)Z"⟩
abbrev cX2_isSent : ByteArray := prog_4_method_5_code
def yX2_isSent : MethodName := ⟨RX2, "isSent", "(I)Z"⟩
def RX3 : String := "WhalePost$Paths"
def TX3 : u_T := fun k => match k with
  | 0 => ("WhalePost$Paths", "post", "LWhalePost$Post;", false)
  | 1 => ("WhalePost$Paths", "order", "[I", true)
  | 2 => ("WhalePost$Paths", "between", "[I", true)
  | _ => ("WhalePost$Paths", "rest", "[I", true)
def tyX3 : Nat → FieldType := fun k => match k with
  | 0 => .object "WhalePost$Post"
  | 1 => .array .int
  | 2 => .array .int
  | _ => .array .int
theorem nmX3 : ∀ a, a < 4 → ∀ b, b < 4 → a ≠ b → (TX3 a).2.1 ≠ (TX3 b).2.1 := by decide +kernel
theorem tyX3_ok : ∀ k, k < 4 → parseFieldDescriptor (TX3 k).2.2.1 = some (tyX3 k) := by decide +kernel
abbrev cX3_init : ByteArray := prog_5_method_1_code
def yX3_init : MethodName := ⟨RX3, "<init>", "(LWhalePost$Post;)V"⟩
abbrev cX3_fewestToWatch : ByteArray := prog_5_method_2_code
def yX3_fewestToWatch : MethodName := ⟨RX3, "fewestToWatch", "(III)I"⟩
abbrev cX3_waysOutOf : ByteArray := prog_5_method_3_code
def yX3_waysOutOf : MethodName := ⟨RX3, "waysOutOf", "(I)I"⟩
abbrev cX3_findRound : ByteArray := prog_5_method_4_code
def yX3_findRound : MethodName := ⟨RX3, "findRound", "(II)I"⟩
abbrev cX3_findShortest : ByteArray := prog_5_method_5_code
def yX3_findShortest : MethodName := ⟨RX3, "findShortest", "(I)V"⟩
abbrev cX3_findRests : ByteArray := prog_5_method_6_code
def yX3_findRests : MethodName := ⟨RX3, "findRests", "()V"⟩
abbrev cX3_daysOver : ByteArray := prog_5_method_7_code
def yX3_daysOver : MethodName := ⟨RX3, "daysOver", "(III)I"⟩
abbrev cX3_nextOf : ByteArray := prog_5_method_8_code
def yX3_nextOf : MethodName := ⟨RX3, "nextOf", "(II)I"⟩
def RX4 : String := "WhalePost$Post"
def TX4 : u_T := fun k => match k with
  | 0 => ("WhalePost$Post", "notes", "I", false)
  | 1 => ("WhalePost$Post", "errors", "I", false)
  | 2 => ("WhalePost$Post", "drift", "I", false)
  | 3 => ("WhalePost$Post", "slip", "I", false)
  | 4 => ("WhalePost$Post", "islands", "I", false)
  | 5 => ("WhalePost$Post", "ways", "I", false)
  | 6 => ("WhalePost$Post", "whales", "I", false)
  | 7 => ("WhalePost$Post", "boxes", "I", false)
  | 8 => ("WhalePost$Post", "spouts", "I", false)
  | 9 => ("WhalePost$Post", "song", "[I", true)
  | 10 => ("WhalePost$Post", "songLength", "[I", true)
  | 11 => ("WhalePost$Post", "way", "[LWhalePost$Way;", true)
  | 12 => ("WhalePost$Post", "whale", "[LWhalePost$Whale;", true)
  | 13 => ("WhalePost$Post", "box", "[LWhalePost$Box;", true)
  | _ => ("WhalePost$Post", "spout", "[LWhalePost$Spout;", true)
def tyX4 : Nat → FieldType := fun k => match k with
  | 0 => .int
  | 1 => .int
  | 2 => .int
  | 3 => .int
  | 4 => .int
  | 5 => .int
  | 6 => .int
  | 7 => .int
  | 8 => .int
  | 9 => .array .int
  | 10 => .array .int
  | 11 => .array (.object "WhalePost$Way")
  | 12 => .array (.object "WhalePost$Whale")
  | 13 => .array (.object "WhalePost$Box")
  | _ => .array (.object "WhalePost$Spout")
theorem nmX4 : ∀ a, a < 15 → ∀ b, b < 15 → a ≠ b → (TX4 a).2.1 ≠ (TX4 b).2.1 := by decide +kernel
theorem tyX4_ok : ∀ k, k < 15 → parseFieldDescriptor (TX4 k).2.2.1 = some (tyX4 k) := by decide +kernel
abbrev cX4_init : ByteArray := prog_6_method_1_code
def yX4_init : MethodName := ⟨RX4, "<init>", "()V"⟩
abbrev cX4_clear : ByteArray := prog_6_method_2_code
def yX4_clear : MethodName := ⟨RX4, "clear", "()V"⟩
abbrev cX4_boxLength : ByteArray := prog_6_method_3_code
def yX4_boxLength : MethodName := ⟨RX4, "boxLength", "(I)I"⟩
abbrev cX4_wayBetween : ByteArray := prog_6_method_4_code
def yX4_wayBetween : MethodName := ⟨RX4, "wayBetween", "(II)I"⟩
abbrev cX4_hasSong : ByteArray := prog_6_method_5_code
def yX4_hasSong : MethodName := ⟨RX4, "hasSong", "(II)Z"⟩
abbrev cX4_lastSpoutOf : ByteArray := prog_6_method_6_code
def yX4_lastSpoutOf : MethodName := ⟨RX4, "lastSpoutOf", "(I)I"⟩
def RX5 : String := "WhalePost$Reader"
def TX5 : u_T := fun k => match k with
  | 0 => ("WhalePost$Reader", "text", "[B", true)
  | 1 => ("WhalePost$Reader", "end", "I", false)
  | 2 => ("WhalePost$Reader", "at", "I", false)
  | 3 => ("WhalePost$Reader", "token", "I", false)
  | 4 => ("WhalePost$Reader", "start", "I", false)
  | 5 => ("WhalePost$Reader", "value", "I", false)
  | 6 => ("WhalePost$Reader", "post", "LWhalePost$Post;", false)
  | 7 => ("WhalePost$Reader", "name", "[J", true)
  | 8 => ("WhalePost$Reader", "nameSort", "[I", true)
  | 9 => ("WhalePost$Reader", "nameNumber", "[I", true)
  | 10 => ("WhalePost$Reader", "names", "I", false)
  | 11 => ("WhalePost$Reader", "fault", "I", false)
  | _ => ("WhalePost$Reader", "place", "I", false)
def tyX5 : Nat → FieldType := fun k => match k with
  | 0 => .array .byte
  | 1 => .int
  | 2 => .int
  | 3 => .int
  | 4 => .int
  | 5 => .int
  | 6 => .object "WhalePost$Post"
  | 7 => .array .long
  | 8 => .array .int
  | 9 => .array .int
  | 10 => .int
  | 11 => .int
  | _ => .int
theorem nmX5 : ∀ a, a < 13 → ∀ b, b < 13 → a ≠ b → (TX5 a).2.1 ≠ (TX5 b).2.1 := by decide +kernel
theorem tyX5_ok : ∀ k, k < 13 → parseFieldDescriptor (TX5 k).2.2.1 = some (tyX5 k) := by decide +kernel
abbrev cX5_init : ByteArray := prog_7_method_1_code
def yX5_init : MethodName := ⟨RX5, "<init>", "([BLWhalePost$Post;)V"⟩
abbrev cX5_readPost : ByteArray := prog_7_method_2_code
def yX5_readPost : MethodName := ⟨RX5, "readPost", "(ILWhalePost$Post;)Z"⟩
abbrev cX5_faulty : ByteArray := prog_7_method_3_code
def yX5_faulty : MethodName := ⟨RX5, "faulty", "(I)Z"⟩
abbrev cX5_readLine : ByteArray := prog_7_method_4_code
def yX5_readLine : MethodName := ⟨RX5, "readLine", "()Z"⟩
abbrev cX5_readHead : ByteArray := prog_7_method_5_code
def yX5_readHead : MethodName := ⟨RX5, "readHead", "()Z"⟩
abbrev cX5_readIsland : ByteArray := prog_7_method_6_code
def yX5_readIsland : MethodName := ⟨RX5, "readIsland", "()Z"⟩
abbrev cX5_readWay : ByteArray := prog_7_method_7_code
def yX5_readWay : MethodName := ⟨RX5, "readWay", "(LWhalePost$Way;)Z"⟩
abbrev cX5_readWhale : ByteArray := prog_7_method_8_code
def yX5_readWhale : MethodName := ⟨RX5, "readWhale", "(LWhalePost$Whale;)Z"⟩
abbrev cX5_readBox : ByteArray := prog_7_method_9_code
def yX5_readBox : MethodName := ⟨RX5, "readBox", "(LWhalePost$Box;)Z"⟩
abbrev cX5_readSpout : ByteArray := prog_7_method_10_code
def yX5_readSpout : MethodName := ⟨RX5, "readSpout", "(LWhalePost$Spout;)Z"⟩
abbrev cX5_word : ByteArray := prog_7_method_11_code
def yX5_word : MethodName := ⟨RX5, "word", "(Ljava/lang/String;)Z"⟩
abbrev cX5_whole : ByteArray := prog_7_method_12_code
def yX5_whole : MethodName := ⟨RX5, "whole", "(II)Z"⟩
abbrev cX5_newName : ByteArray := prog_7_method_13_code
def yX5_newName : MethodName := ⟨RX5, "newName", "(II)Z"⟩
abbrev cX5_toldName : ByteArray := prog_7_method_14_code
def yX5_toldName : MethodName := ⟨RX5, "toldName", "(I)Z"⟩
abbrev cX5_nameOfToken : ByteArray := prog_7_method_15_code
def yX5_nameOfToken : MethodName := ⟨RX5, "nameOfToken", "()I"⟩
abbrev cX5_letters : ByteArray := prog_7_method_16_code
def yX5_letters : MethodName := ⟨RX5, "letters", "()J"⟩
abbrev cX5_songOfToken : ByteArray := prog_7_method_17_code
def yX5_songOfToken : MethodName := ⟨RX5, "songOfToken", "()I"⟩
abbrev cX5_kindOfToken : ByteArray := prog_7_method_18_code
def yX5_kindOfToken : MethodName := ⟨RX5, "kindOfToken", "()I"⟩
abbrev cX5_sortOfLine : ByteArray := prog_7_method_19_code
def yX5_sortOfLine : MethodName := ⟨RX5, "sortOfLine", "()I"⟩
abbrev cX5_isToken : ByteArray := prog_7_method_20_code
def yX5_isToken : MethodName := ⟨RX5, "isToken", "(Ljava/lang/String;)Z"⟩
abbrev cX5_nextToken : ByteArray := prog_7_method_21_code
def yX5_nextToken : MethodName := ⟨RX5, "nextToken", "()V"⟩
abbrev cX5_passAll : ByteArray := prog_7_method_22_code
def yX5_passAll : MethodName := ⟨RX5, "passAll", "(CC)Z"⟩
def RX6 : String := "WhalePost$Sea"
def TX6 : u_T := fun k => match k with
  | 0 => ("WhalePost$Sea", "post", "LWhalePost$Post;", false)
  | 1 => ("WhalePost$Sea", "now", "LWhalePost$Now;", true)
  | 2 => ("WhalePost$Sea", "songs", "LWhalePost$Songs;", true)
  | 3 => ("WhalePost$Sea", "first", "[I", true)
  | 4 => ("WhalePost$Sea", "goal", "I", false)
  | 5 => ("WhalePost$Sea", "taken", "I", false)
  | _ => ("WhalePost$Sea", "arrived", "I", false)
def tyX6 : Nat → FieldType := fun k => match k with
  | 0 => .object "WhalePost$Post"
  | 1 => .object "WhalePost$Now"
  | 2 => .object "WhalePost$Songs"
  | 3 => .array .int
  | 4 => .int
  | 5 => .int
  | _ => .int
theorem nmX6 : ∀ a, a < 7 → ∀ b, b < 7 → a ≠ b → (TX6 a).2.1 ≠ (TX6 b).2.1 := by decide +kernel
theorem tyX6_ok : ∀ k, k < 7 → parseFieldDescriptor (TX6 k).2.2.1 = some (tyX6 k) := by decide +kernel
abbrev cX6_init : ByteArray := prog_8_method_1_code
def yX6_init : MethodName := ⟨RX6, "<init>", "(LWhalePost$Post;LWhalePost$Now;LWhalePost$Songs;)V"⟩
abbrev cX6_dayOfLeaving : ByteArray := prog_8_method_2_code
def yX6_dayOfLeaving : MethodName := ⟨RX6, "dayOfLeaving", "(III)I"⟩
abbrev cX6_findFirstDays : ByteArray := prog_8_method_3_code
def yX6_findFirstDays : MethodName := ⟨RX6, "findFirstDays", "(III)V"⟩
abbrev cX6_goes : ByteArray := prog_8_method_4_code
def yX6_goes : MethodName := ⟨RX6, "goes", "(ILWhalePost$Way;II)Z"⟩
abbrev cX6_firstDayAt : ByteArray := prog_8_method_5_code
def yX6_firstDayAt : MethodName := ⟨RX6, "firstDayAt", "(IIII)I"⟩
abbrev cX6_dayOfBringing : ByteArray := prog_8_method_6_code
def yX6_dayOfBringing : MethodName := ⟨RX6, "dayOfBringing", "(II)I"⟩
abbrev cX6_soonestBringer : ByteArray := prog_8_method_7_code
def yX6_soonestBringer : MethodName := ⟨RX6, "soonestBringer", "(I)I"⟩
abbrev cX6_surestBringer : ByteArray := prog_8_method_8_code
def yX6_surestBringer : MethodName := ⟨RX6, "surestBringer", "(II)I"⟩
abbrev cX6_bringersBy : ByteArray := prog_8_method_9_code
def yX6_bringersBy : MethodName := ⟨RX6, "bringersBy", "(II)I"⟩
abbrev cX6_dayOfMeeting : ByteArray := prog_8_method_10_code
def yX6_dayOfMeeting : MethodName := ⟨RX6, "dayOfMeeting", "(IIII)I"⟩
abbrev cX6_fittingWhales : ByteArray := prog_8_method_11_code
def yX6_fittingWhales : MethodName := ⟨RX6, "fittingWhales", "()I"⟩
abbrev cX6_isFitting : ByteArray := prog_8_method_12_code
def yX6_isFitting : MethodName := ⟨RX6, "isFitting", "(I)Z"⟩
abbrev cX6_islandsReached : ByteArray := prog_8_method_13_code
def yX6_islandsReached : MethodName := ⟨RX6, "islandsReached", "(II)I"⟩
abbrev cX6_bestPier : ByteArray := prog_8_method_14_code
def yX6_bestPier : MethodName := ⟨RX6, "bestPier", "(I)I"⟩
abbrev cX6_whalesReaching : ByteArray := prog_8_method_15_code
def yX6_whalesReaching : MethodName := ⟨RX6, "whalesReaching", "(II)I"⟩
def RX7 : String := "WhalePost$Songs"
def TX7 : u_T := fun k => match k with
  | 0 => ("WhalePost$Songs", "post", "LWhalePost$Post;", false)
  | 1 => ("WhalePost$Songs", "seed", "I", false)
  | 2 => ("WhalePost$Songs", "fewestUnlike", "I", false)
  | 3 => ("WhalePost$Songs", "nearestCount", "I", false)
  | 4 => ("WhalePost$Songs", "firstNew", "I", false)
  | _ => ("WhalePost$Songs", "kept", "[I", true)
def tyX7 : Nat → FieldType := fun k => match k with
  | 0 => .object "WhalePost$Post"
  | 1 => .int
  | 2 => .int
  | 3 => .int
  | 4 => .int
  | _ => .array .int
theorem nmX7 : ∀ a, a < 6 → ∀ b, b < 6 → a ≠ b → (TX7 a).2.1 ≠ (TX7 b).2.1 := by decide +kernel
theorem tyX7_ok : ∀ k, k < 6 → parseFieldDescriptor (TX7 k).2.2.1 = some (tyX7 k) := by decide +kernel
abbrev cX7_init : ByteArray := prog_9_method_1_code
def yX7_init : MethodName := ⟨RX7, "<init>", "(LWhalePost$Post;)V"⟩
abbrev cX7_fallIn : ByteArray := prog_9_method_2_code
def yX7_fallIn : MethodName := ⟨RX7, "fallIn", "(I)I"⟩
abbrev cX7_raised : ByteArray := prog_9_method_3_code
def yX7_raised : MethodName := ⟨RX7, "raised", "(III)I"⟩
abbrev cX7_songIn : ByteArray := prog_9_method_4_code
def yX7_songIn : MethodName := ⟨RX7, "songIn", "(II)I"⟩
abbrev cX7_hearerOf : ByteArray := prog_9_method_5_code
def yX7_hearerOf : MethodName := ⟨RX7, "hearerOf", "(III)I"⟩
abbrev cX7_apartness : ByteArray := prog_9_method_6_code
def yX7_apartness : MethodName := ⟨RX7, "apartness", "(II)I"⟩
abbrev cX7_bearable : ByteArray := prog_9_method_7_code
def yX7_bearable : MethodName := ⟨RX7, "bearable", "()I"⟩
abbrev cX7_mixedPairs : ByteArray := prog_9_method_8_code
def yX7_mixedPairs : MethodName := ⟨RX7, "mixedPairs", "()I"⟩
abbrev cX7_findNew : ByteArray := prog_9_method_9_code
def yX7_findNew : MethodName := ⟨RX7, "findNew", "(IIII)I"⟩
abbrev cX7_keepSongsOf : ByteArray := prog_9_method_10_code
def yX7_keepSongsOf : MethodName := ⟨RX7, "keepSongsOf", "(II)I"⟩
abbrev cX7_isOfNotes : ByteArray := prog_9_method_11_code
def yX7_isOfNotes : MethodName := ⟨RX7, "isOfNotes", "(II)Z"⟩
abbrev cX7_isFarFromKept : ByteArray := prog_9_method_12_code
def yX7_isFarFromKept : MethodName := ⟨RX7, "isFarFromKept", "(III)Z"⟩
abbrev cX7_draw : ByteArray := prog_9_method_13_code
def yX7_draw : MethodName := ⟨RX7, "draw", "()I"⟩
abbrev cX7_slipped : ByteArray := prog_9_method_14_code
def yX7_slipped : MethodName := ⟨RX7, "slipped", "(II)I"⟩
def RX8 : String := "WhalePost$Spout"
def TX8 : u_T := fun k => match k with
  | 0 => ("WhalePost$Spout", "whale", "I", false)
  | 1 => ("WhalePost$Spout", "island", "I", false)
  | _ => ("WhalePost$Spout", "day", "I", false)
def tyX8 : Nat → FieldType := fun k => match k with
  | 0 => .int
  | 1 => .int
  | _ => .int
theorem nmX8 : ∀ a, a < 3 → ∀ b, b < 3 → a ≠ b → (TX8 a).2.1 ≠ (TX8 b).2.1 := by decide +kernel
theorem tyX8_ok : ∀ k, k < 3 → parseFieldDescriptor (TX8 k).2.2.1 = some (tyX8 k) := by decide +kernel
abbrev cX8_init : ByteArray := prog_10_method_1_code
def yX8_init : MethodName := ⟨RX8, "<init>", "()V"⟩
def RX9 : String := "WhalePost$Way"
def TX9 : u_T := fun k => match k with
  | 0 => ("WhalePost$Way", "one", "I", false)
  | 1 => ("WhalePost$Way", "other", "I", false)
  | 2 => ("WhalePost$Way", "days", "I", false)
  | _ => ("WhalePost$Way", "open", "I", false)
def tyX9 : Nat → FieldType := fun k => match k with
  | 0 => .int
  | 1 => .int
  | 2 => .int
  | _ => .int
theorem nmX9 : ∀ a, a < 4 → ∀ b, b < 4 → a ≠ b → (TX9 a).2.1 ≠ (TX9 b).2.1 := by decide +kernel
theorem tyX9_ok : ∀ k, k < 4 → parseFieldDescriptor (TX9 k).2.2.1 = some (tyX9 k) := by decide +kernel
abbrev cX9_init : ByteArray := prog_11_method_1_code
def yX9_init : MethodName := ⟨RX9, "<init>", "()V"⟩
def RX10 : String := "WhalePost$Whale"
def TX10 : u_T := fun k => match k with
  | 0 => ("WhalePost$Whale", "kind", "I", false)
  | 1 => ("WhalePost$Whale", "home", "I", false)
  | 2 => ("WhalePost$Whale", "keeps", "I", false)
  | _ => ("WhalePost$Whale", "lost", "I", false)
def tyX10 : Nat → FieldType := fun k => match k with
  | 0 => .int
  | 1 => .int
  | 2 => .int
  | _ => .int
theorem nmX10 : ∀ a, a < 4 → ∀ b, b < 4 → a ≠ b → (TX10 a).2.1 ≠ (TX10 b).2.1 := by decide +kernel
theorem tyX10_ok : ∀ k, k < 4 → parseFieldDescriptor (TX10 k).2.2.1 = some (tyX10 k) := by decide +kernel
abbrev cX10_init : ByteArray := prog_12_method_1_code
def yX10_init : MethodName := ⟨RX10, "<init>", "()V"⟩
def RX11 : String := "WhalePost"
def TX11 : u_T := fun k => match k with
  | 0 => ("WhalePost", "tape", "[B", true)
  | 1 => ("WhalePost", "tapeSize", "I", false)
  | 2 => ("WhalePost", "trouble", "I", false)
  | 3 => ("WhalePost", "post", "LWhalePost$Post;", false)
  | 4 => ("WhalePost", "draft", "LWhalePost$Post;", false)
  | 5 => ("WhalePost", "reader", "LWhalePost$Reader;", true)
  | 6 => ("WhalePost", "now", "LWhalePost$Now;", true)
  | 7 => ("WhalePost", "songs", "LWhalePost$Songs;", true)
  | 8 => ("WhalePost", "sea", "LWhalePost$Sea;", true)
  | 9 => ("WhalePost", "paths", "LWhalePost$Paths;", true)
  | 10 => ("WhalePost", "matching", "LWhalePost$Matching;", true)
  | 11 => ("WhalePost", "history", "[LWhalePost$Now;", true)
  | 12 => ("WhalePost", "newest", "I", false)
  | 13 => ("WhalePost", "undoable", "I", false)
  | 14 => ("WhalePost", "images", "[LWhalePost$Now;", true)
  | _ => ("WhalePost", "imageCount", "I", false)
def tyX11 : Nat → FieldType := fun k => match k with
  | 0 => .array .byte
  | 1 => .int
  | 2 => .int
  | 3 => .object "WhalePost$Post"
  | 4 => .object "WhalePost$Post"
  | 5 => .object "WhalePost$Reader"
  | 6 => .object "WhalePost$Now"
  | 7 => .object "WhalePost$Songs"
  | 8 => .object "WhalePost$Sea"
  | 9 => .object "WhalePost$Paths"
  | 10 => .object "WhalePost$Matching"
  | 11 => .array (.object "WhalePost$Now")
  | 12 => .int
  | 13 => .int
  | 14 => .array (.object "WhalePost$Now")
  | _ => .int
theorem nmX11 : ∀ a, a < 16 → ∀ b, b < 16 → a ≠ b → (TX11 a).2.1 ≠ (TX11 b).2.1 := by decide +kernel
theorem tyX11_ok : ∀ k, k < 16 → parseFieldDescriptor (TX11 k).2.2.1 = some (tyX11 k) := by decide +kernel
abbrev cX11_init : ByteArray := prog_1_method_1_code
def yX11_init : MethodName := ⟨RX11, "<init>", "()V"⟩
abbrev cX11_feed : ByteArray := prog_1_method_2_code
def yX11_feed : MethodName := ⟨RX11, "feed", "(IIIII)I"⟩
abbrev cX11_post : ByteArray := prog_1_method_3_code
def yX11_post : MethodName := ⟨RX11, "post", "(I)I"⟩
abbrev cX11_fault : ByteArray := prog_1_method_4_code
def yX11_fault : MethodName := ⟨RX11, "fault", "()I"⟩
abbrev cX11_where : ByteArray := prog_1_method_5_code
def yX11_where : MethodName := ⟨RX11, "where", "()I"⟩
abbrev cX11_whale : ByteArray := prog_1_method_6_code
def yX11_whale : MethodName := ⟨RX11, "whale", "(II)I"⟩
abbrev cX11_box : ByteArray := prog_1_method_7_code
def yX11_box : MethodName := ⟨RX11, "box", "(II)I"⟩
abbrev cX11_length : ByteArray := prog_1_method_8_code
def yX11_length : MethodName := ⟨RX11, "length", "(I)I"⟩
abbrev cX11_note : ByteArray := prog_1_method_9_code
def yX11_note : MethodName := ⟨RX11, "note", "(II)I"⟩
abbrev cX11_sung : ByteArray := prog_1_method_10_code
def yX11_sung : MethodName := ⟨RX11, "sung", "(II)I"⟩
abbrev cX11_heard : ByteArray := prog_1_method_11_code
def yX11_heard : MethodName := ⟨RX11, "heard", "(I)I"⟩
abbrev cX11_way : ByteArray := prog_1_method_12_code
def yX11_way : MethodName := ⟨RX11, "way", "(II)I"⟩
abbrev cX11_season : ByteArray := prog_1_method_13_code
def yX11_season : MethodName := ⟨RX11, "season", "(I)I"⟩
abbrev cX11_sets : ByteArray := prog_1_method_14_code
def yX11_sets : MethodName := ⟨RX11, "sets", "(III)I"⟩
abbrev cX11_sent : ByteArray := prog_1_method_15_code
def yX11_sent : MethodName := ⟨RX11, "sent", "(I)I"⟩
abbrev cX11_apart : ByteArray := prog_1_method_16_code
def yX11_apart : MethodName := ⟨RX11, "apart", "(II)I"⟩
abbrev cX11_bear : ByteArray := prog_1_method_17_code
def yX11_bear : MethodName := ⟨RX11, "bear", "()I"⟩
abbrev cX11_mixed : ByteArray := prog_1_method_18_code
def yX11_mixed : MethodName := ⟨RX11, "mixed", "()I"⟩
abbrev cX11_fresh : ByteArray := prog_1_method_19_code
def yX11_fresh : MethodName := ⟨RX11, "fresh", "(II)I"⟩
abbrev cX11_byTurns : ByteArray := prog_1_method_20_code
def yX11_byTurns : MethodName := ⟨RX11, "byTurns", "(II)I"⟩
abbrev cX11_near : ByteArray := prog_1_method_21_code
def yX11_near : MethodName := ⟨RX11, "near", "(I)I"⟩
abbrev cX11_asNear : ByteArray := prog_1_method_22_code
def yX11_asNear : MethodName := ⟨RX11, "asNear", "(I)I"⟩
abbrev cX11_heardIn : ByteArray := prog_1_method_23_code
def yX11_heardIn : MethodName := ⟨RX11, "heardIn", "(II)I"⟩
abbrev cX11_strange : ByteArray := prog_1_method_24_code
def yX11_strange : MethodName := ⟨RX11, "strange", "(I)I"⟩
abbrev cX11_arrival : ByteArray := prog_1_method_25_code
def yX11_arrival : MethodName := ⟨RX11, "arrival", "(IIII)I"⟩
abbrev cX11_brings : ByteArray := prog_1_method_26_code
def yX11_brings : MethodName := ⟨RX11, "brings", "(II)I"⟩
abbrev cX11_soonest : ByteArray := prog_1_method_27_code
def yX11_soonest : MethodName := ⟨RX11, "soonest", "(I)I"⟩
abbrev cX11_surest : ByteArray := prog_1_method_28_code
def yX11_surest : MethodName := ⟨RX11, "surest", "(I)I"⟩
abbrev cX11_by : ByteArray := prog_1_method_29_code
def yX11_by : MethodName := ⟨RX11, "by", "(II)I"⟩
abbrev cX11_registered : ByteArray := prog_1_method_30_code
def yX11_registered : MethodName := ⟨RX11, "registered", "(IZ)J"⟩
abbrev cX11_match : ByteArray := prog_1_method_31_code
def yX11_match : MethodName := ⟨RX11, "match", "()I"⟩
abbrev cX11_matchDays : ByteArray := prog_1_method_32_code
def yX11_matchDays : MethodName := ⟨RX11, "matchDays", "()I"⟩
abbrev cX11_matchOf : ByteArray := prog_1_method_33_code
def yX11_matchOf : MethodName := ⟨RX11, "matchOf", "(I)I"⟩
abbrev cX11_meet : ByteArray := prog_1_method_34_code
def yX11_meet : MethodName := ⟨RX11, "meet", "(IIII)I"⟩
abbrev cX11_fits : ByteArray := prog_1_method_35_code
def yX11_fits : MethodName := ⟨RX11, "fits", "()I"⟩
abbrev cX11_reach : ByteArray := prog_1_method_36_code
def yX11_reach : MethodName := ⟨RX11, "reach", "(II)I"⟩
abbrev cX11_pier : ByteArray := prog_1_method_37_code
def yX11_pier : MethodName := ⟨RX11, "pier", "(I)I"⟩
abbrev cX11_watch : ByteArray := prog_1_method_38_code
def yX11_watch : MethodName := ⟨RX11, "watch", "(II)I"⟩
abbrev cX11_round : ByteArray := prog_1_method_39_code
def yX11_round : MethodName := ⟨RX11, "round", "(I)I"⟩
abbrev cX11_roundAt : ByteArray := prog_1_method_40_code
def yX11_roundAt : MethodName := ⟨RX11, "roundAt", "(II)I"⟩
abbrev cX11_decade : ByteArray := prog_1_method_41_code
def yX11_decade : MethodName := ⟨RX11, "decade", "(II)I"⟩
abbrev cX11_send : ByteArray := prog_1_method_42_code
def yX11_send : MethodName := ⟨RX11, "send", "(II)I"⟩
abbrev cX11_tune : ByteArray := prog_1_method_43_code
def yX11_tune : MethodName := ⟨RX11, "tune", "(III)Z"⟩
abbrev cX11_years : ByteArray := prog_1_method_44_code
def yX11_years : MethodName := ⟨RX11, "years", "(I)I"⟩
abbrev cX11_close : ByteArray := prog_1_method_45_code
def yX11_close : MethodName := ⟨RX11, "close", "(IZ)Z"⟩
abbrev cX11_undo : ByteArray := prog_1_method_46_code
def yX11_undo : MethodName := ⟨RX11, "undo", "()Z"⟩
abbrev cX11_image : ByteArray := prog_1_method_47_code
def yX11_image : MethodName := ⟨RX11, "image", "()I"⟩
abbrev cX11_back : ByteArray := prog_1_method_48_code
def yX11_back : MethodName := ⟨RX11, "back", "(I)Z"⟩
abbrev cX11_led : ByteArray := prog_1_method_49_code
def yX11_led : MethodName := ⟨RX11, "led", "(I)I"⟩
abbrev cX11_size : ByteArray := prog_1_method_50_code
def yX11_size : MethodName := ⟨RX11, "size", "(I)I"⟩
abbrev cX11_trouble : ByteArray := prog_1_method_51_code
def yX11_trouble : MethodName := ⟨RX11, "trouble", "()I"⟩
abbrev cX11_granted : ByteArray := prog_1_method_52_code
def yX11_granted : MethodName := ⟨RX11, "granted", "(I)I"⟩
abbrev cX11_refused : ByteArray := prog_1_method_53_code
def yX11_refused : MethodName := ⟨RX11, "refused", "(I)I"⟩
abbrev cX11_hasGranted : ByteArray := prog_1_method_54_code
def yX11_hasGranted : MethodName := ⟨RX11, "hasGranted", "()Z"⟩
abbrev cX11_hasRefused : ByteArray := prog_1_method_55_code
def yX11_hasRefused : MethodName := ⟨RX11, "hasRefused", "(I)Z"⟩
abbrev cX11_hasPost : ByteArray := prog_1_method_56_code
def yX11_hasPost : MethodName := ⟨RX11, "hasPost", "()Z"⟩
abbrev cX11_isIsland : ByteArray := prog_1_method_57_code
def yX11_isIsland : MethodName := ⟨RX11, "isIsland", "(I)Z"⟩
abbrev cX11_areTwoIslands : ByteArray := prog_1_method_58_code
def yX11_areTwoIslands : MethodName := ⟨RX11, "areTwoIslands", "(II)Z"⟩
abbrev cX11_isWay : ByteArray := prog_1_method_59_code
def yX11_isWay : MethodName := ⟨RX11, "isWay", "(I)Z"⟩
abbrev cX11_isWhale : ByteArray := prog_1_method_60_code
def yX11_isWhale : MethodName := ⟨RX11, "isWhale", "(I)Z"⟩
abbrev cX11_isBox : ByteArray := prog_1_method_61_code
def yX11_isBox : MethodName := ⟨RX11, "isBox", "(I)Z"⟩
abbrev cX11_isNoteOfBox : ByteArray := prog_1_method_62_code
def yX11_isNoteOfBox : MethodName := ⟨RX11, "isNoteOfBox", "(II)Z"⟩
abbrev cX11_isWithin : ByteArray := prog_1_method_63_code
def yX11_isWithin : MethodName := ⟨RX11, "isWithin", "(II)Z"⟩
abbrev cX11_refusalOfNewSong : ByteArray := prog_1_method_64_code
def yX11_refusalOfNewSong : MethodName := ⟨RX11, "refusalOfNewSong", "(II)I"⟩
abbrev cX11_appendBytes : ByteArray := prog_1_method_65_code
def yX11_appendBytes : MethodName := ⟨RX11, "appendBytes", "(I)V"⟩
abbrev cX11_takeDraft : ByteArray := prog_1_method_66_code
def yX11_takeDraft : MethodName := ⟨RX11, "takeDraft", "()V"⟩
abbrev cX11_keepForUndo : ByteArray := prog_1_method_67_code
def yX11_keepForUndo : MethodName := ⟨RX11, "keepForUndo", "()V"⟩
abbrev cX11_hearerIn : ByteArray := prog_1_method_68_code
def yX11_hearerIn : MethodName := ⟨RX11, "hearerIn", "(II)I"⟩
abbrev cX11_sentPart : ByteArray := prog_1_method_69_code
def yX11_sentPart : MethodName := ⟨RX11, "sentPart", "(II)I"⟩
abbrev cX11_heardWithSlips : ByteArray := prog_1_method_70_code
def yX11_heardWithSlips : MethodName := ⟨RX11, "heardWithSlips", "(I)I"⟩
abbrev cX11_solveMatch : ByteArray := prog_1_method_71_code
def yX11_solveMatch : MethodName := ⟨RX11, "solveMatch", "()V"⟩
abbrev cX11_commonDivisor : ByteArray := prog_1_method_72_code
def yX11_commonDivisor : MethodName := ⟨RX11, "commonDivisor", "(II)I"⟩
abbrev cX11_noteAt : ByteArray := prog_1_method_73_code
def yX11_noteAt : MethodName := ⟨RX11, "noteAt", "(III)I"⟩
abbrev cX11_withNote : ByteArray := prog_1_method_74_code
def yX11_withNote : MethodName := ⟨RX11, "withNote", "(IIII)I"⟩
abbrev cX11_unlikeNotes : ByteArray := prog_1_method_75_code
def yX11_unlikeNotes : MethodName := ⟨RX11, "unlikeNotes", "(II)I"⟩
def RX12 : String := "WhalePostModel"
def TX12 : u_T := fun k => match k with
  | 0 => ("WhalePostModel", "thrown", "I", false)
  | 1 => ("WhalePostModel", "tape", "[I", true)
  | 2 => ("WhalePostModel", "taped", "I", false)
  | 3 => ("WhalePostModel", "size", "I", false)
  | 4 => ("WhalePostModel", "at", "I", false)
  | 5 => ("WhalePostModel", "end", "I", false)
  | 6 => ("WhalePostModel", "token", "I", false)
  | 7 => ("WhalePostModel", "whole", "I", false)
  | 8 => ("WhalePostModel", "nameSize", "I", false)
  | 9 => ("WhalePostModel", "fault", "I", false)
  | 10 => ("WhalePostModel", "place", "I", false)
  | 11 => ("WhalePostModel", "trouble", "I", false)
  | 12 => ("WhalePostModel", "letters", "[I", true)
  | 13 => ("WhalePostModel", "failed", "Z", false)
  | 14 => ("WhalePostModel", "hasPost", "Z", false)
  | 15 => ("WhalePostModel", "\x72", "[I", true)
  | 16 => ("WhalePostModel", "fresh", "[I", true)
  | 17 => ("WhalePostModel", "st", "[I", true)
  | 18 => ("WhalePostModel", "undone", "[I", true)
  | 19 => ("WhalePostModel", "kept", "[I", true)
  | 20 => ("WhalePostModel", "undos", "I", false)
  | 21 => ("WhalePostModel", "images", "I", false)
  | 22 => ("WhalePostModel", "taken", "[I", true)
  | 23 => ("WhalePostModel", "takenMany", "I", false)
  | 24 => ("WhalePostModel", "days", "[I", true)
  | 25 => ("WhalePostModel", "done", "[I", true)
  | 26 => ("WhalePostModel", "takes", "I", false)
  | 27 => ("WhalePostModel", "arrives", "I", false)
  | 28 => ("WhalePostModel", "tried", "[I", true)
  | 29 => ("WhalePostModel", "bestFor", "[I", true)
  | 30 => ("WhalePostModel", "bringDays", "[I", true)
  | 31 => ("WhalePostModel", "bestMany", "I", false)
  | 32 => ("WhalePostModel", "bestSum", "I", false)
  | 33 => ("WhalePostModel", "seenAt", "I", false)
  | 34 => ("WhalePostModel", "seenDay", "I", false)
  | 35 => ("WhalePostModel", "far", "[I", true)
  | 36 => ("WhalePostModel", "order", "[I", true)
  | 37 => ("WhalePostModel", "bestOrder", "[I", true)
  | _ => ("WhalePostModel", "bestRound", "I", false)
def tyX12 : Nat → FieldType := fun k => match k with
  | 0 => .int
  | 1 => .array .int
  | 2 => .int
  | 3 => .int
  | 4 => .int
  | 5 => .int
  | 6 => .int
  | 7 => .int
  | 8 => .int
  | 9 => .int
  | 10 => .int
  | 11 => .int
  | 12 => .array .int
  | 13 => .boolean
  | 14 => .boolean
  | 15 => .array .int
  | 16 => .array .int
  | 17 => .array .int
  | 18 => .array .int
  | 19 => .array .int
  | 20 => .int
  | 21 => .int
  | 22 => .array .int
  | 23 => .int
  | 24 => .array .int
  | 25 => .array .int
  | 26 => .int
  | 27 => .int
  | 28 => .array .int
  | 29 => .array .int
  | 30 => .array .int
  | 31 => .int
  | 32 => .int
  | 33 => .int
  | 34 => .int
  | 35 => .array .int
  | 36 => .array .int
  | 37 => .array .int
  | _ => .int
theorem nmX12 : ∀ a, a < 39 → ∀ b, b < 39 → a ≠ b → (TX12 a).2.1 ≠ (TX12 b).2.1 := by decide +kernel
theorem tyX12_ok : ∀ k, k < 39 → parseFieldDescriptor (TX12 k).2.2.1 = some (tyX12 k) := by decide +kernel
abbrev cX12_init : ByteArray := prog_14_method_1_code
def yX12_init : MethodName := ⟨RX12, "<init>", "()V"⟩
abbrev cX12_thrown : ByteArray := prog_14_method_2_code
def yX12_thrown : MethodName := ⟨RX12, "thrown", "()I"⟩
abbrev cX12_good : ByteArray := prog_14_method_3_code
def yX12_good : MethodName := ⟨RX12, "good", "()V"⟩
abbrev cX12_no : ByteArray := prog_14_method_4_code
def yX12_no : MethodName := ⟨RX12, "no", "(I)I"⟩
abbrev cX12_isNot : ByteArray := prog_14_method_5_code
def yX12_isNot : MethodName := ⟨RX12, "isNot", "(I)Z"⟩
abbrev cX12_in : ByteArray := prog_14_method_6_code
def yX12_in : MethodName := ⟨RX12, "in", "(III)Z"⟩
abbrev cX12_hasBit : ByteArray := prog_14_method_7_code
def yX12_hasBit : MethodName := ⟨RX12, "hasBit", "(II)Z"⟩
abbrev cX12_ones : ByteArray := prog_14_method_8_code
def yX12_ones : MethodName := ⟨RX12, "ones", "(I)I"⟩
abbrev cX12_copy : ByteArray := prog_14_method_9_code
def yX12_copy : MethodName := ⟨RX12, "copy", "([II[III)V"⟩
abbrev cX12_later : ByteArray := prog_14_method_10_code
def yX12_later : MethodName := ⟨RX12, "later", "(II)I"⟩
abbrev cX12_feed : ByteArray := prog_14_method_11_code
def yX12_feed : MethodName := ⟨RX12, "feed", "(IIIII)I"⟩
abbrev cX12_look : ByteArray := prog_14_method_12_code
def yX12_look : MethodName := ⟨RX12, "look", "(I)I"⟩
abbrev cX12_isSmall : ByteArray := prog_14_method_13_code
def yX12_isSmall : MethodName := ⟨RX12, "isSmall", "(I)Z"⟩
abbrev cX12_isDigit : ByteArray := prog_14_method_14_code
def yX12_isDigit : MethodName := ⟨RX12, "isDigit", "(I)Z"⟩
abbrev cX12_next : ByteArray := prog_14_method_15_code
def yX12_next : MethodName := ⟨RX12, "next", "()V"⟩
abbrev cX12_wrong : ByteArray := prog_14_method_16_code
def yX12_wrong : MethodName := ⟨RX12, "wrong", "(II)V"⟩
abbrev cX12_isWord : ByteArray := prog_14_method_17_code
def yX12_isWord : MethodName := ⟨RX12, "isWord", "(Ljava/lang/String;)Z"⟩
abbrev cX12_takesWord : ByteArray := prog_14_method_18_code
def yX12_takesWord : MethodName := ⟨RX12, "takesWord", "(Ljava/lang/String;)Z"⟩
abbrev cX12_must : ByteArray := prog_14_method_19_code
def yX12_must : MethodName := ⟨RX12, "must", "(Ljava/lang/String;)V"⟩
abbrev cX12_mustName : ByteArray := prog_14_method_20_code
def yX12_mustName : MethodName := ⟨RX12, "mustName", "()V"⟩
abbrev cX12_find : ByteArray := prog_14_method_21_code
def yX12_find : MethodName := ⟨RX12, "find", "()I"⟩
abbrev cX12_newName : ByteArray := prog_14_method_22_code
def yX12_newName : MethodName := ⟨RX12, "newName", "(I)V"⟩
abbrev cX12_named : ByteArray := prog_14_method_23_code
def yX12_named : MethodName := ⟨RX12, "named", "(II)I"⟩
abbrev cX12_islandPassed : ByteArray := prog_14_method_24_code
def yX12_islandPassed : MethodName := ⟨RX12, "islandPassed", "()I"⟩
abbrev cX12_islandBehind : ByteArray := prog_14_method_25_code
def yX12_islandBehind : MethodName := ⟨RX12, "islandBehind", "(Ljava/lang/String;)I"⟩
abbrev cX12_number : ByteArray := prog_14_method_26_code
def yX12_number : MethodName := ⟨RX12, "number", "(II)I"⟩
abbrev cX12_after : ByteArray := prog_14_method_27_code
def yX12_after : MethodName := ⟨RX12, "after", "(Ljava/lang/String;II)I"⟩
abbrev cX12_post : ByteArray := prog_14_method_28_code
def yX12_post : MethodName := ⟨RX12, "post", "(I)I"⟩
abbrev cX12_begins : ByteArray := prog_14_method_29_code
def yX12_begins : MethodName := ⟨RX12, "begins", "(Ljava/lang/String;Z)Z"⟩
abbrev cX12_readLine : ByteArray := prog_14_method_30_code
def yX12_readLine : MethodName := ⟨RX12, "readLine", "()V"⟩
abbrev cX12_postLine : ByteArray := prog_14_method_31_code
def yX12_postLine : MethodName := ⟨RX12, "postLine", "()V"⟩
abbrev cX12_islandLine : ByteArray := prog_14_method_32_code
def yX12_islandLine : MethodName := ⟨RX12, "islandLine", "()V"⟩
abbrev cX12_isSong : ByteArray := prog_14_method_33_code
def yX12_isSong : MethodName := ⟨RX12, "isSong", "(I)Z"⟩
abbrev cX12_wayLine : ByteArray := prog_14_method_34_code
def yX12_wayLine : MethodName := ⟨RX12, "wayLine", "()V"⟩
abbrev cX12_joins : ByteArray := prog_14_method_35_code
def yX12_joins : MethodName := ⟨RX12, "joins", "([IIII)Z"⟩
abbrev cX12_whaleLine : ByteArray := prog_14_method_36_code
def yX12_whaleLine : MethodName := ⟨RX12, "whaleLine", "()V"⟩
abbrev cX12_boxLine : ByteArray := prog_14_method_37_code
def yX12_boxLine : MethodName := ⟨RX12, "boxLine", "()V"⟩
abbrev cX12_spoutLine : ByteArray := prog_14_method_38_code
def yX12_spoutLine : MethodName := ⟨RX12, "spoutLine", "()V"⟩
abbrev cX12_fault : ByteArray := prog_14_method_39_code
def yX12_fault : MethodName := ⟨RX12, "fault", "()I"⟩
abbrev cX12_where : ByteArray := prog_14_method_40_code
def yX12_where : MethodName := ⟨RX12, "where", "()I"⟩
abbrev cX12_isIsland : ByteArray := prog_14_method_41_code
def yX12_isIsland : MethodName := ⟨RX12, "isIsland", "(I)Z"⟩
abbrev cX12_isWhale : ByteArray := prog_14_method_42_code
def yX12_isWhale : MethodName := ⟨RX12, "isWhale", "(I)Z"⟩
abbrev cX12_isBox : ByteArray := prog_14_method_43_code
def yX12_isBox : MethodName := ⟨RX12, "isBox", "(I)Z"⟩
abbrev cX12_ofWhale : ByteArray := prog_14_method_44_code
def yX12_ofWhale : MethodName := ⟨RX12, "ofWhale", "(II)I"⟩
abbrev cX12_ofBox : ByteArray := prog_14_method_45_code
def yX12_ofBox : MethodName := ⟨RX12, "ofBox", "(II)I"⟩
abbrev cX12_songLong : ByteArray := prog_14_method_46_code
def yX12_songLong : MethodName := ⟨RX12, "songLong", "(I)I"⟩
abbrev cX12_boxLong : ByteArray := prog_14_method_47_code
def yX12_boxLong : MethodName := ⟨RX12, "boxLong", "(I)I"⟩
abbrev cX12_noteIn : ByteArray := prog_14_method_48_code
def yX12_noteIn : MethodName := ⟨RX12, "noteIn", "(III)I"⟩
abbrev cX12_whale : ByteArray := prog_14_method_49_code
def yX12_whale : MethodName := ⟨RX12, "whale", "(II)I"⟩
abbrev cX12_box : ByteArray := prog_14_method_50_code
def yX12_box : MethodName := ⟨RX12, "box", "(II)I"⟩
abbrev cX12_length : ByteArray := prog_14_method_51_code
def yX12_length : MethodName := ⟨RX12, "length", "(I)I"⟩
abbrev cX12_note : ByteArray := prog_14_method_52_code
def yX12_note : MethodName := ⟨RX12, "note", "(II)I"⟩
abbrev cX12_sung : ByteArray := prog_14_method_53_code
def yX12_sung : MethodName := ⟨RX12, "sung", "(II)I"⟩
abbrev cX12_unlike : ByteArray := prog_14_method_54_code
def yX12_unlike : MethodName := ⟨RX12, "unlike", "(IIIII)I"⟩
abbrev cX12_hearsIn : ByteArray := prog_14_method_55_code
def yX12_hearsIn : MethodName := ⟨RX12, "hearsIn", "(IIII)I"⟩
abbrev cX12_heardNow : ByteArray := prog_14_method_56_code
def yX12_heardNow : MethodName := ⟨RX12, "heardNow", "(I)I"⟩
abbrev cX12_heard : ByteArray := prog_14_method_57_code
def yX12_heard : MethodName := ⟨RX12, "heard", "(I)I"⟩
abbrev cX12_isClosed : ByteArray := prog_14_method_58_code
def yX12_isClosed : MethodName := ⟨RX12, "isClosed", "(I)Z"⟩
abbrev cX12_wayOf : ByteArray := prog_14_method_59_code
def yX12_wayOf : MethodName := ⟨RX12, "wayOf", "(II)I"⟩
abbrev cX12_way : ByteArray := prog_14_method_60_code
def yX12_way : MethodName := ⟨RX12, "way", "(II)I"⟩
abbrev cX12_nearOf : ByteArray := prog_14_method_61_code
def yX12_nearOf : MethodName := ⟨RX12, "nearOf", "(IZ)I"⟩
abbrev cX12_near : ByteArray := prog_14_method_62_code
def yX12_near : MethodName := ⟨RX12, "near", "(I)I"⟩
abbrev cX12_asNear : ByteArray := prog_14_method_63_code
def yX12_asNear : MethodName := ⟨RX12, "asNear", "(I)I"⟩
abbrev cX12_sent : ByteArray := prog_14_method_64_code
def yX12_sent : MethodName := ⟨RX12, "sent", "(I)I"⟩
abbrev cX12_apartOf : ByteArray := prog_14_method_65_code
def yX12_apartOf : MethodName := ⟨RX12, "apartOf", "(II)I"⟩
abbrev cX12_apart : ByteArray := prog_14_method_66_code
def yX12_apart : MethodName := ⟨RX12, "apart", "(II)I"⟩
abbrev cX12_bear : ByteArray := prog_14_method_67_code
def yX12_bear : MethodName := ⟨RX12, "bear", "()I"⟩
abbrev cX12_mixed : ByteArray := prog_14_method_68_code
def yX12_mixed : MethodName := ⟨RX12, "mixed", "()I"⟩
abbrev cX12_power : ByteArray := prog_14_method_69_code
def yX12_power : MethodName := ⟨RX12, "power", "(I)I"⟩
abbrev cX12_digitsApart : ByteArray := prog_14_method_70_code
def yX12_digitsApart : MethodName := ⟨RX12, "digitsApart", "(III)I"⟩
abbrev cX12_newSongs : ByteArray := prog_14_method_71_code
def yX12_newSongs : MethodName := ⟨RX12, "newSongs", "(IIZ)I"⟩
abbrev cX12_songWhy : ByteArray := prog_14_method_72_code
def yX12_songWhy : MethodName := ⟨RX12, "songWhy", "(II)I"⟩
abbrev cX12_fresh : ByteArray := prog_14_method_73_code
def yX12_fresh : MethodName := ⟨RX12, "fresh", "(II)I"⟩
abbrev cX12_byTurns : ByteArray := prog_14_method_74_code
def yX12_byTurns : MethodName := ⟨RX12, "byTurns", "(II)I"⟩
abbrev cX12_heardIn : ByteArray := prog_14_method_75_code
def yX12_heardIn : MethodName := ⟨RX12, "heardIn", "(II)I"⟩
abbrev cX12_hearsItself : ByteArray := prog_14_method_76_code
def yX12_hearsItself : MethodName := ⟨RX12, "hearsItself", "(II)Z"⟩
abbrev cX12_strange : ByteArray := prog_14_method_77_code
def yX12_strange : MethodName := ⟨RX12, "strange", "(I)I"⟩
abbrev cX12_dayBy : ByteArray := prog_14_method_78_code
def yX12_dayBy : MethodName := ⟨RX12, "dayBy", "(III)I"⟩
abbrev cX12_setsOut : ByteArray := prog_14_method_79_code
def yX12_setsOut : MethodName := ⟨RX12, "setsOut", "(III)I"⟩
abbrev cX12_seasonOf : ByteArray := prog_14_method_80_code
def yX12_seasonOf : MethodName := ⟨RX12, "seasonOf", "(I)I"⟩
abbrev cX12_season : ByteArray := prog_14_method_81_code
def yX12_season : MethodName := ⟨RX12, "season", "(I)I"⟩
abbrev cX12_sets : ByteArray := prog_14_method_82_code
def yX12_sets : MethodName := ⟨RX12, "sets", "(III)I"⟩
abbrev cX12_layDays : ByteArray := prog_14_method_83_code
def yX12_layDays : MethodName := ⟨RX12, "layDays", "(III)V"⟩
abbrev cX12_goesBy : ByteArray := prog_14_method_84_code
def yX12_goesBy : MethodName := ⟨RX12, "goesBy", "(III)V"⟩
abbrev cX12_arrivalOf : ByteArray := prog_14_method_85_code
def yX12_arrivalOf : MethodName := ⟨RX12, "arrivalOf", "(IIII)I"⟩
abbrev cX12_arrival : ByteArray := prog_14_method_86_code
def yX12_arrival : MethodName := ⟨RX12, "arrival", "(IIII)I"⟩
abbrev cX12_lays : ByteArray := prog_14_method_87_code
def yX12_lays : MethodName := ⟨RX12, "lays", "(II)Z"⟩
abbrev cX12_bringsOf : ByteArray := prog_14_method_88_code
def yX12_bringsOf : MethodName := ⟨RX12, "bringsOf", "(II)I"⟩
abbrev cX12_brings : ByteArray := prog_14_method_89_code
def yX12_brings : MethodName := ⟨RX12, "brings", "(II)I"⟩
abbrev cX12_soonest : ByteArray := prog_14_method_90_code
def yX12_soonest : MethodName := ⟨RX12, "soonest", "(I)I"⟩
abbrev cX12_surestBut : ByteArray := prog_14_method_91_code
def yX12_surestBut : MethodName := ⟨RX12, "surestBut", "(II)I"⟩
abbrev cX12_surest : ByteArray := prog_14_method_92_code
def yX12_surest : MethodName := ⟨RX12, "surest", "(I)I"⟩
abbrev cX12_by : ByteArray := prog_14_method_93_code
def yX12_by : MethodName := ⟨RX12, "by", "(II)I"⟩
abbrev cX12_lowest : ByteArray := prog_14_method_94_code
def yX12_lowest : MethodName := ⟨RX12, "lowest", "(JJZ)J"⟩
abbrev cX12_registered : ByteArray := prog_14_method_95_code
def yX12_registered : MethodName := ⟨RX12, "registered", "(IZ)J"⟩
abbrev cX12_tryMatch : ByteArray := prog_14_method_96_code
def yX12_tryMatch : MethodName := ⟨RX12, "tryMatch", "(IIII)V"⟩
abbrev cX12_seekMatch : ByteArray := prog_14_method_97_code
def yX12_seekMatch : MethodName := ⟨RX12, "seekMatch", "()V"⟩
abbrev cX12_match : ByteArray := prog_14_method_98_code
def yX12_match : MethodName := ⟨RX12, "match", "()I"⟩
abbrev cX12_matchDays : ByteArray := prog_14_method_99_code
def yX12_matchDays : MethodName := ⟨RX12, "matchDays", "()I"⟩
abbrev cX12_matchOf : ByteArray := prog_14_method_100_code
def yX12_matchOf : MethodName := ⟨RX12, "matchOf", "(I)I"⟩
abbrev cX12_meet : ByteArray := prog_14_method_101_code
def yX12_meet : MethodName := ⟨RX12, "meet", "(IIII)I"⟩
abbrev cX12_fitsAll : ByteArray := prog_14_method_102_code
def yX12_fitsAll : MethodName := ⟨RX12, "fitsAll", "(I)Z"⟩
abbrev cX12_fits : ByteArray := prog_14_method_103_code
def yX12_fits : MethodName := ⟨RX12, "fits", "()I"⟩
abbrev cX12_reachOf : ByteArray := prog_14_method_104_code
def yX12_reachOf : MethodName := ⟨RX12, "reachOf", "(II)I"⟩
abbrev cX12_reach : ByteArray := prog_14_method_105_code
def yX12_reach : MethodName := ⟨RX12, "reach", "(II)I"⟩
abbrev cX12_pier : ByteArray := prog_14_method_106_code
def yX12_pier : MethodName := ⟨RX12, "pier", "(I)I"⟩
abbrev cX12_doLead : ByteArray := prog_14_method_107_code
def yX12_doLead : MethodName := ⟨RX12, "doLead", "(III)Z"⟩
abbrev cX12_watch : ByteArray := prog_14_method_108_code
def yX12_watch : MethodName := ⟨RX12, "watch", "(II)I"⟩
abbrev cX12_layFar : ByteArray := prog_14_method_109_code
def yX12_layFar : MethodName := ⟨RX12, "layFar", "()V"⟩
abbrev cX12_tryRound : ByteArray := prog_14_method_110_code
def yX12_tryRound : MethodName := ⟨RX12, "tryRound", "(III)V"⟩
abbrev cX12_seekRound : ByteArray := prog_14_method_111_code
def yX12_seekRound : MethodName := ⟨RX12, "seekRound", "(I)I"⟩
abbrev cX12_round : ByteArray := prog_14_method_112_code
def yX12_round : MethodName := ⟨RX12, "round", "(I)I"⟩
abbrev cX12_roundAt : ByteArray := prog_14_method_113_code
def yX12_roundAt : MethodName := ⟨RX12, "roundAt", "(II)I"⟩
abbrev cX12_decade : ByteArray := prog_14_method_114_code
def yX12_decade : MethodName := ⟨RX12, "decade", "(II)I"⟩
abbrev cX12_note1 : ByteArray := prog_14_method_115_code
def yX12_note1 : MethodName := ⟨RX12, "note1", "()V"⟩
abbrev cX12_send : ByteArray := prog_14_method_116_code
def yX12_send : MethodName := ⟨RX12, "send", "(II)I"⟩
abbrev cX12_tune : ByteArray := prog_14_method_117_code
def yX12_tune : MethodName := ⟨RX12, "tune", "(III)Z"⟩
abbrev cX12_years : ByteArray := prog_14_method_118_code
def yX12_years : MethodName := ⟨RX12, "years", "(I)I"⟩
abbrev cX12_close : ByteArray := prog_14_method_119_code
def yX12_close : MethodName := ⟨RX12, "close", "(IZ)Z"⟩
abbrev cX12_undo : ByteArray := prog_14_method_120_code
def yX12_undo : MethodName := ⟨RX12, "undo", "()Z"⟩
abbrev cX12_image : ByteArray := prog_14_method_121_code
def yX12_image : MethodName := ⟨RX12, "image", "()I"⟩
abbrev cX12_back : ByteArray := prog_14_method_122_code
def yX12_back : MethodName := ⟨RX12, "back", "(I)Z"⟩
abbrev cX12_led : ByteArray := prog_14_method_123_code
def yX12_led : MethodName := ⟨RX12, "led", "(I)I"⟩
abbrev cX12_size : ByteArray := prog_14_method_124_code
def yX12_size : MethodName := ⟨RX12, "size", "(I)I"⟩
abbrev cX12_trouble : ByteArray := prog_14_method_125_code
def yX12_trouble : MethodName := ⟨RX12, "trouble", "()I"⟩
def RJ6 : String := "java/lang/Integer"
def TJ6 : u_T := fun k => match k with
  | _ => ("", "", "", false)
def tyJ6 : Nat → FieldType := fun k => match k with
  | _ => .int
theorem nmJ6 : ∀ a, a < 0 → ∀ b, b < 0 → a ≠ b → (TJ6 a).2.1 ≠ (TJ6 b).2.1 := by decide +kernel
theorem tyJ6_ok : ∀ k, k < 0 → parseFieldDescriptor (TJ6 k).2.2.1 = some (tyJ6 k) := by decide +kernel
abbrev cJ6_bitCount_0f7a4 : ByteArray := prog_19_method_49_code
def yJ6_bitCount_0f7a4 : MethodName := ⟨RJ6, "bitCount", "(I)I"⟩
def RJ0 : String := "java/lang/String"
def TJ0 : u_T := fun k => match k with
  | _ => ("", "", "", false)
def tyJ0 : Nat → FieldType := fun k => match k with
  | _ => .int
theorem nmJ0 : ∀ a, a < 0 → ∀ b, b < 0 → a ≠ b → (TJ0 a).2.1 ≠ (TJ0 b).2.1 := by decide +kernel
theorem tyJ0_ok : ∀ k, k < 0 → parseFieldDescriptor (TJ0 k).2.2.1 = some (tyJ0 k) := by decide +kernel
abbrev cJ0_length_8abf5 : ByteArray := prog_22_method_54_code
def yJ0_length_8abf5 : MethodName := ⟨RJ0, "length", "()I"⟩
abbrev cJ0_charAt_5068e : ByteArray := prog_22_method_56_code
def yJ0_charAt_5068e : MethodName := ⟨RJ0, "charAt", "(I)C"⟩
abbrev cJ0_coder_7d493 : ByteArray := prog_22_method_152_code
def yJ0_coder_7d493 : MethodName := ⟨RJ0, "coder", "()B"⟩
abbrev cJ0_isLatin1_aae02 : ByteArray := prog_22_method_154_code
def yJ0_isLatin1_aae02 : MethodName := ⟨RJ0, "isLatin1", "()Z"⟩
abbrev cJ0_checkIndex_df160 : ByteArray := prog_22_method_155_code
def yJ0_checkIndex_df160 : MethodName := ⟨RJ0, "checkIndex", "(II)V"⟩
def RJ1 : String := "java/lang/StringLatin1"
def TJ1 : u_T := fun k => match k with
  | _ => ("", "", "", false)
def tyJ1 : Nat → FieldType := fun k => match k with
  | _ => .int
theorem nmJ1 : ∀ a, a < 0 → ∀ b, b < 0 → a ≠ b → (TJ1 a).2.1 ≠ (TJ1 b).2.1 := by decide +kernel
theorem tyJ1_ok : ∀ k, k < 0 → parseFieldDescriptor (TJ1 k).2.2.1 = some (tyJ1 k) := by decide +kernel
abbrev cJ1_charAt_3b067 : ByteArray := prog_23_method_2_code
def yJ1_charAt_3b067 : MethodName := ⟨RJ1, "charAt", "([BI)C"⟩
def RJ7 : String := "java/util/Arrays"
def TJ7 : u_T := fun k => match k with
  | _ => ("", "", "", false)
def tyJ7 : Nat → FieldType := fun k => match k with
  | _ => .int
theorem nmJ7 : ∀ a, a < 0 → ∀ b, b < 0 → a ≠ b → (TJ7 a).2.1 ≠ (TJ7 b).2.1 := by decide +kernel
theorem tyJ7_ok : ∀ k, k < 0 → parseFieldDescriptor (TJ7 k).2.2.1 = some (tyJ7 k) := by decide +kernel
abbrev cJ7_fill_53178 : ByteArray := prog_29_method_103_code
def yJ7_fill_53178 : MethodName := ⟨RJ7, "fill", "([II)V"⟩
def RJ3 : String := "jdk/internal/util/Preconditions"
def TJ3 : u_T := fun k => match k with
  | _ => ("", "", "", false)
def tyJ3 : Nat → FieldType := fun k => match k with
  | _ => .int
theorem nmJ3 : ∀ a, a < 0 → ∀ b, b < 0 → a ≠ b → (TJ3 a).2.1 ≠ (TJ3 b).2.1 := by decide +kernel
theorem tyJ3_ok : ∀ k, k < 0 → parseFieldDescriptor (TJ3 k).2.2.1 = some (tyJ3 k) := by decide +kernel
abbrev cJ3_checkIndex_8e157 : ByteArray := prog_31_method_11_code
def yJ3_checkIndex_8e157 : MethodName := ⟨RJ3, "checkIndex", "(IILjava/util/function/BiFunction;)I"⟩
def RL : String := "WhalePostLaw"
abbrev cL_led : ByteArray := method_3_code
def yL_led : MethodName := ⟨RL, "led", "(LWhalePost;I[J)I"⟩
abbrev cL_law : ByteArray := code
def yL_law : MethodName := ⟨RL, "law", "([I)Z"⟩
abbrev vwCl : List vw_C := [(RX0, TX0, 4), (RX1, TX1, 5), (RX2, TX2, 7), (RX3, TX3, 4), (RX4, TX4, 15), (RX5, TX5, 13), (RX6, TX6, 7), (RX7, TX7, 6), (RX8, TX8, 3), (RX9, TX9, 4), (RX10, TX10, 4), (RX11, TX11, 16), (RX12, TX12, 39)]
end
section
/-! the small machine's tables, by program out of the printed names -/
abbrev zV : Type := Int32 ⊕ Int64 ⊕ Option Nat
abbrev zM : Type := ByteArray × Nat × Nat × Option FieldType × MethodName × Bool
def zRn (o : Nat) : String := match o with
  | 0 => RX0
  | 1 => RX1
  | 2 => RX2
  | 3 => RX3
  | 4 => RX4
  | 5 => RX5
  | 6 => RX6
  | 7 => RX7
  | 8 => RX8
  | 9 => RX9
  | 10 => RX10
  | 11 => RX11
  | 12 => RX12
  | 13 => RL
  | 14 => RJ0
  | 15 => RJ1
  | 16 => RJ6
  | 17 => RJ7
  | _ => RJ3
def zTT (c : Nat) : u_T := match c with
  | 0 => TX0
  | 1 => TX1
  | 2 => TX2
  | 3 => TX3
  | 4 => TX4
  | 5 => TX5
  | 6 => TX6
  | 7 => TX7
  | 8 => TX8
  | 9 => TX9
  | 10 => TX10
  | 11 => TX11
  | _ => TX12
def zty (c : Nat) : Nat → FieldType := match c with
  | 0 => tyX0
  | 1 => tyX1
  | 2 => tyX2
  | 3 => tyX3
  | 4 => tyX4
  | 5 => tyX5
  | 6 => tyX6
  | 7 => tyX7
  | 8 => tyX8
  | 9 => tyX9
  | 10 => tyX10
  | 11 => tyX11
  | _ => tyX12
/-- the sorts of a class's fields: 0 int, 1 boolean, 3 reference -/
def zft (c : Nat) : List Nat := match c with
  | 0 => [0, 0, 0, 0]
  | 1 => [3, 3, 0, 0, 3]
  | 2 => [0, 0, 3, 3, 3, 3, 3]
  | 3 => [3, 3, 3, 3]
  | 4 => [0, 0, 0, 0, 0, 0, 0, 0, 0, 3, 3, 3, 3, 3, 3]
  | 5 => [3, 0, 0, 0, 0, 0, 3, 3, 3, 3, 0, 0, 0]
  | 6 => [3, 3, 3, 3, 0, 0, 0]
  | 7 => [3, 0, 0, 0, 0, 3]
  | 8 => [0, 0, 0]
  | 9 => [0, 0, 0, 0]
  | 10 => [0, 0, 0, 0]
  | 11 => [3, 0, 0, 3, 3, 3, 3, 3, 3, 3, 3, 3, 0, 0, 3, 0]
  | 12 => [0, 3, 0, 0, 0, 0, 0, 0, 0, 0, 0, 0, 3, 1, 1, 3, 3, 3, 3, 3, 0, 0, 3, 0, 3, 3, 0, 0, 3, 3, 3, 0, 0, 0, 0, 3, 3, 3, 0]
  | _ => []
def zfin (c f : Nat) : Bool := (zTT c f).2.2.2
def zrc (k : Nat) : Nat := match k with
  | 16 => 0
  | 17 => 2
  | 18 => 8
  | 19 => 9
  | 20 => 10
  | _ => 99
def zak (c : Nat) : Nat := match c with
  | 0 => 16
  | 2 => 17
  | 8 => 18
  | 9 => 19
  | 10 => 20
  | _ => 0
abbrev mX0_init : zM := (cX0_init, 0, 1, none, yX0_init, true)
abbrev mX1_init : zM := (cX1_init, 1, 1, none, yX1_init, true)
abbrev mX1_solve : zM := (cX1_solve, 1, 7, none, yX1_solve, false)
abbrev mX1_worth : zM := (cX1_worth, 1, 5, (some .int), yX1_worth, false)
abbrev mX1_choose : zM := (cX1_choose, 1, 6, none, yX1_choose, false)
abbrev mX1_firstBest : zM := (cX1_firstBest, 1, 5, (some .int), yX1_firstBest, false)
abbrev mX2_init : zM := (cX2_init, 2, 1, none, yX2_init, true)
abbrev mX2_begin : zM := (cX2_begin, 2, 3, none, yX2_begin, false)
abbrev mX2_copyFrom : zM := (cX2_copyFrom, 2, 2, none, yX2_copyFrom, false)
abbrev mX2_isClosed : zM := (cX2_isClosed, 2, 2, (some .boolean), yX2_isClosed, false)
abbrev mX2_isSent : zM := (cX2_isSent, 2, 2, (some .boolean), yX2_isSent, false)
abbrev mX3_init : zM := (cX3_init, 3, 2, none, yX3_init, true)
abbrev mX3_fewestToWatch : zM := (cX3_fewestToWatch, 3, 9, (some .int), yX3_fewestToWatch, false)
abbrev mX3_waysOutOf : zM := (cX3_waysOutOf, 3, 4, (some .int), yX3_waysOutOf, false)
abbrev mX3_findRound : zM := (cX3_findRound, 3, 6, (some .int), yX3_findRound, false)
abbrev mX3_findShortest : zM := (cX3_findShortest, 3, 6, none, yX3_findShortest, false)
abbrev mX3_findRests : zM := (cX3_findRests, 3, 6, none, yX3_findRests, false)
abbrev mX3_daysOver : zM := (cX3_daysOver, 3, 4, (some .int), yX3_daysOver, false)
abbrev mX3_nextOf : zM := (cX3_nextOf, 3, 4, (some .int), yX3_nextOf, false)
abbrev mX4_init : zM := (cX4_init, 4, 2, none, yX4_init, true)
abbrev mX4_clear : zM := (cX4_clear, 4, 1, none, yX4_clear, false)
abbrev mX4_boxLength : zM := (cX4_boxLength, 4, 2, (some .int), yX4_boxLength, false)
abbrev mX4_wayBetween : zM := (cX4_wayBetween, 4, 5, (some .int), yX4_wayBetween, false)
abbrev mX4_hasSong : zM := (cX4_hasSong, 4, 4, (some .boolean), yX4_hasSong, false)
abbrev mX4_lastSpoutOf : zM := (cX4_lastSpoutOf, 4, 3, (some .int), yX4_lastSpoutOf, false)
abbrev mX5_init : zM := (cX5_init, 5, 3, none, yX5_init, true)
abbrev mX5_readPost : zM := (cX5_readPost, 5, 4, (some .boolean), yX5_readPost, false)
abbrev mX5_faulty : zM := (cX5_faulty, 5, 2, (some .boolean), yX5_faulty, false)
abbrev mX5_readLine : zM := (cX5_readLine, 5, 3, (some .boolean), yX5_readLine, false)
abbrev mX5_readHead : zM := (cX5_readHead, 5, 1, (some .boolean), yX5_readHead, false)
abbrev mX5_readIsland : zM := (cX5_readIsland, 5, 3, (some .boolean), yX5_readIsland, false)
abbrev mX5_readWay : zM := (cX5_readWay, 5, 2, (some .boolean), yX5_readWay, false)
abbrev mX5_readWhale : zM := (cX5_readWhale, 5, 2, (some .boolean), yX5_readWhale, false)
abbrev mX5_readBox : zM := (cX5_readBox, 5, 2, (some .boolean), yX5_readBox, false)
abbrev mX5_readSpout : zM := (cX5_readSpout, 5, 4, (some .boolean), yX5_readSpout, false)
abbrev mX5_word : zM := (cX5_word, 5, 2, (some .boolean), yX5_word, false)
abbrev mX5_whole : zM := (cX5_whole, 5, 4, (some .boolean), yX5_whole, false)
abbrev mX5_newName : zM := (cX5_newName, 5, 3, (some .boolean), yX5_newName, false)
abbrev mX5_toldName : zM := (cX5_toldName, 5, 3, (some .boolean), yX5_toldName, false)
abbrev mX5_nameOfToken : zM := (cX5_nameOfToken, 5, 4, (some .int), yX5_nameOfToken, false)
abbrev mX5_letters : zM := (cX5_letters, 5, 4, (some .long), yX5_letters, false)
abbrev mX5_songOfToken : zM := (cX5_songOfToken, 5, 5, (some .int), yX5_songOfToken, false)
abbrev mX5_kindOfToken : zM := (cX5_kindOfToken, 5, 1, (some .int), yX5_kindOfToken, false)
abbrev mX5_sortOfLine : zM := (cX5_sortOfLine, 5, 1, (some .int), yX5_sortOfLine, false)
abbrev mX5_isToken : zM := (cX5_isToken, 5, 3, (some .boolean), yX5_isToken, false)
abbrev mX5_nextToken : zM := (cX5_nextToken, 5, 1, none, yX5_nextToken, false)
abbrev mX5_passAll : zM := (cX5_passAll, 5, 3, (some .boolean), yX5_passAll, false)
abbrev mX6_init : zM := (cX6_init, 6, 4, none, yX6_init, true)
abbrev mX6_dayOfLeaving : zM := (cX6_dayOfLeaving, 6, 6, (some .int), yX6_dayOfLeaving, false)
abbrev mX6_findFirstDays : zM := (cX6_findFirstDays, 6, 10, none, yX6_findFirstDays, false)
abbrev mX6_goes : zM := (cX6_goes, 6, 7, (some .boolean), yX6_goes, false)
abbrev mX6_firstDayAt : zM := (cX6_firstDayAt, 6, 5, (some .int), yX6_firstDayAt, false)
abbrev mX6_dayOfBringing : zM := (cX6_dayOfBringing, 6, 6, (some .int), yX6_dayOfBringing, false)
abbrev mX6_soonestBringer : zM := (cX6_soonestBringer, 6, 6, (some .int), yX6_soonestBringer, false)
abbrev mX6_surestBringer : zM := (cX6_surestBringer, 6, 6, (some .int), yX6_surestBringer, false)
abbrev mX6_bringersBy : zM := (cX6_bringersBy, 6, 6, (some .int), yX6_bringersBy, false)
abbrev mX6_dayOfMeeting : zM := (cX6_dayOfMeeting, 6, 8, (some .int), yX6_dayOfMeeting, false)
abbrev mX6_fittingWhales : zM := (cX6_fittingWhales, 6, 3, (some .int), yX6_fittingWhales, false)
abbrev mX6_isFitting : zM := (cX6_isFitting, 6, 6, (some .boolean), yX6_isFitting, false)
abbrev mX6_islandsReached : zM := (cX6_islandsReached, 6, 7, (some .int), yX6_islandsReached, false)
abbrev mX6_bestPier : zM := (cX6_bestPier, 6, 7, (some .int), yX6_bestPier, false)
abbrev mX6_whalesReaching : zM := (cX6_whalesReaching, 6, 5, (some .int), yX6_whalesReaching, false)
abbrev mX7_init : zM := (cX7_init, 7, 2, none, yX7_init, true)
abbrev mX7_fallIn : zM := (cX7_fallIn, 7, 2, (some .int), yX7_fallIn, false)
abbrev mX7_raised : zM := (cX7_raised, 7, 6, (some .int), yX7_raised, false)
abbrev mX7_songIn : zM := (cX7_songIn, 7, 3, (some .int), yX7_songIn, false)
abbrev mX7_hearerOf : zM := (cX7_hearerOf, 7, 8, (some .int), yX7_hearerOf, false)
abbrev mX7_apartness : zM := (cX7_apartness, 7, 3, (some .int), yX7_apartness, false)
abbrev mX7_bearable : zM := (cX7_bearable, 7, 5, (some .int), yX7_bearable, false)
abbrev mX7_mixedPairs : zM := (cX7_mixedPairs, 7, 5, (some .int), yX7_mixedPairs, false)
abbrev mX7_findNew : zM := (cX7_findNew, 7, 9, (some .int), yX7_findNew, false)
abbrev mX7_keepSongsOf : zM := (cX7_keepSongsOf, 7, 5, (some .int), yX7_keepSongsOf, false)
abbrev mX7_isOfNotes : zM := (cX7_isOfNotes, 7, 4, (some .boolean), yX7_isOfNotes, false)
abbrev mX7_isFarFromKept : zM := (cX7_isFarFromKept, 7, 5, (some .boolean), yX7_isFarFromKept, false)
abbrev mX7_draw : zM := (cX7_draw, 7, 1, (some .int), yX7_draw, false)
abbrev mX7_slipped : zM := (cX7_slipped, 7, 4, (some .int), yX7_slipped, false)
abbrev mX8_init : zM := (cX8_init, 8, 1, none, yX8_init, true)
abbrev mX9_init : zM := (cX9_init, 9, 1, none, yX9_init, true)
abbrev mX10_init : zM := (cX10_init, 10, 1, none, yX10_init, true)
abbrev mX11_init : zM := (cX11_init, 11, 2, none, yX11_init, true)
abbrev mX11_feed : zM := (cX11_feed, 11, 6, (some .int), yX11_feed, false)
abbrev mX11_post : zM := (cX11_post, 11, 2, (some .int), yX11_post, false)
abbrev mX11_fault : zM := (cX11_fault, 11, 1, (some .int), yX11_fault, false)
abbrev mX11_where : zM := (cX11_where, 11, 1, (some .int), yX11_where, false)
abbrev mX11_whale : zM := (cX11_whale, 11, 3, (some .int), yX11_whale, false)
abbrev mX11_box : zM := (cX11_box, 11, 3, (some .int), yX11_box, false)
abbrev mX11_length : zM := (cX11_length, 11, 2, (some .int), yX11_length, false)
abbrev mX11_note : zM := (cX11_note, 11, 3, (some .int), yX11_note, false)
abbrev mX11_sung : zM := (cX11_sung, 11, 3, (some .int), yX11_sung, false)
abbrev mX11_heard : zM := (cX11_heard, 11, 2, (some .int), yX11_heard, false)
abbrev mX11_way : zM := (cX11_way, 11, 4, (some .int), yX11_way, false)
abbrev mX11_season : zM := (cX11_season, 11, 2, (some .int), yX11_season, false)
abbrev mX11_sets : zM := (cX11_sets, 11, 4, (some .int), yX11_sets, false)
abbrev mX11_sent : zM := (cX11_sent, 11, 4, (some .int), yX11_sent, false)
abbrev mX11_apart : zM := (cX11_apart, 11, 3, (some .int), yX11_apart, false)
abbrev mX11_bear : zM := (cX11_bear, 11, 1, (some .int), yX11_bear, false)
abbrev mX11_mixed : zM := (cX11_mixed, 11, 1, (some .int), yX11_mixed, false)
abbrev mX11_fresh : zM := (cX11_fresh, 11, 4, (some .int), yX11_fresh, false)
abbrev mX11_byTurns : zM := (cX11_byTurns, 11, 4, (some .int), yX11_byTurns, false)
abbrev mX11_near : zM := (cX11_near, 11, 2, (some .int), yX11_near, false)
abbrev mX11_asNear : zM := (cX11_asNear, 11, 2, (some .int), yX11_asNear, false)
abbrev mX11_heardIn : zM := (cX11_heardIn, 11, 3, (some .int), yX11_heardIn, false)
abbrev mX11_strange : zM := (cX11_strange, 11, 3, (some .int), yX11_strange, false)
abbrev mX11_arrival : zM := (cX11_arrival, 11, 5, (some .int), yX11_arrival, false)
abbrev mX11_brings : zM := (cX11_brings, 11, 3, (some .int), yX11_brings, false)
abbrev mX11_soonest : zM := (cX11_soonest, 11, 2, (some .int), yX11_soonest, false)
abbrev mX11_surest : zM := (cX11_surest, 11, 2, (some .int), yX11_surest, false)
abbrev mX11_by : zM := (cX11_by, 11, 3, (some .int), yX11_by, false)
abbrev mX11_registered : zM := (cX11_registered, 11, 8, (some .long), yX11_registered, false)
abbrev mX11_match : zM := (cX11_match, 11, 1, (some .int), yX11_match, false)
abbrev mX11_matchDays : zM := (cX11_matchDays, 11, 1, (some .int), yX11_matchDays, false)
abbrev mX11_matchOf : zM := (cX11_matchOf, 11, 2, (some .int), yX11_matchOf, false)
abbrev mX11_meet : zM := (cX11_meet, 11, 5, (some .int), yX11_meet, false)
abbrev mX11_fits : zM := (cX11_fits, 11, 1, (some .int), yX11_fits, false)
abbrev mX11_reach : zM := (cX11_reach, 11, 3, (some .int), yX11_reach, false)
abbrev mX11_pier : zM := (cX11_pier, 11, 2, (some .int), yX11_pier, false)
abbrev mX11_watch : zM := (cX11_watch, 11, 3, (some .int), yX11_watch, false)
abbrev mX11_round : zM := (cX11_round, 11, 2, (some .int), yX11_round, false)
abbrev mX11_roundAt : zM := (cX11_roundAt, 11, 3, (some .int), yX11_roundAt, false)
abbrev mX11_decade : zM := (cX11_decade, 11, 5, (some .int), yX11_decade, false)
abbrev mX11_send : zM := (cX11_send, 11, 4, (some .int), yX11_send, false)
abbrev mX11_tune : zM := (cX11_tune, 11, 5, (some .boolean), yX11_tune, false)
abbrev mX11_years : zM := (cX11_years, 11, 2, (some .int), yX11_years, false)
abbrev mX11_close : zM := (cX11_close, 11, 3, (some .boolean), yX11_close, false)
abbrev mX11_undo : zM := (cX11_undo, 11, 1, (some .boolean), yX11_undo, false)
abbrev mX11_image : zM := (cX11_image, 11, 1, (some .int), yX11_image, false)
abbrev mX11_back : zM := (cX11_back, 11, 2, (some .boolean), yX11_back, false)
abbrev mX11_led : zM := (cX11_led, 11, 4, (some .int), yX11_led, false)
abbrev mX11_size : zM := (cX11_size, 11, 2, (some .int), yX11_size, false)
abbrev mX11_trouble : zM := (cX11_trouble, 11, 1, (some .int), yX11_trouble, false)
abbrev mX11_granted : zM := (cX11_granted, 11, 2, (some .int), yX11_granted, false)
abbrev mX11_refused : zM := (cX11_refused, 11, 2, (some .int), yX11_refused, false)
abbrev mX11_hasGranted : zM := (cX11_hasGranted, 11, 1, (some .boolean), yX11_hasGranted, false)
abbrev mX11_hasRefused : zM := (cX11_hasRefused, 11, 2, (some .boolean), yX11_hasRefused, false)
abbrev mX11_hasPost : zM := (cX11_hasPost, 11, 1, (some .boolean), yX11_hasPost, false)
abbrev mX11_isIsland : zM := (cX11_isIsland, 11, 2, (some .boolean), yX11_isIsland, false)
abbrev mX11_areTwoIslands : zM := (cX11_areTwoIslands, 11, 3, (some .boolean), yX11_areTwoIslands, false)
abbrev mX11_isWay : zM := (cX11_isWay, 11, 2, (some .boolean), yX11_isWay, false)
abbrev mX11_isWhale : zM := (cX11_isWhale, 11, 2, (some .boolean), yX11_isWhale, false)
abbrev mX11_isBox : zM := (cX11_isBox, 11, 2, (some .boolean), yX11_isBox, false)
abbrev mX11_isNoteOfBox : zM := (cX11_isNoteOfBox, 11, 3, (some .boolean), yX11_isNoteOfBox, false)
abbrev mX11_isWithin : zM := (cX11_isWithin, 11, 2, (some .boolean), yX11_isWithin, false)
abbrev mX11_refusalOfNewSong : zM := (cX11_refusalOfNewSong, 11, 4, (some .int), yX11_refusalOfNewSong, false)
abbrev mX11_appendBytes : zM := (cX11_appendBytes, 11, 3, none, yX11_appendBytes, false)
abbrev mX11_takeDraft : zM := (cX11_takeDraft, 11, 2, none, yX11_takeDraft, false)
abbrev mX11_keepForUndo : zM := (cX11_keepForUndo, 11, 1, none, yX11_keepForUndo, false)
abbrev mX11_hearerIn : zM := (cX11_hearerIn, 11, 3, (some .int), yX11_hearerIn, false)
abbrev mX11_sentPart : zM := (cX11_sentPart, 11, 3, (some .int), yX11_sentPart, false)
abbrev mX11_heardWithSlips : zM := (cX11_heardWithSlips, 11, 6, (some .int), yX11_heardWithSlips, false)
abbrev mX11_solveMatch : zM := (cX11_solveMatch, 11, 3, none, yX11_solveMatch, false)
abbrev mX11_commonDivisor : zM := (cX11_commonDivisor, 11, 6, (some .int), yX11_commonDivisor, false)
abbrev mX11_noteAt : zM := (cX11_noteAt, 11, 3, (some .int), yX11_noteAt, false)
abbrev mX11_withNote : zM := (cX11_withNote, 11, 5, (some .int), yX11_withNote, false)
abbrev mX11_unlikeNotes : zM := (cX11_unlikeNotes, 11, 3, (some .int), yX11_unlikeNotes, false)
abbrev mX12_init : zM := (cX12_init, 12, 1, none, yX12_init, true)
abbrev mX12_thrown : zM := (cX12_thrown, 12, 1, (some .int), yX12_thrown, false)
abbrev mX12_good : zM := (cX12_good, 12, 1, none, yX12_good, false)
abbrev mX12_no : zM := (cX12_no, 12, 2, (some .int), yX12_no, false)
abbrev mX12_isNot : zM := (cX12_isNot, 12, 2, (some .boolean), yX12_isNot, false)
abbrev mX12_in : zM := (cX12_in, 12, 3, (some .boolean), yX12_in, false)
abbrev mX12_hasBit : zM := (cX12_hasBit, 12, 2, (some .boolean), yX12_hasBit, false)
abbrev mX12_ones : zM := (cX12_ones, 12, 3, (some .int), yX12_ones, false)
abbrev mX12_copy : zM := (cX12_copy, 12, 6, none, yX12_copy, false)
abbrev mX12_later : zM := (cX12_later, 12, 2, (some .int), yX12_later, false)
abbrev mX12_feed : zM := (cX12_feed, 12, 8, (some .int), yX12_feed, false)
abbrev mX12_look : zM := (cX12_look, 12, 2, (some .int), yX12_look, false)
abbrev mX12_isSmall : zM := (cX12_isSmall, 12, 1, (some .boolean), yX12_isSmall, false)
abbrev mX12_isDigit : zM := (cX12_isDigit, 12, 1, (some .boolean), yX12_isDigit, false)
abbrev mX12_next : zM := (cX12_next, 12, 4, none, yX12_next, false)
abbrev mX12_wrong : zM := (cX12_wrong, 12, 3, none, yX12_wrong, false)
abbrev mX12_isWord : zM := (cX12_isWord, 12, 4, (some .boolean), yX12_isWord, false)
abbrev mX12_takesWord : zM := (cX12_takesWord, 12, 2, (some .boolean), yX12_takesWord, false)
abbrev mX12_must : zM := (cX12_must, 12, 2, none, yX12_must, false)
abbrev mX12_mustName : zM := (cX12_mustName, 12, 1, none, yX12_mustName, false)
abbrev mX12_find : zM := (cX12_find, 12, 4, (some .int), yX12_find, false)
abbrev mX12_newName : zM := (cX12_newName, 12, 3, none, yX12_newName, false)
abbrev mX12_named : zM := (cX12_named, 12, 4, (some .int), yX12_named, false)
abbrev mX12_islandPassed : zM := (cX12_islandPassed, 12, 2, (some .int), yX12_islandPassed, false)
abbrev mX12_islandBehind : zM := (cX12_islandBehind, 12, 2, (some .int), yX12_islandBehind, false)
abbrev mX12_number : zM := (cX12_number, 12, 4, (some .int), yX12_number, false)
abbrev mX12_after : zM := (cX12_after, 12, 4, (some .int), yX12_after, false)
abbrev mX12_post : zM := (cX12_post, 12, 3, (some .int), yX12_post, false)
abbrev mX12_begins : zM := (cX12_begins, 12, 3, (some .boolean), yX12_begins, false)
abbrev mX12_readLine : zM := (cX12_readLine, 12, 1, none, yX12_readLine, false)
abbrev mX12_postLine : zM := (cX12_postLine, 12, 1, none, yX12_postLine, false)
abbrev mX12_islandLine : zM := (cX12_islandLine, 12, 6, none, yX12_islandLine, false)
abbrev mX12_isSong : zM := (cX12_isSong, 12, 5, (some .boolean), yX12_isSong, false)
abbrev mX12_wayLine : zM := (cX12_wayLine, 12, 6, none, yX12_wayLine, false)
abbrev mX12_joins : zM := (cX12_joins, 12, 6, (some .boolean), yX12_joins, false)
abbrev mX12_whaleLine : zM := (cX12_whaleLine, 12, 3, none, yX12_whaleLine, false)
abbrev mX12_boxLine : zM := (cX12_boxLine, 12, 2, none, yX12_boxLine, false)
abbrev mX12_spoutLine : zM := (cX12_spoutLine, 12, 6, none, yX12_spoutLine, false)
abbrev mX12_fault : zM := (cX12_fault, 12, 1, (some .int), yX12_fault, false)
abbrev mX12_where : zM := (cX12_where, 12, 1, (some .int), yX12_where, false)
abbrev mX12_isIsland : zM := (cX12_isIsland, 12, 2, (some .boolean), yX12_isIsland, false)
abbrev mX12_isWhale : zM := (cX12_isWhale, 12, 2, (some .boolean), yX12_isWhale, false)
abbrev mX12_isBox : zM := (cX12_isBox, 12, 2, (some .boolean), yX12_isBox, false)
abbrev mX12_ofWhale : zM := (cX12_ofWhale, 12, 3, (some .int), yX12_ofWhale, false)
abbrev mX12_ofBox : zM := (cX12_ofBox, 12, 3, (some .int), yX12_ofBox, false)
abbrev mX12_songLong : zM := (cX12_songLong, 12, 2, (some .int), yX12_songLong, false)
abbrev mX12_boxLong : zM := (cX12_boxLong, 12, 2, (some .int), yX12_boxLong, false)
abbrev mX12_noteIn : zM := (cX12_noteIn, 12, 5, (some .int), yX12_noteIn, false)
abbrev mX12_whale : zM := (cX12_whale, 12, 3, (some .int), yX12_whale, false)
abbrev mX12_box : zM := (cX12_box, 12, 4, (some .int), yX12_box, false)
abbrev mX12_length : zM := (cX12_length, 12, 2, (some .int), yX12_length, false)
abbrev mX12_note : zM := (cX12_note, 12, 3, (some .int), yX12_note, false)
abbrev mX12_sung : zM := (cX12_sung, 12, 3, (some .int), yX12_sung, false)
abbrev mX12_unlike : zM := (cX12_unlike, 12, 8, (some .int), yX12_unlike, false)
abbrev mX12_hearsIn : zM := (cX12_hearsIn, 12, 9, (some .int), yX12_hearsIn, false)
abbrev mX12_heardNow : zM := (cX12_heardNow, 12, 2, (some .int), yX12_heardNow, false)
abbrev mX12_heard : zM := (cX12_heard, 12, 2, (some .int), yX12_heard, false)
abbrev mX12_isClosed : zM := (cX12_isClosed, 12, 2, (some .boolean), yX12_isClosed, false)
abbrev mX12_wayOf : zM := (cX12_wayOf, 12, 4, (some .int), yX12_wayOf, false)
abbrev mX12_way : zM := (cX12_way, 12, 4, (some .int), yX12_way, false)
abbrev mX12_nearOf : zM := (cX12_nearOf, 12, 7, (some .int), yX12_nearOf, false)
abbrev mX12_near : zM := (cX12_near, 12, 2, (some .int), yX12_near, false)
abbrev mX12_asNear : zM := (cX12_asNear, 12, 2, (some .int), yX12_asNear, false)
abbrev mX12_sent : zM := (cX12_sent, 12, 4, (some .int), yX12_sent, false)
abbrev mX12_apartOf : zM := (cX12_apartOf, 12, 5, (some .int), yX12_apartOf, false)
abbrev mX12_apart : zM := (cX12_apart, 12, 3, (some .int), yX12_apart, false)
abbrev mX12_bear : zM := (cX12_bear, 12, 4, (some .int), yX12_bear, false)
abbrev mX12_mixed : zM := (cX12_mixed, 12, 4, (some .int), yX12_mixed, false)
abbrev mX12_power : zM := (cX12_power, 12, 4, (some .int), yX12_power, false)
abbrev mX12_digitsApart : zM := (cX12_digitsApart, 12, 8, (some .int), yX12_digitsApart, false)
abbrev mX12_newSongs : zM := (cX12_newSongs, 12, 8, (some .int), yX12_newSongs, false)
abbrev mX12_songWhy : zM := (cX12_songWhy, 12, 3, (some .int), yX12_songWhy, false)
abbrev mX12_fresh : zM := (cX12_fresh, 12, 4, (some .int), yX12_fresh, false)
abbrev mX12_byTurns : zM := (cX12_byTurns, 12, 4, (some .int), yX12_byTurns, false)
abbrev mX12_heardIn : zM := (cX12_heardIn, 12, 3, (some .int), yX12_heardIn, false)
abbrev mX12_hearsItself : zM := (cX12_hearsItself, 12, 8, (some .boolean), yX12_hearsItself, false)
abbrev mX12_strange : zM := (cX12_strange, 12, 3, (some .int), yX12_strange, false)
abbrev mX12_dayBy : zM := (cX12_dayBy, 12, 4, (some .int), yX12_dayBy, false)
abbrev mX12_setsOut : zM := (cX12_setsOut, 12, 5, (some .int), yX12_setsOut, false)
abbrev mX12_seasonOf : zM := (cX12_seasonOf, 12, 1, (some .int), yX12_seasonOf, false)
abbrev mX12_season : zM := (cX12_season, 12, 2, (some .int), yX12_season, false)
abbrev mX12_sets : zM := (cX12_sets, 12, 4, (some .int), yX12_sets, false)
abbrev mX12_layDays : zM := (cX12_layDays, 12, 7, none, yX12_layDays, false)
abbrev mX12_goesBy : zM := (cX12_goesBy, 12, 8, none, yX12_goesBy, false)
abbrev mX12_arrivalOf : zM := (cX12_arrivalOf, 12, 5, (some .int), yX12_arrivalOf, false)
abbrev mX12_arrival : zM := (cX12_arrival, 12, 5, (some .int), yX12_arrival, false)
abbrev mX12_lays : zM := (cX12_lays, 12, 7, (some .boolean), yX12_lays, false)
abbrev mX12_bringsOf : zM := (cX12_bringsOf, 12, 3, (some .int), yX12_bringsOf, false)
abbrev mX12_brings : zM := (cX12_brings, 12, 3, (some .int), yX12_brings, false)
abbrev mX12_soonest : zM := (cX12_soonest, 12, 4, (some .int), yX12_soonest, false)
abbrev mX12_surestBut : zM := (cX12_surestBut, 12, 5, (some .int), yX12_surestBut, false)
abbrev mX12_surest : zM := (cX12_surest, 12, 2, (some .int), yX12_surest, false)
abbrev mX12_by : zM := (cX12_by, 12, 5, (some .int), yX12_by, false)
abbrev mX12_lowest : zM := (cX12_lowest, 12, 11, (some .long), yX12_lowest, false)
abbrev mX12_registered : zM := (cX12_registered, 12, 6, (some .long), yX12_registered, false)
abbrev mX12_tryMatch : zM := (cX12_tryMatch, 12, 6, none, yX12_tryMatch, false)
abbrev mX12_seekMatch : zM := (cX12_seekMatch, 12, 3, none, yX12_seekMatch, false)
abbrev mX12_match : zM := (cX12_match, 12, 1, (some .int), yX12_match, false)
abbrev mX12_matchDays : zM := (cX12_matchDays, 12, 1, (some .int), yX12_matchDays, false)
abbrev mX12_matchOf : zM := (cX12_matchOf, 12, 2, (some .int), yX12_matchOf, false)
abbrev mX12_meet : zM := (cX12_meet, 12, 8, (some .int), yX12_meet, false)
abbrev mX12_fitsAll : zM := (cX12_fitsAll, 12, 6, (some .boolean), yX12_fitsAll, false)
abbrev mX12_fits : zM := (cX12_fits, 12, 3, (some .int), yX12_fits, false)
abbrev mX12_reachOf : zM := (cX12_reachOf, 12, 5, (some .int), yX12_reachOf, false)
abbrev mX12_reach : zM := (cX12_reach, 12, 3, (some .int), yX12_reach, false)
abbrev mX12_pier : zM := (cX12_pier, 12, 8, (some .int), yX12_pier, false)
abbrev mX12_doLead : zM := (cX12_doLead, 12, 8, (some .boolean), yX12_doLead, false)
abbrev mX12_watch : zM := (cX12_watch, 12, 5, (some .int), yX12_watch, false)
abbrev mX12_layFar : zM := (cX12_layFar, 12, 4, none, yX12_layFar, false)
abbrev mX12_tryRound : zM := (cX12_tryRound, 12, 5, none, yX12_tryRound, false)
abbrev mX12_seekRound : zM := (cX12_seekRound, 12, 2, (some .int), yX12_seekRound, false)
abbrev mX12_round : zM := (cX12_round, 12, 2, (some .int), yX12_round, false)
abbrev mX12_roundAt : zM := (cX12_roundAt, 12, 3, (some .int), yX12_roundAt, false)
abbrev mX12_decade : zM := (cX12_decade, 12, 9, (some .int), yX12_decade, false)
abbrev mX12_note1 : zM := (cX12_note1, 12, 2, none, yX12_note1, false)
abbrev mX12_send : zM := (cX12_send, 12, 5, (some .int), yX12_send, false)
abbrev mX12_tune : zM := (cX12_tune, 12, 4, (some .boolean), yX12_tune, false)
abbrev mX12_years : zM := (cX12_years, 12, 2, (some .int), yX12_years, false)
abbrev mX12_close : zM := (cX12_close, 12, 3, (some .boolean), yX12_close, false)
abbrev mX12_undo : zM := (cX12_undo, 12, 1, (some .boolean), yX12_undo, false)
abbrev mX12_image : zM := (cX12_image, 12, 1, (some .int), yX12_image, false)
abbrev mX12_back : zM := (cX12_back, 12, 2, (some .boolean), yX12_back, false)
abbrev mX12_led : zM := (cX12_led, 12, 4, (some .int), yX12_led, false)
abbrev mX12_size : zM := (cX12_size, 12, 2, (some .int), yX12_size, false)
abbrev mX12_trouble : zM := (cX12_trouble, 12, 1, (some .int), yX12_trouble, false)
abbrev mJ0_length_8abf5 : zM := (cJ0_length_8abf5, 14, 1, (some .int), yJ0_length_8abf5, false)
abbrev mJ0_charAt_5068e : zM := (cJ0_charAt_5068e, 14, 2, (some .char), yJ0_charAt_5068e, false)
abbrev mJ0_coder_7d493 : zM := (cJ0_coder_7d493, 14, 1, (some .byte), yJ0_coder_7d493, false)
abbrev mJ0_isLatin1_aae02 : zM := (cJ0_isLatin1_aae02, 14, 1, (some .boolean), yJ0_isLatin1_aae02, false)
abbrev mJ0_checkIndex_df160 : zM := (cJ0_checkIndex_df160, 14, 2, none, yJ0_checkIndex_df160, false)
abbrev mJ1_charAt_3b067 : zM := (cJ1_charAt_3b067, 15, 2, (some .char), yJ1_charAt_3b067, false)
abbrev mJ3_checkIndex_8e157 : zM := (cJ3_checkIndex_8e157, 18, 3, (some .int), yJ3_checkIndex_8e157, false)
abbrev mJ7_fill_53178 : zM := (cJ7_fill_53178, 17, 4, none, yJ7_fill_53178, false)
abbrev mJ6_bitCount_0f7a4 : zM := (cJ6_bitCount_0f7a4, 16, 1, (some .int), yJ6_bitCount_0f7a4, false)
abbrev mL_law : zM := (cL_law, 13, 7, some .boolean, yL_law, false)
abbrev zledM : zM := mX11_led
def zlook {α : Type} (l : List (Nat × α)) (i : Nat) : Option α := match l with
  | [] => none
  | q :: t => if q.1 = i then some q.2 else zlook t i
/-- fields by (class, pool number): class, place, place of the word -/
def zfldT0 : List (Nat × Nat × Nat × Nat) := []
def zfldT1 : List (Nat × Nat × Nat × Nat) := [(9, 1, 0, 2184), (15, 1, 1, 2186), (18, 1, 2, 2188), (22, 1, 3, 2190), (25, 1, 4, 2192)]
def zfldT2 : List (Nat × Nat × Nat × Nat) := [(9, 2, 0, 2064), (15, 2, 1, 2067), (18, 2, 2, 2069), (22, 2, 3, 2072), (25, 2, 4, 2075), (28, 2, 5, 2077), (31, 2, 6, 2079), (34, 4, 6, 1178), (39, 4, 12, 1206), (43, 10, 1, 1087), (48, 4, 7, 1184), (51, 4, 9, 1192), (54, 4, 13, 1211), (58, 0, 1, 1113)]
def zfldT3 : List (Nat × Nat × Nat × Nat) := [(9, 3, 1, 2165), (15, 3, 2, 2167), (18, 3, 3, 2168), (21, 3, 0, 2163), (25, 4, 4, 1167), (40, 4, 5, 1174), (43, 4, 11, 1201), (47, 9, 0, 1053), (52, 9, 1, 1057), (73, 9, 2, 1062)]
def zfldT4 : List (Nat × Nat × Nat × Nat) := [(9, 4, 9, 1191), (15, 4, 10, 1196), (20, 4, 11, 1200), (26, 4, 12, 1205), (32, 4, 13, 1210), (38, 4, 14, 1215), (46, 4, 0, 1151), (50, 4, 1, 1155), (53, 4, 2, 1160), (56, 4, 3, 1163), (59, 4, 4, 1168), (62, 4, 5, 1173), (65, 4, 6, 1179), (68, 4, 7, 1183), (71, 4, 8, 1187), (74, 0, 1, 1114), (77, 9, 0, 1055), (80, 9, 1, 1059), (83, 8, 0, 1137)]
def zfldT5 : List (Nat × Nat × Nat × Nat) := [(9, 5, 1, 2016), (15, 5, 2, 2017), (18, 5, 3, 2018), (21, 5, 4, 2019), (24, 5, 5, 2020), (27, 5, 7, 2022), (31, 5, 8, 2023), (35, 5, 9, 2024), (38, 5, 10, 2025), (41, 5, 11, 2026), (44, 5, 12, 2028), (47, 5, 0, 2015), (51, 5, 6, 2021), (73, 4, 4, 1169), (84, 4, 0, 1153), (93, 4, 5, 1176), (96, 4, 11, 1203), (104, 4, 6, 1180), (107, 4, 12, 1207), (115, 4, 7, 1185), (118, 4, 13, 1212), (126, 4, 8, 1188), (129, 4, 14, 1216), (148, 4, 1, 1156), (152, 4, 2, 1161), (156, 4, 3, 1164), (167, 4, 9, 1194), (170, 4, 10, 1198), (176, 9, 0, 1056), (181, 9, 1, 1060), (189, 9, 2, 1063), (193, 9, 3, 1066), (198, 10, 0, 1086), (204, 10, 1, 1088), (209, 10, 2, 1092), (213, 10, 3, 1095), (217, 0, 0, 1112), (223, 0, 1, 1116), (227, 0, 2, 1119), (231, 0, 3, 1122), (233, 8, 0, 1138), (237, 8, 1, 1140), (244, 8, 2, 1142)]
def zfldT6 : List (Nat × Nat × Nat × Nat) := [(9, 6, 3, 2137), (15, 6, 4, 2138), (19, 6, 5, 2140), (22, 6, 6, 2141), (25, 6, 0, 2133), (29, 6, 1, 2135), (33, 6, 2, 2136), (44, 4, 4, 1170), (49, 4, 5, 1175), (52, 4, 11, 1202), (56, 9, 0, 1054), (61, 9, 1, 1058), (74, 9, 2, 1061), (77, 9, 3, 1065), (88, 4, 12, 1208), (92, 4, 13, 1213), (99, 0, 2, 1117), (107, 10, 0, 1084), (112, 2, 6, 2080), (119, 2, 0, 2065), (127, 2, 2, 2071), (130, 0, 0, 1110), (133, 2, 3, 2074), (140, 0, 3, 1120), (149, 10, 2, 1091), (152, 4, 6, 1181), (158, 10, 3, 1094), (167, 10, 1, 1089), (170, 4, 8, 1189), (173, 4, 14, 1217), (177, 8, 0, 1139), (181, 8, 1, 1141), (184, 8, 2, 1143)]
def zfldT7 : List (Nat × Nat × Nat × Nat) := [(9, 7, 1, 2105), (15, 7, 2, 2107), (18, 7, 3, 2109), (21, 7, 4, 2111), (24, 7, 5, 2113), (28, 7, 0, 2103), (32, 4, 2, 1159), (37, 4, 0, 1152), (44, 4, 9, 1193), (47, 4, 10, 1197), (57, 4, 4, 1172), (64, 4, 1, 1157), (89, 4, 3, 1165)]
def zfldT8 : List (Nat × Nat × Nat × Nat) := []
def zfldT9 : List (Nat × Nat × Nat × Nat) := []
def zfldT10 : List (Nat × Nat × Nat × Nat) := []
def zfldT11 : List (Nat × Nat × Nat × Nat) := [(9, 11, 0, 2205), (13, 11, 1, 2206), (17, 11, 2, 2207), (23, 11, 3, 2208), (27, 11, 4, 2209), (35, 11, 5, 2210), (42, 11, 6, 2211), (51, 11, 7, 2212), (60, 11, 8, 2213), (67, 11, 9, 2214), (74, 11, 10, 2215), (78, 11, 11, 2216), (82, 11, 12, 2217), (85, 11, 13, 2218), (88, 11, 14, 2219), (91, 11, 15, 2220), (109, 4, 4, 1171), (115, 5, 11, 2027), (118, 5, 12, 2029), (125, 4, 12, 1209), (129, 10, 0, 1085), (134, 2, 2, 2070), (138, 2, 3, 2073), (141, 10, 2, 1090), (144, 10, 3, 1093), (150, 4, 13, 1214), (154, 0, 0, 1111), (159, 0, 1, 1115), (162, 0, 2, 1118), (165, 0, 3, 1121), (168, 2, 4, 2076), (171, 2, 5, 2078), (177, 4, 10, 1199), (180, 2, 0, 2066), (195, 2, 6, 2081), (213, 4, 11, 1204), (217, 9, 2, 1064), (233, 9, 3, 1067), (239, 4, 7, 1186), (265, 7, 4, 2112), (268, 7, 2, 2108), (271, 7, 3, 2110), (274, 4, 9, 1195), (301, 1, 2, 2189), (304, 1, 3, 2191), (307, 1, 1, 2187), (322, 2, 1, 2068), (331, 3, 1, 2166), (335, 7, 1, 2106), (344, 6, 4, 2139), (350, 4, 0, 1154), (370, 4, 1, 1158), (373, 4, 2, 1162), (376, 4, 3, 1166), (379, 4, 5, 1177), (382, 4, 6, 1182), (385, 4, 8, 1190), (388, 7, 0, 2104), (389, 6, 0, 2134), (390, 3, 0, 2164), (402, 1, 0, 2185)]
def zfldT12 : List (Nat × Nat × Nat × Nat) := [(7, 12, 1, 6057), (13, 12, 10, 6066), (17, 12, 12, 6068), (20, 12, 15, 6071), (23, 12, 16, 6072), (26, 12, 17, 6073), (29, 12, 18, 6074), (32, 12, 19, 6075), (35, 12, 22, 6078), (38, 12, 24, 6080), (41, 12, 25, 6081), (44, 12, 28, 6084), (47, 12, 29, 6085), (50, 12, 30, 6086), (53, 12, 35, 6091), (56, 12, 36, 6092), (59, 12, 37, 6093), (62, 12, 0, 6056), (65, 12, 11, 6067), (68, 12, 2, 6058), (71, 12, 3, 6059), (74, 12, 5, 6061), (81, 12, 4, 6060), (84, 12, 8, 6064), (87, 12, 7, 6063), (90, 12, 6, 6062), (100, 12, 13, 6069), (104, 12, 9, 6065), (180, 12, 14, 6070), (183, 12, 20, 6076), (186, 12, 21, 6077), (315, 12, 23, 6079), (358, 12, 26, 6082), (361, 12, 27, 6083), (379, 12, 31, 6087), (382, 12, 32, 6088), (392, 12, 33, 6089), (395, 12, 34, 6090), (410, 12, 38, 6094)]
def zfldT13 : List (Nat × Nat × Nat × Nat) := []
def zfldT14 : List (Nat × Nat × Nat × Nat) := []
def zfldT15 : List (Nat × Nat × Nat × Nat) := []
def zfldT16 : List (Nat × Nat × Nat × Nat) := []
def zfldT17 : List (Nat × Nat × Nat × Nat) := []
def zfldT18 : List (Nat × Nat × Nat × Nat) := []
def zfldTT : List (List (Nat × Nat × Nat × Nat)) := [zfldT0, zfldT1, zfldT2, zfldT3, zfldT4, zfldT5, zfldT6, zfldT7, zfldT8, zfldT9, zfldT10, zfldT11, zfldT12, zfldT13, zfldT14, zfldT15, zfldT16, zfldT17, zfldT18]
def zfld (o k : Nat) : Option (Nat × Nat) := (zlook (zfldTT.getD o []) k).map (fun q => (q.1, q.2.1))
def zcstT0 : List (Nat × zV × Nat) := []
def zclsT0 : List (Nat × Nat × Nat) := []
def zcstT1 : List (Nat × zV × Nat) := [(48, .inl (10000000), 5029)]
def zclsT1 : List (Nat × Nat × Nat) := []
def zcstT2 : List (Nat × zV × Nat) := []
def zclsT2 : List (Nat × Nat × Nat) := []
def zcstT3 : List (Nat × zV × Nat) := [(62, .inl (1000000), 5120)]
def zclsT3 : List (Nat × Nat × Nat) := []
def zcstT4 : List (Nat × zV × Nat) := []
def zclsT4 : List (Nat × Nat × Nat) := [(18, 9, 1040), (24, 10, 1042), (30, 0, 1044), (36, 8, 1046)]
def zcstT5 : List (Nat × zV × Nat) := [(137, .inr (.inr (some 1000016)), 3123), (146, .inr (.inr (some 1000017)), 3132), (150, .inr (.inr (some 1000018)), 3133), (154, .inr (.inr (some 1000019)), 3134), (187, .inr (.inr (some 1000020)), 3171), (191, .inr (.inr (some 1000021)), 3172), (203, .inr (.inr (some 1000026)), 3185), (207, .inr (.inr (some 1000027)), 3186), (211, .inr (.inr (some 1000028)), 3187), (215, .inr (.inr (some 1000029)), 3192), (221, .inr (.inr (some 1000030)), 3193), (225, .inr (.inr (some 1000031)), 3194), (229, .inr (.inr (some 1000032)), 3195), (255, .inr (.inr (some 1000022)), 3181), (257, .inr (.inr (some 1000023)), 3182), (259, .inr (.inr (some 1000024)), 3183), (261, .inr (.inr (some 1000025)), 3184), (263, .inr (.inr (some 1000010)), 3057), (264, .inr (.inr (some 1000011)), 3110), (265, .inr (.inr (some 1000012)), 3111), (266, .inr (.inr (some 1000013)), 3112), (267, .inr (.inr (some 1000014)), 3113), (268, .inr (.inr (some 1000015)), 3114)]
def zclsT5 : List (Nat × Nat × Nat) := []
def zcstT6 : List (Nat × zV × Nat) := [(37, .inl (1000000000), 4192)]
def zclsT6 : List (Nat × Nat × Nat) := []
def zcstT7 : List (Nat × zV × Nat) := [(84, .inl (65537), 5156)]
def zclsT7 : List (Nat × Nat × Nat) := []
def zcstT8 : List (Nat × zV × Nat) := []
def zclsT8 : List (Nat × Nat × Nat) := []
def zcstT9 : List (Nat × zV × Nat) := []
def zclsT9 : List (Nat × Nat × Nat) := []
def zcstT10 : List (Nat × zV × Nat) := []
def zclsT10 : List (Nat × Nat × Nat) := []
def zcstT11 : List (Nat × zV × Nat) := [(226, .inl (99999), 4082), (334, .inl (65536), 5143), (365, .inr (.inr (some 1000033)), 6024)]
def zclsT11 : List (Nat × Nat × Nat) := [(20, 4, 1034), (30, 5, 2009), (39, 2, 2058), (46, 7, 2097), (55, 6, 2127), (64, 3, 2157), (71, 1, 2178), (363, 99, 5225)]
def zcstT12 : List (Nat × zV × Nat) := [(131, .inr (.inr (some 1000010)), 6215), (133, .inr (.inr (some 1000011)), 7010), (135, .inr (.inr (some 1000012)), 7027), (137, .inr (.inr (some 1000013)), 7028), (139, .inr (.inr (some 1000014)), 7029), (141, .inr (.inr (some 1000015)), 7030), (211, .inr (.inr (some 1000016)), 6230), (217, .inr (.inr (some 1000017)), 7007), (219, .inr (.inr (some 1000018)), 7008), (221, .inr (.inr (some 1000019)), 7009), (234, .inr (.inr (some 1000020)), 7054), (235, .inr (.inr (some 1000021)), 7055), (237, .inr (.inr (some 1000022)), 7060), (239, .inr (.inr (some 1000023)), 7061), (241, .inr (.inr (some 1000024)), 7062), (243, .inr (.inr (some 1000025)), 7063), (245, .inr (.inr (some 1000026)), 7064), (250, .inr (.inr (some 1000027)), 7069), (252, .inr (.inr (some 1000028)), 7070), (254, .inr (.inr (some 1000029)), 7075), (256, .inr (.inr (some 1000030)), 7076), (258, .inr (.inr (some 1000031)), 7077), (260, .inr (.inr (some 1000032)), 7078), (340, .inl (99999), 8009), (341, .inl (1000000), 8033), (373, .inr (.inl (10000)), 8077), (422, .inl (65536), 8160), (423, .inl (65537), 8161)]
def zclsT12 : List (Nat × Nat × Nat) := []
def zcstT13 : List (Nat × zV × Nat) := []
def zclsT13 : List (Nat × Nat × Nat) := [(8, 11, 1026), (13, 99, 5220), (16, 12, 6050)]
def zcstT14 : List (Nat × zV × Nat) := []
def zclsT14 : List (Nat × Nat × Nat) := []
def zcstT15 : List (Nat × zV × Nat) := []
def zclsT15 : List (Nat × Nat × Nat) := []
def zcstT16 : List (Nat × zV × Nat) := [(265, .inl (1431655765), 4058), (266, .inl (858993459), 4059), (267, .inl (252645135), 4060)]
def zclsT16 : List (Nat × Nat × Nat) := []
def zcstT17 : List (Nat × zV × Nat) := []
def zclsT17 : List (Nat × Nat × Nat) := []
def zcstT18 : List (Nat × zV × Nat) := []
def zclsT18 : List (Nat × Nat × Nat) := []
def zcstTT : List (List (Nat × zV × Nat)) := [zcstT0, zcstT1, zcstT2, zcstT3, zcstT4, zcstT5, zcstT6, zcstT7, zcstT8, zcstT9, zcstT10, zcstT11, zcstT12, zcstT13, zcstT14, zcstT15, zcstT16, zcstT17, zcstT18]
def zcst (o k : Nat) : Option zV := (zlook (zcstTT.getD o []) k).map (fun q => q.1)
def zclsTT : List (List (Nat × Nat × Nat)) := [zclsT0, zclsT1, zclsT2, zclsT3, zclsT4, zclsT5, zclsT6, zclsT7, zclsT8, zclsT9, zclsT10, zclsT11, zclsT12, zclsT13, zclsT14, zclsT15, zclsT16, zclsT17, zclsT18]
def zcls (o k : Nat) : Option Nat := (zlook (zclsTT.getD o []) k).map (fun q => q.1)
/-- calls by (class, pool number): kind, how many arguments (the receiver too), the method; places of link, instanceMethod or static, selects, initialized -/
def zmthT0 : List (Nat × Nat × Nat × zM × Nat × Nat × Nat × Nat) := [(1, 10, 0, zledM, 1109, 0, 0, 0)]
def zmthT1 : List (Nat × Nat × Nat × zM × Nat × Nat × Nat × Nat) := [(3, 10, 0, zledM, 2183, 0, 0, 0),
  (28, 1, 2, mJ7_fill_53178, 5024, 4194, 0, 1020),
  (34, 0, 4, mX1_worth, 5025, 5027, 42, 1012),
  (38, 11, 0, zledM, 5030, 0, 0, 0),
  (44, 0, 3, mX1_choose, 5031, 5033, 43, 1012),
  (49, 0, 4, mX1_firstBest, 5035, 5037, 44, 1012)]
def zmthT2 : List (Nat × Nat × Nat × zM × Nat × Nat × Nat × Nat) := [(3, 10, 0, zledM, 2063, 0, 0, 0),
  (63, 14, 0, zledM, 5172, 0, 0, 0)]
def zmthT3 : List (Nat × Nat × Nat × zM × Nat × Nat × Nat × Nat) := [(3, 10, 0, zledM, 2162, 0, 0, 0),
  (31, 0, 2, mX3_waysOutOf, 5103, 5105, 47, 1011),
  (35, 1, 1, mJ6_bitCount_0f7a4, 5107, 4056, 0, 1019),
  (55, 0, 2, mX3_findShortest, 5116, 5118, 48, 1011),
  (59, 0, 1, mX3_findRests, 5123, 5125, 49, 1011),
  (63, 0, 3, mX3_nextOf, 5131, 5133, 51, 1011),
  (67, 1, 2, mJ7_fill_53178, 5121, 4194, 0, 1020),
  (76, 12, 0, zledM, 5122, 0, 0, 0),
  (81, 0, 4, mX3_daysOver, 5127, 5129, 50, 1011)]
def zmthT4 : List (Nat × Nat × Nat × zM × Nat × Nat × Nat × Nat) := [(3, 10, 0, zledM, 1039, 0, 0, 0),
  (42, 4, 1, mX9_init, 1049, 1050, 0, 1003),
  (43, 4, 1, mX10_init, 1080, 1081, 0, 1004),
  (44, 4, 1, mX0_init, 1106, 1107, 0, 1005),
  (45, 4, 1, mX8_init, 1133, 1134, 0, 1006)]
def zmthT5 : List (Nat × Nat × Nat × zM × Nat × Nat × Nat × Nat) := [(3, 10, 0, zledM, 2014, 0, 0, 0),
  (55, 0, 1, mX4_clear, 3034, 3035, 3036, 1002),
  (60, 12, 0, zledM, 3038, 0, 0, 0),
  (66, 0, 1, mX5_readLine, 3041, 3043, 2, 1007),
  (70, 0, 1, mX5_nextToken, 3045, 3047, 3, 1007),
  (76, 0, 2, mX5_faulty, 3115, 3117, 7, 1007),
  (80, 0, 1, mX5_sortOfLine, 3053, 3055, 5, 1007),
  (87, 0, 1, mX5_readHead, 3119, 3121, 8, 1007),
  (90, 0, 1, mX5_readIsland, 3135, 3137, 11, 1007),
  (100, 0, 2, mX5_readWay, 3159, 3161, 16, 1007),
  (111, 0, 2, mX5_readWhale, 3173, 3175, 18, 1007),
  (122, 0, 2, mX5_readBox, 3188, 3190, 20, 1007),
  (133, 0, 2, mX5_readSpout, 3196, 3198, 21, 1007),
  (138, 0, 2, mX5_word, 3124, 3126, 9, 1007),
  (142, 0, 3, mX5_whole, 3128, 3130, 10, 1007),
  (158, 0, 3, mX5_newName, 3139, 3141, 12, 1007),
  (161, 0, 1, mX5_songOfToken, 3151, 3153, 15, 1007),
  (164, 0, 3, mX4_hasSong, 3155, 3156, 3157, 1002),
  (173, 0, 2, mX5_toldName, 3163, 3165, 17, 1007),
  (184, 0, 3, mX4_wayBetween, 3167, 3168, 3169, 1002),
  (195, 0, 1, mX5_kindOfToken, 3177, 3179, 19, 1007),
  (240, 0, 2, mX4_lastSpoutOf, 3200, 3201, 3202, 1002),
  (245, 0, 2, mX5_isToken, 3058, 3060, 6, 1007),
  (248, 0, 1, mX5_nameOfToken, 3143, 3145, 13, 1007),
  (251, 0, 1, mX5_letters, 3147, 3149, 14, 1007),
  (269, 0, 1, mJ0_length_8abf5, 3062, 3063, 3064, 1015),
  (274, 0, 2, mJ0_charAt_5068e, 3072, 3073, 3074, 1015),
  (278, 0, 3, mX5_passAll, 3049, 3051, 4, 1007)]
def zmthT6 : List (Nat × Nat × Nat × zM × Nat × Nat × Nat × Nat) := [(3, 10, 0, zledM, 2132, 0, 0, 0),
  (38, 1, 2, mJ7_fill_53178, 4193, 4194, 0, 1020),
  (64, 0, 2, mX2_isClosed, 4196, 4071, 4072, 1008),
  (70, 0, 5, mX6_goes, 4197, 4199, 40, 1010),
  (80, 0, 4, mX6_dayOfLeaving, 4201, 4095, 4096, 1010),
  (84, 0, 4, mX6_findFirstDays, 4188, 4190, 39, 1010),
  (96, 0, 2, mX2_isSent, 4210, 4103, 4104, 1008),
  (115, 0, 2, mX4_boxLength, 4213, 4037, 4038, 1002),
  (122, 0, 4, mX7_hearerOf, 4214, 4049, 4050, 1009),
  (136, 0, 5, mX6_firstDayAt, 4215, 4185, 4186, 1010),
  (143, 11, 0, zledM, 4216, 0, 0, 0),
  (155, 0, 3, mX6_dayOfBringing, 4227, 4207, 4208, 1010),
  (161, 12, 0, zledM, 5055, 0, 0, 0),
  (164, 0, 2, mX6_isFitting, 5064, 5066, 45, 1010),
  (185, 0, 2, mX4_lastSpoutOf, 5076, 3201, 3202, 1002),
  (188, 0, 1, mX6_fittingWhales, 5085, 5061, 5062, 1010),
  (192, 1, 1, mJ6_bitCount_0f7a4, 5086, 4056, 0, 1019),
  (197, 0, 3, mX6_whalesReaching, 5087, 5089, 46, 1010),
  (200, 13, 0, zledM, 5092, 0, 0, 0),
  (203, 0, 3, mX6_islandsReached, 5091, 5073, 5074, 1010)]
def zmthT7 : List (Nat × Nat × Nat × zM × Nat × Nat × Nat × Nat) := [(3, 10, 0, zledM, 2102, 0, 0, 0),
  (40, 3, 3, mX11_noteAt, 4024, 4025, 0, 1001),
  (50, 0, 2, mX7_fallIn, 4016, 4018, 27, 1009),
  (54, 0, 4, mX7_raised, 4020, 4022, 28, 1009),
  (60, 3, 2, mX11_unlikeNotes, 4052, 4053, 0, 1001),
  (67, 0, 3, mX7_apartness, 4126, 4115, 4116, 1009),
  (70, 0, 3, mX7_keepSongsOf, 4147, 4149, 36, 1009),
  (73, 0, 3, mX7_isOfNotes, 4152, 4154, 37, 1009),
  (77, 0, 4, mX7_isFarFromKept, 4156, 4158, 38, 1009),
  (81, 0, 3, mX7_songIn, 4151, 4013, 4014, 1009),
  (85, 0, 1, mX7_draw, 5152, 5154, 53, 1009),
  (92, 3, 4, mX11_withNote, 5157, 5158, 0, 1001)]
def zmthT8 : List (Nat × Nat × Nat × zM × Nat × Nat × Nat × Nat) := [(1, 10, 0, zledM, 1136, 0, 0, 0)]
def zmthT9 : List (Nat × Nat × Nat × zM × Nat × Nat × Nat × Nat) := [(1, 10, 0, zledM, 1052, 0, 0, 0)]
def zmthT10 : List (Nat × Nat × Nat × zM × Nat × Nat × Nat × Nat) := [(1, 10, 0, zledM, 1083, 0, 0, 0)]
def zmthT11 : List (Nat × Nat × Nat × zM × Nat × Nat × Nat × Nat) := [(1, 10, 0, zledM, 1031, 0, 0, 0),
  (22, 2, 1, mX4_init, 1036, 1037, 0, 1002),
  (32, 2, 3, mX5_init, 2011, 2012, 0, 1007),
  (41, 4, 1, mX2_init, 2060, 2061, 0, 1008),
  (48, 2, 2, mX7_init, 2099, 2100, 0, 1009),
  (57, 2, 4, mX6_init, 2129, 2130, 0, 1010),
  (66, 2, 2, mX3_init, 2159, 2160, 0, 1011),
  (73, 4, 1, mX1_init, 2180, 2181, 0, 1012),
  (94, 0, 2, mX11_appendBytes, 3018, 3020, 0, 1001),
  (98, 0, 2, mX11_refused, 3026, 3028, 1, 1001),
  (102, 0, 3, mX5_readPost, 3030, 3031, 3032, 1007),
  (106, 0, 1, mX11_takeDraft, 3204, 3206, 22, 1001),
  (112, 0, 2, mX11_granted, 3212, 3214, 23, 1001),
  (121, 0, 2, mX11_isWhale, 3228, 3230, 24, 1001),
  (147, 0, 2, mX11_isBox, 3236, 3238, 25, 1001),
  (174, 0, 2, mX11_isIsland, 4004, 4006, 26, 1001),
  (183, 0, 3, mX7_songIn, 4012, 4013, 4014, 1009),
  (187, 1, 3, mX11_noteAt, 4027, 4025, 0, 1001),
  (191, 0, 3, mX11_isNoteOfBox, 4032, 4034, 29, 1001),
  (198, 0, 2, mX4_boxLength, 4036, 4037, 4038, 1002),
  (201, 0, 3, mX11_hearerIn, 4044, 4046, 30, 1001),
  (204, 0, 3, mX11_areTwoIslands, 4065, 4067, 31, 1001),
  (207, 0, 3, mX4_wayBetween, 4069, 3168, 3169, 1002),
  (210, 0, 2, mX2_isClosed, 4070, 4071, 4072, 1008),
  (222, 0, 1, mX11_hasPost, 4078, 4080, 32, 1001),
  (227, 1, 2, mX11_isWithin, 4083, 4084, 0, 1001),
  (230, 0, 2, mX11_isWay, 4090, 4092, 33, 1001),
  (236, 0, 4, mX6_dayOfLeaving, 4094, 4095, 4096, 1010),
  (242, 0, 2, mX2_isSent, 4102, 4103, 4104, 1008),
  (245, 0, 3, mX11_sentPart, 4106, 4108, 34, 1001),
  (248, 0, 3, mX7_apartness, 4114, 4115, 4116, 1009),
  (251, 0, 1, mX7_bearable, 4122, 4123, 4124, 1009),
  (255, 0, 1, mX7_mixedPairs, 4131, 4132, 4133, 1009),
  (258, 0, 3, mX11_refusalOfNewSong, 4139, 4141, 35, 1001),
  (261, 0, 5, mX7_findNew, 4143, 4144, 4145, 1009),
  (277, 0, 4, mX7_hearerOf, 4048, 4049, 4050, 1009),
  (280, 0, 5, mX6_firstDayAt, 4184, 4185, 4186, 1010),
  (283, 0, 3, mX6_dayOfBringing, 4206, 4207, 4208, 1010),
  (286, 0, 2, mX6_soonestBringer, 4223, 4224, 4225, 1010),
  (289, 0, 3, mX6_surestBringer, 4232, 4233, 4234, 1010),
  (292, 0, 3, mX6_bringersBy, 5000, 5001, 5002, 1010),
  (295, 1, 2, mX11_commonDivisor, 5008, 5009, 0, 1001),
  (298, 0, 1, mX11_solveMatch, 5016, 5018, 41, 1001),
  (310, 0, 5, mX6_dayOfMeeting, 5051, 5052, 5053, 1010),
  (313, 0, 1, mX6_fittingWhales, 5060, 5061, 5062, 1010),
  (316, 0, 3, mX6_islandsReached, 5072, 5073, 5074, 1010),
  (319, 0, 2, mX6_bestPier, 5081, 5082, 5083, 1010),
  (325, 0, 4, mX3_fewestToWatch, 5099, 5100, 5101, 1011),
  (328, 0, 3, mX3_findRound, 5112, 5113, 5114, 1011),
  (338, 0, 2, mX11_heardWithSlips, 5144, 5146, 52, 1001),
  (341, 0, 1, mX11_keepForUndo, 5164, 5166, 54, 1001),
  (347, 0, 2, mX11_hasRefused, 5180, 5182, 55, 1001),
  (353, 1, 4, mX11_withNote, 5184, 5158, 0, 1001),
  (356, 0, 1, mX11_hasGranted, 5185, 5187, 56, 1001),
  (359, 0, 2, mX2_copyFrom, 5168, 5169, 5170, 1008),
  (391, 0, 2, mX2_begin, 3208, 3209, 3210, 1008),
  (394, 12, 0, zledM, 5175, 0, 0, 0),
  (399, 0, 3, mX7_slipped, 5148, 5149, 5150, 1009),
  (404, 0, 3, mX1_solve, 5020, 5021, 5022, 1012),
  (408, 11, 0, zledM, 5011, 0, 0, 0),
  (411, 1, 1, mJ6_bitCount_0f7a4, 4055, 4056, 0, 1019)]
def zmthT12 : List (Nat × Nat × Nat × zM × Nat × Nat × Nat × Nat) := [(1, 10, 0, zledM, 6055, 0, 0, 0),
  (77, 0, 2, mX12_look, 6201, 6203, 61, 1013),
  (93, 1, 1, mX12_isSmall, 6205, 6206, 0, 1013),
  (97, 1, 1, mX12_isDigit, 6208, 6209, 0, 1013),
  (107, 0, 1, mJ0_length_8abf5, 6220, 3063, 3064, 1015),
  (113, 0, 2, mJ0_charAt_5068e, 6221, 3073, 3074, 1015),
  (117, 0, 2, mX12_isWord, 6216, 6218, 63, 1013),
  (121, 0, 1, mX12_next, 6197, 6199, 60, 1013),
  (124, 0, 2, mX12_takesWord, 6239, 7001, 68, 1013),
  (127, 0, 3, mX12_wrong, 6226, 6228, 65, 1013),
  (143, 0, 1, mX12_mustName, 7023, 7025, 73, 1013),
  (146, 0, 1, mX12_find, 7031, 7033, 74, 1013),
  (149, 1, 3, mX12_in, 6190, 6191, 0, 1013),
  (153, 0, 3, mX12_named, 7047, 7049, 78, 1013),
  (157, 0, 2, mX12_must, 6235, 6237, 67, 1013),
  (161, 0, 1, mX12_islandPassed, 7043, 7045, 77, 1013),
  (164, 0, 3, mX12_number, 7003, 7005, 69, 1013),
  (167, 0, 1, mX12_good, 6186, 6188, 58, 1013),
  (170, 0, 2, mX12_no, 6193, 6195, 59, 1013),
  (173, 0, 1, mX12_readLine, 6211, 6213, 62, 1013),
  (176, 1, 5, mX12_copy, 7083, 7084, 0, 1013),
  (189, 0, 1, mX12_postLine, 6222, 6224, 64, 1013),
  (192, 0, 3, mX12_begins, 7011, 7013, 70, 1013),
  (196, 0, 1, mX12_islandLine, 7015, 7017, 71, 1013),
  (199, 0, 1, mX12_wayLine, 7039, 7041, 76, 1013),
  (202, 0, 1, mX12_whaleLine, 7056, 7058, 79, 1013),
  (205, 0, 1, mX12_boxLine, 7071, 7073, 81, 1013),
  (208, 0, 1, mX12_spoutLine, 7079, 7081, 82, 1013),
  (213, 0, 4, mX12_after, 6231, 6233, 66, 1013),
  (223, 0, 2, mX12_newName, 7019, 7021, 72, 1013),
  (227, 0, 2, mX12_isSong, 7035, 7037, 75, 1013),
  (230, 1, 4, mX12_joins, 7051, 7052, 0, 1013),
  (246, 0, 2, mX12_islandBehind, 7065, 7067, 80, 1013),
  (262, 0, 3, mX12_ofBox, 7114, 7116, 86, 1013),
  (265, 0, 2, mX12_songLong, 7126, 7128, 88, 1013),
  (268, 0, 2, mX12_isWhale, 7098, 7100, 83, 1013),
  (271, 0, 3, mX12_ofWhale, 7102, 7104, 84, 1013),
  (274, 0, 2, mX12_isBox, 7110, 7112, 85, 1013),
  (277, 0, 2, mX12_isIsland, 7122, 7124, 87, 1013),
  (280, 0, 4, mX12_noteIn, 7134, 7136, 89, 1013),
  (284, 0, 2, mX12_boxLong, 7142, 7144, 90, 1013),
  (287, 0, 6, mX12_unlike, 7158, 7160, 93, 1013),
  (291, 0, 5, mX12_hearsIn, 7154, 7156, 92, 1013),
  (295, 0, 2, mX12_heardNow, 7150, 7152, 91, 1013),
  (298, 1, 2, mX12_hasBit, 7174, 7175, 0, 1013),
  (302, 0, 2, mX12_isClosed, 7170, 7172, 95, 1013),
  (305, 0, 3, mX12_wayOf, 7166, 7168, 94, 1013),
  (308, 0, 3, mX12_nearOf, 7181, 7183, 96, 1013),
  (312, 0, 3, mX12_apartOf, 7197, 7199, 97, 1013),
  (318, 0, 2, mX12_power, 7221, 7223, 100, 1013),
  (321, 0, 4, mX12_digitsApart, 7225, 7227, 101, 1013),
  (324, 0, 3, mX12_songWhy, 7213, 7215, 98, 1013),
  (327, 0, 4, mX12_newSongs, 7217, 7219, 99, 1013),
  (331, 0, 3, mX12_hearsItself, 8001, 8003, 102, 1013),
  (334, 0, 4, mX12_setsOut, 8017, 8019, 103, 1013),
  (337, 1, 1, mX12_seasonOf, 8010, 8011, 0, 1013),
  (342, 0, 4, mX12_goesBy, 8034, 8036, 106, 1013),
  (346, 0, 4, mX12_dayBy, 8038, 8040, 107, 1013),
  (349, 0, 4, mX12_layDays, 8029, 8031, 105, 1013),
  (352, 0, 5, mX12_arrivalOf, 8025, 8027, 104, 1013),
  (355, 1, 2, mX12_later, 8054, 8055, 0, 1013),
  (364, 0, 3, mX12_lays, 8050, 8052, 109, 1013),
  (367, 0, 3, mX12_bringsOf, 8046, 8048, 108, 1013),
  (370, 0, 3, mX12_surestBut, 8065, 8067, 110, 1013),
  (375, 1, 3, mX12_lowest, 8078, 8079, 0, 1013),
  (385, 0, 5, mX12_tryMatch, 8089, 8091, 112, 1013),
  (389, 0, 1, mX12_seekMatch, 8085, 8087, 111, 1013),
  (398, 0, 2, mX12_fitsAll, 8109, 8111, 113, 1013),
  (401, 0, 3, mX12_reachOf, 8117, 8119, 114, 1013),
  (404, 1, 1, mX12_ones, 8129, 8130, 0, 1013),
  (407, 0, 4, mX12_doLead, 8132, 8134, 115, 1013),
  (413, 0, 4, mX12_tryRound, 8148, 8150, 118, 1013),
  (416, 0, 1, mX12_layFar, 8144, 8146, 117, 1013),
  (419, 0, 2, mX12_seekRound, 8140, 8142, 116, 1013),
  (424, 0, 1, mX12_note1, 8166, 8168, 119, 1013),
  (427, 0, 2, mX12_isNot, 8174, 8176, 120, 1013)]
def zmthT13 : List (Nat × Nat × Nat × zM × Nat × Nat × Nat × Nat) := [(15, 2, 1, mX11_init, 1028, 1029, 0, 1001),
  (18, 2, 1, mX12_init, 6052, 6053, 0, 1013),
  (19, 0, 6, mX11_feed, 3014, 3015, 3016, 1001),
  (23, 0, 6, mX12_feed, 6178, 6179, 6180, 1013),
  (24, 0, 2, mX11_post, 3022, 3023, 3024, 1001),
  (27, 0, 2, mX12_post, 6182, 6183, 6184, 1013),
  (28, 0, 1, mX11_fault, 3216, 3217, 3218, 1001),
  (32, 0, 1, mX12_fault, 7086, 7087, 7088, 1013),
  (33, 0, 1, mX11_where, 3220, 3221, 3222, 1001),
  (36, 0, 1, mX12_where, 7090, 7091, 7092, 1013),
  (37, 0, 3, mX11_whale, 3224, 3225, 3226, 1001),
  (41, 0, 3, mX12_whale, 7094, 7095, 7096, 1013),
  (42, 0, 3, mX11_box, 3232, 3233, 3234, 1001),
  (45, 0, 3, mX12_box, 7106, 7107, 7108, 1013),
  (46, 0, 2, mX11_length, 4000, 4001, 4002, 1001),
  (49, 0, 2, mX12_length, 7118, 7119, 7120, 1013),
  (50, 0, 3, mX11_note, 4008, 4009, 4010, 1001),
  (53, 0, 3, mX12_note, 7130, 7131, 7132, 1013),
  (54, 0, 3, mX11_sung, 4028, 4029, 4030, 1001),
  (57, 0, 3, mX12_sung, 7138, 7139, 7140, 1013),
  (58, 0, 2, mX11_heard, 4040, 4041, 4042, 1001),
  (61, 0, 2, mX12_heard, 7146, 7147, 7148, 1013),
  (62, 0, 3, mX11_way, 4061, 4062, 4063, 1001),
  (65, 0, 3, mX12_way, 7162, 7163, 7164, 1013),
  (66, 0, 2, mX11_season, 4074, 4075, 4076, 1001),
  (69, 0, 2, mX12_season, 8005, 8006, 8007, 1013),
  (70, 0, 4, mX11_sets, 4086, 4087, 4088, 1001),
  (74, 0, 4, mX12_sets, 8013, 8014, 8015, 1013),
  (75, 0, 2, mX11_sent, 4098, 4099, 4100, 1001),
  (78, 0, 2, mX12_sent, 7189, 7190, 7191, 1013),
  (79, 0, 3, mX11_apart, 4110, 4111, 4112, 1001),
  (82, 0, 3, mX12_apart, 7193, 7194, 7195, 1013),
  (83, 0, 1, mX11_bear, 4118, 4119, 4120, 1001),
  (86, 0, 1, mX12_bear, 7201, 7202, 7203, 1013),
  (87, 0, 1, mX11_mixed, 4127, 4128, 4129, 1001),
  (90, 0, 1, mX12_mixed, 7205, 7206, 7207, 1013),
  (91, 0, 3, mX11_fresh, 4135, 4136, 4137, 1001),
  (94, 0, 3, mX12_fresh, 7209, 7210, 7211, 1013),
  (95, 0, 3, mX11_byTurns, 4160, 4161, 4162, 1001),
  (98, 0, 3, mX12_byTurns, 7229, 7230, 7231, 1013),
  (99, 0, 2, mX11_near, 4164, 4165, 4166, 1001),
  (102, 0, 2, mX12_near, 7177, 7178, 7179, 1013),
  (103, 0, 2, mX11_asNear, 4168, 4169, 4170, 1001),
  (106, 0, 2, mX12_asNear, 7185, 7186, 7187, 1013),
  (107, 0, 3, mX11_heardIn, 4172, 4173, 4174, 1001),
  (110, 0, 3, mX12_heardIn, 7233, 7234, 7235, 1013),
  (111, 0, 2, mX11_strange, 4176, 4177, 4178, 1001),
  (114, 0, 2, mX12_strange, 7237, 7238, 7239, 1013),
  (115, 0, 5, mX11_arrival, 4180, 4181, 4182, 1001),
  (119, 0, 5, mX12_arrival, 8021, 8022, 8023, 1013),
  (120, 0, 3, mX11_brings, 4202, 4203, 4204, 1001),
  (123, 0, 3, mX12_brings, 8042, 8043, 8044, 1013),
  (124, 0, 2, mX11_soonest, 4219, 4220, 4221, 1001),
  (127, 0, 2, mX12_soonest, 8057, 8058, 8059, 1013),
  (128, 0, 2, mX11_surest, 4228, 4229, 4230, 1001),
  (131, 0, 2, mX12_surest, 8061, 8062, 8063, 1013),
  (132, 0, 3, mX11_by, 4236, 4237, 4238, 1001),
  (135, 0, 3, mX12_by, 8069, 8070, 8071, 1013),
  (136, 0, 3, mX11_registered, 5004, 5005, 5006, 1001),
  (140, 0, 3, mX12_registered, 8073, 8074, 8075, 1013),
  (141, 0, 1, mX11_match, 5012, 5013, 5014, 1001),
  (144, 0, 1, mX12_match, 8081, 8082, 8083, 1013),
  (145, 0, 1, mX11_matchDays, 5039, 5040, 5041, 1001),
  (148, 0, 1, mX12_matchDays, 8093, 8094, 8095, 1013),
  (149, 0, 2, mX11_matchOf, 5043, 5044, 5045, 1001),
  (152, 0, 2, mX12_matchOf, 8097, 8098, 8099, 1013),
  (153, 0, 5, mX11_meet, 5047, 5048, 5049, 1001),
  (156, 0, 5, mX12_meet, 8101, 8102, 8103, 1013),
  (157, 0, 1, mX11_fits, 5056, 5057, 5058, 1001),
  (160, 0, 1, mX12_fits, 8105, 8106, 8107, 1013),
  (161, 0, 3, mX11_reach, 5068, 5069, 5070, 1001),
  (164, 0, 3, mX12_reach, 8113, 8114, 8115, 1013),
  (165, 0, 2, mX11_pier, 5077, 5078, 5079, 1001),
  (168, 0, 2, mX12_pier, 8121, 8122, 8123, 1013),
  (169, 0, 3, mX11_watch, 5095, 5096, 5097, 1001),
  (172, 0, 3, mX12_watch, 8125, 8126, 8127, 1013),
  (173, 0, 2, mX11_round, 5108, 5109, 5110, 1001),
  (176, 0, 2, mX12_round, 8136, 8137, 8138, 1013),
  (177, 0, 3, mX11_roundAt, 5135, 5136, 5137, 1001),
  (180, 0, 3, mX12_roundAt, 8152, 8153, 8154, 1013),
  (181, 0, 3, mX11_decade, 5139, 5140, 5141, 1001),
  (184, 0, 3, mX12_decade, 8156, 8157, 8158, 1013),
  (185, 0, 3, mX11_send, 5160, 5161, 5162, 1001),
  (188, 0, 3, mX12_send, 8162, 8163, 8164, 1013),
  (189, 0, 4, mX11_tune, 5176, 5177, 5178, 1001),
  (193, 0, 4, mX12_tune, 8170, 8171, 8172, 1013),
  (194, 0, 2, mX11_years, 5189, 5190, 5191, 1001),
  (197, 0, 2, mX12_years, 8178, 8179, 8180, 1013),
  (198, 0, 3, mX11_close, 5193, 5194, 5195, 1001),
  (202, 0, 3, mX12_close, 8182, 8183, 8184, 1013),
  (203, 0, 1, mX11_undo, 5197, 5198, 5199, 1001),
  (207, 0, 1, mX12_undo, 8186, 8187, 8188, 1013),
  (208, 0, 1, mX11_image, 5201, 5202, 5203, 1001),
  (211, 0, 1, mX12_image, 8190, 8191, 8192, 1013),
  (212, 0, 2, mX11_back, 5205, 5206, 5207, 1001),
  (216, 0, 2, mX12_back, 8194, 8195, 8196, 1013),
  (217, 16, 0, zledM, 5217, 0, 0, 0),
  (222, 0, 2, mX12_led, 8198, 8199, 8200, 1013),
  (223, 0, 1, mX12_thrown, 6174, 6175, 6176, 1013),
  (226, 0, 2, mX11_size, 5209, 5210, 5211, 1001),
  (229, 0, 2, mX12_size, 8202, 8203, 8204, 1013),
  (230, 0, 1, mX11_trouble, 5213, 5214, 5215, 1001),
  (233, 0, 1, mX12_trouble, 8206, 8207, 8208, 1013)]
def zmthT14 : List (Nat × Nat × Nat × zM × Nat × Nat × Nat × Nat) := [(335, 0, 1, mJ0_coder_7d493, 3066, 3067, 3068, 1015),
  (492, 0, 1, mJ0_isLatin1_aae02, 3076, 3077, 3078, 1015),
  (495, 1, 2, mJ1_charAt_3b067, 3080, 3081, 0, 1016),
  (1059, 1, 3, mJ3_checkIndex_8e157, 3088, 3089, 0, 1017)]
def zmthT15 : List (Nat × Nat × Nat × zM × Nat × Nat × Nat × Nat) := [(9, 1, 2, mJ0_checkIndex_df160, 3083, 3084, 0, 1015)]
def zmthT16 : List (Nat × Nat × Nat × zM × Nat × Nat × Nat × Nat) := []
def zmthT17 : List (Nat × Nat × Nat × zM × Nat × Nat × Nat × Nat) := []
def zmthT18 : List (Nat × Nat × Nat × zM × Nat × Nat × Nat × Nat) := []
def zmthTT : List (List (Nat × Nat × Nat × zM × Nat × Nat × Nat × Nat)) := [zmthT0, zmthT1, zmthT2, zmthT3, zmthT4, zmthT5, zmthT6, zmthT7, zmthT8, zmthT9, zmthT10, zmthT11, zmthT12, zmthT13, zmthT14, zmthT15, zmthT16, zmthT17, zmthT18]
def zmth (o k : Nat) : Option (Nat × Nat × zM) := (zlook (zmthTT.getD o []) k).map (fun q => (q.1, q.2.1, q.2.2.1))
/-- all methods, with the place of their code word -/
def zall : List (zM × Nat) := [(mX0_init, 1108), (mX1_init, 2182), (mX1_solve, 5023), (mX1_worth, 5028), (mX1_choose, 5034), (mX1_firstBest, 5038), (mX2_init, 2062), (mX2_begin, 3211), (mX2_copyFrom, 5171), (mX2_isClosed, 4073), (mX2_isSent, 4105), (mX3_init, 2161), (mX3_fewestToWatch, 5102), (mX3_waysOutOf, 5106), (mX3_findRound, 5115), (mX3_findShortest, 5119), (mX3_findRests, 5126), (mX3_daysOver, 5130), (mX3_nextOf, 5134), (mX4_init, 1038), (mX4_clear, 3037), (mX4_boxLength, 4039), (mX4_wayBetween, 3170), (mX4_hasSong, 3158), (mX4_lastSpoutOf, 3203), (mX5_init, 2013), (mX5_readPost, 3033), (mX5_faulty, 3118), (mX5_readLine, 3044), (mX5_readHead, 3122), (mX5_readIsland, 3138), (mX5_readWay, 3162), (mX5_readWhale, 3176), (mX5_readBox, 3191), (mX5_readSpout, 3199), (mX5_word, 3127), (mX5_whole, 3131), (mX5_newName, 3142), (mX5_toldName, 3166), (mX5_nameOfToken, 3146), (mX5_letters, 3150), (mX5_songOfToken, 3154), (mX5_kindOfToken, 3180), (mX5_sortOfLine, 3056), (mX5_isToken, 3061), (mX5_nextToken, 3048), (mX5_passAll, 3052), (mX6_init, 2131), (mX6_dayOfLeaving, 4097), (mX6_findFirstDays, 4191), (mX6_goes, 4200), (mX6_firstDayAt, 4187), (mX6_dayOfBringing, 4209), (mX6_soonestBringer, 4226), (mX6_surestBringer, 4235), (mX6_bringersBy, 5003), (mX6_dayOfMeeting, 5054), (mX6_fittingWhales, 5063), (mX6_isFitting, 5067), (mX6_islandsReached, 5075), (mX6_bestPier, 5084), (mX6_whalesReaching, 5090), (mX7_init, 2101), (mX7_fallIn, 4019), (mX7_raised, 4023), (mX7_songIn, 4015), (mX7_hearerOf, 4051), (mX7_apartness, 4117), (mX7_bearable, 4125), (mX7_mixedPairs, 4134), (mX7_findNew, 4146), (mX7_keepSongsOf, 4150), (mX7_isOfNotes, 4155), (mX7_isFarFromKept, 4159), (mX7_draw, 5155), (mX7_slipped, 5151), (mX8_init, 1135), (mX9_init, 1051), (mX10_init, 1082), (mX11_init, 1030), (mX11_feed, 3017), (mX11_post, 3025), (mX11_fault, 3219), (mX11_where, 3223), (mX11_whale, 3227), (mX11_box, 3235), (mX11_length, 4003), (mX11_note, 4011), (mX11_sung, 4031), (mX11_heard, 4043), (mX11_way, 4064), (mX11_season, 4077), (mX11_sets, 4089), (mX11_sent, 4101), (mX11_apart, 4113), (mX11_bear, 4121), (mX11_mixed, 4130), (mX11_fresh, 4138), (mX11_byTurns, 4163), (mX11_near, 4167), (mX11_asNear, 4171), (mX11_heardIn, 4175), (mX11_strange, 4179), (mX11_arrival, 4183), (mX11_brings, 4205), (mX11_soonest, 4222), (mX11_surest, 4231), (mX11_by, 4239), (mX11_registered, 5007), (mX11_match, 5015), (mX11_matchDays, 5042), (mX11_matchOf, 5046), (mX11_meet, 5050), (mX11_fits, 5059), (mX11_reach, 5071), (mX11_pier, 5080), (mX11_watch, 5098), (mX11_round, 5111), (mX11_roundAt, 5138), (mX11_decade, 5142), (mX11_send, 5163), (mX11_tune, 5179), (mX11_years, 5192), (mX11_close, 5196), (mX11_undo, 5200), (mX11_image, 5204), (mX11_back, 5208), (mX11_led, 5224), (mX11_size, 5212), (mX11_trouble, 5216), (mX11_granted, 3215), (mX11_refused, 3029), (mX11_hasGranted, 5188), (mX11_hasRefused, 5183), (mX11_hasPost, 4081), (mX11_isIsland, 4007), (mX11_areTwoIslands, 4068), (mX11_isWay, 4093), (mX11_isWhale, 3231), (mX11_isBox, 3239), (mX11_isNoteOfBox, 4035), (mX11_isWithin, 4085), (mX11_refusalOfNewSong, 4142), (mX11_appendBytes, 3021), (mX11_takeDraft, 3207), (mX11_keepForUndo, 5167), (mX11_hearerIn, 4047), (mX11_sentPart, 4109), (mX11_heardWithSlips, 5147), (mX11_solveMatch, 5019), (mX11_commonDivisor, 5010), (mX11_noteAt, 4026), (mX11_withNote, 5159), (mX11_unlikeNotes, 4054), (mX12_init, 6054), (mX12_thrown, 6177), (mX12_good, 6189), (mX12_no, 6196), (mX12_isNot, 8177), (mX12_in, 6192), (mX12_hasBit, 7176), (mX12_ones, 8131), (mX12_copy, 7085), (mX12_later, 8056), (mX12_feed, 6181), (mX12_look, 6204), (mX12_isSmall, 6207), (mX12_isDigit, 6210), (mX12_next, 6200), (mX12_wrong, 6229), (mX12_isWord, 6219), (mX12_takesWord, 7002), (mX12_must, 6238), (mX12_mustName, 7026), (mX12_find, 7034), (mX12_newName, 7022), (mX12_named, 7050), (mX12_islandPassed, 7046), (mX12_islandBehind, 7068), (mX12_number, 7006), (mX12_after, 6234), (mX12_post, 6185), (mX12_begins, 7014), (mX12_readLine, 6214), (mX12_postLine, 6225), (mX12_islandLine, 7018), (mX12_isSong, 7038), (mX12_wayLine, 7042), (mX12_joins, 7053), (mX12_whaleLine, 7059), (mX12_boxLine, 7074), (mX12_spoutLine, 7082), (mX12_fault, 7089), (mX12_where, 7093), (mX12_isIsland, 7125), (mX12_isWhale, 7101), (mX12_isBox, 7113), (mX12_ofWhale, 7105), (mX12_ofBox, 7117), (mX12_songLong, 7129), (mX12_boxLong, 7145), (mX12_noteIn, 7137), (mX12_whale, 7097), (mX12_box, 7109), (mX12_length, 7121), (mX12_note, 7133), (mX12_sung, 7141), (mX12_unlike, 7161), (mX12_hearsIn, 7157), (mX12_heardNow, 7153), (mX12_heard, 7149), (mX12_isClosed, 7173), (mX12_wayOf, 7169), (mX12_way, 7165), (mX12_nearOf, 7184), (mX12_near, 7180), (mX12_asNear, 7188), (mX12_sent, 7192), (mX12_apartOf, 7200), (mX12_apart, 7196), (mX12_bear, 7204), (mX12_mixed, 7208), (mX12_power, 7224), (mX12_digitsApart, 7228), (mX12_newSongs, 7220), (mX12_songWhy, 7216), (mX12_fresh, 7212), (mX12_byTurns, 7232), (mX12_heardIn, 7236), (mX12_hearsItself, 8004), (mX12_strange, 8000), (mX12_dayBy, 8041), (mX12_setsOut, 8020), (mX12_seasonOf, 8012), (mX12_season, 8008), (mX12_sets, 8016), (mX12_layDays, 8032), (mX12_goesBy, 8037), (mX12_arrivalOf, 8028), (mX12_arrival, 8024), (mX12_lays, 8053), (mX12_bringsOf, 8049), (mX12_brings, 8045), (mX12_soonest, 8060), (mX12_surestBut, 8068), (mX12_surest, 8064), (mX12_by, 8072), (mX12_lowest, 8080), (mX12_registered, 8076), (mX12_tryMatch, 8092), (mX12_seekMatch, 8088), (mX12_match, 8084), (mX12_matchDays, 8096), (mX12_matchOf, 8100), (mX12_meet, 8104), (mX12_fitsAll, 8112), (mX12_fits, 8108), (mX12_reachOf, 8120), (mX12_reach, 8116), (mX12_pier, 8124), (mX12_doLead, 8135), (mX12_watch, 8128), (mX12_layFar, 8147), (mX12_tryRound, 8151), (mX12_seekRound, 8143), (mX12_round, 8139), (mX12_roundAt, 8155), (mX12_decade, 8159), (mX12_note1, 8169), (mX12_send, 8165), (mX12_tune, 8173), (mX12_years, 8181), (mX12_close, 8185), (mX12_undo, 8189), (mX12_image, 8193), (mX12_back, 8197), (mX12_led, 8201), (mX12_size, 8205), (mX12_trouble, 8209), (mJ0_length_8abf5, 3065), (mJ0_charAt_5068e, 3075), (mJ0_coder_7d493, 3069), (mJ0_isLatin1_aae02, 3079), (mJ0_checkIndex_df160, 3085), (mJ1_charAt_3b067, 3082), (mJ3_checkIndex_8e157, 3090), (mJ7_fill_53178, 4195), (mJ6_bitCount_0f7a4, 4057)]
/-- the nest mates' links: class, pool number, method, host, place -/
def znm : List (Nat × Nat × zM × String × Nat) := [(4, 42, mX9_init, "WhalePost", 1049), (4, 43, mX10_init, "WhalePost", 1080), (4, 44, mX0_init, "WhalePost", 1106), (4, 45, mX8_init, "WhalePost", 1133), (11, 41, mX2_init, "WhalePost", 2060), (11, 73, mX1_init, "WhalePost", 2180), (7, 40, mX11_noteAt, "WhalePost", 4024), (7, 60, mX11_unlikeNotes, "WhalePost", 4052), (7, 92, mX11_withNote, "WhalePost", 5157)]
/-- the texts: class, pool number, text, special number, place -/
def zsr : List (Nat × Nat × String × Nat × Nat) := [(5, 263, "post", 1000010, 3057), (5, 264, "island", 1000011, 3110), (5, 265, "way", 1000012, 3111), (5, 266, "whale", 1000013, 3112), (5, 267, "box", 1000014, 3113), (5, 268, "spout", 1000015, 3114), (5, 137, "notes", 1000016, 3123), (5, 146, "errors", 1000017, 3132), (5, 150, "drift", 1000018, 3133), (5, 154, "slip", 1000019, 3134), (5, 187, "days", 1000020, 3171), (5, 191, "open", 1000021, 3172), (5, 255, "calf", 1000022, 3181), (5, 257, "cow", 1000023, 3182), (5, 259, "bull", 1000024, 3183), (5, 261, "old", 1000025, 3184), (5, 203, "at", 1000026, 3185), (5, 207, "keeps", 1000027, 3186), (5, 211, "lost", 1000028, 3187), (5, 215, "from", 1000029, 3192), (5, 221, "to", 1000030, 3193), (5, 225, "weighs", 1000031, 3194), (5, 229, "day", 1000032, 3195), (11, 365, "no such box is left", 1000033, 6024), (12, 131, "post", 1000010, 6215), (12, 211, "notes", 1000016, 6230), (12, 217, "errors", 1000017, 7007), (12, 219, "drift", 1000018, 7008), (12, 221, "slip", 1000019, 7009), (12, 133, "island", 1000011, 7010), (12, 135, "way", 1000012, 7027), (12, 137, "whale", 1000013, 7028), (12, 139, "box", 1000014, 7029), (12, 141, "spout", 1000015, 7030), (12, 234, "days", 1000020, 7054), (12, 235, "open", 1000021, 7055), (12, 237, "calf", 1000022, 7060), (12, 239, "cow", 1000023, 7061), (12, 241, "bull", 1000024, 7062), (12, 243, "old", 1000025, 7063), (12, 245, "at", 1000026, 7064), (12, 250, "keeps", 1000027, 7069), (12, 252, "lost", 1000028, 7070), (12, 254, "from", 1000029, 7075), (12, 256, "to", 1000030, 7076), (12, 258, "weighs", 1000031, 7077), (12, 260, "day", 1000032, 7078)]
end
section
/-! THE SMALL MACHINE: values, heaps, one step, runs. Its tables (zfld, zcst, zmth, zcls, zsta, znf) stand ahead. -/
/-- the heap: kinds and lengths of the cells; ints, longs, references by cell and place; how often led has thrown -/
abbrev zH : Type := (Nat × (Nat → Nat × Nat) × Nat) × (Nat → Nat → Int32) × (Nat → Nat → Int64) × (Nat → Nat → Option Nat) × Nat
abbrev zL : Type := List (Nat × zV)
/-- the kind and length of a cell -/
def zsh (h : zH) (a : Nat) : Option (Nat × Nat) := if a < h.1.1 then some (h.1.2.1 a) else none
def zup {α : Type} (f : Nat → Nat → α) (a k : Nat) (v : α) : Nat → Nat → α := fun b j => if b = a then (if j = k then v else f b j) else f b j
def zrow {α : Type} (f : Nat → Nat → α) (a : Nat) (g : Nat → α) : Nat → Nat → α := fun b j => if b = a then g j else f b j
def zsI (h : zH) (a k : Nat) (v : Int32) : zH := (h.1, zup h.2.1 a k v, h.2.2.1, h.2.2.2.1, h.2.2.2.2)
def zsL (h : zH) (a k : Nat) (v : Int64) : zH := (h.1, h.2.1, zup h.2.2.1 a k v, h.2.2.2.1, h.2.2.2.2)
def zsR (h : zH) (a k : Nat) (v : Option Nat) : zH := (h.1, h.2.1, h.2.2.1, zup h.2.2.2.1 a k v, h.2.2.2.2)
def zsRow (h : zH) (a : Nat) (g : Nat → Int32) : zH := (h.1, zrow h.2.1 a g, h.2.2.1, h.2.2.2.1, h.2.2.2.2)
/-- a new cell: all zero, all null -/
def znew (h : zH) (kind len : Nat) : zH := ((h.1.1 + 1, (fun b => if b = h.1.1 then (kind, len) else h.1.2.1 b), h.1.2.2 + len), zrow h.2.1 h.1.1 (fun _ => 0), zrow h.2.2.1 h.1.1 (fun _ => 0), zrow h.2.2.2.1 h.1.1 (fun _ => none), h.2.2.2.2)
def zthr (h : zH) : zH := (h.1, h.2.1, h.2.2.1, h.2.2.2.1, h.2.2.2.2 + 1)
def zcat (v : zV) : Nat := match v with
  | .inr (.inl _) => 2
  | _ => 1
def zget (ls : zL) (i : Nat) : Option zV := match ls with
  | [] => none
  | q :: t => if q.1 = i then some q.2 else zget t i
def zset1 (ls : zL) (i : Nat) (v : zV) : zL := (i, v) :: ls.filter (fun q => !(q.1 == i) && !(q.1 + 1 == i && zcat q.2 == 2))
def zset2 (ls : zL) (i : Nat) (v : zV) : zL := (i, v) :: ls.filter (fun q => !(q.1 == i) && (!(q.1 == i + 1) && !(q.1 + 1 == i && zcat q.2 == 2)))
def zargs : Nat → List zV → zL
  | _, [] => []
  | i, v :: vs => (i, v) :: zargs (if zcat v = 2 then i + 2 else i + 1) vs
def zwd (vs : List zV) : Nat := (vs.map zcat).sum
def zcond (c : ClassFile.Cond) (x y : Int32) : Bool := match c with
  | .eq => decide (x = y)
  | .ne => decide (¬ x = y)
  | .lt => decide (x < y)
  | .ge => decide (y ≤ x)
  | .gt => decide (y < x)
  | .le => decide (x ≤ y)
abbrev zC : Type := Nat × zL × List zV × zH
abbrev zR : Type := Option zV × zH
/-- on by len, with this stack -/
abbrev zgo (pc : Nat) (ls : zL) (st : List zV) (h : zH) : Option (zC ⊕ zR) := some (.inl (pc, ls, st, h))
def zjump (pc : Nat) (off : Int) (ls : zL) (st : List zV) (h : zH) : Option (zC ⊕ zR) := if 0 ≤ (pc : Int) + off then zgo ((pc : Int) + off).toNat ls st h else none
/-- a branch: to pc + off, or on -/
def zbr (b : Bool) (pc len : Nat) (off : Int) (ls : zL) (st : List zV) (h : zH) : Option (zC ⊕ zR) := if 0 ≤ (pc : Int) + off then (if b then zgo ((pc : Int) + off).toNat ls st h else zgo (pc + len) ls st h) else none
/-- the place in an array of n -/
def zin (i : Int32) (n : Nat) : Bool := decide (¬ (i < 0 ∨ n ≤ i.toNatClampNeg))
def zld (scr : Option (Nat × (Nat → Int32))) (h : zH) (kind a : Nat) (i : Int32) : Option Int32 := match zsh h a with
  | some (k, n) => if k = kind then (if zin i n then some (h.2.1 a i.toNatClampNeg) else none) else none
  | none => if kind = 14 ∧ a = 1000000 then (match scr with
    | some (n, xs) => if zin i n then some (xs i.toNatClampNeg) else none
    | none => none) else none
def zst (h : zH) (kind a : Nat) (i : Int32) (v : Int32) : Option zH := match zsh h a with
  | some (k, n) => if k = kind then (if zin i n then some (zsI h a i.toNatClampNeg v) else none) else none
  | none => none
def zlen (scr : Option (Nat × (Nat → Int32))) (h : zH) (a : Nat) : Option Int32 := match zsh h a with
  | some (k, n) => if 13 ≤ k then some (Int32.ofNat n) else none
  | none => if a = 1000000 then scr.map (fun q => Int32.ofNat q.1) else none
def zfv (h : zH) (ci a f : Nat) : zV := if (zft ci).getD f 0 = 3 then .inr (.inr (h.2.2.2.1 a f)) else .inl (h.2.1 a f)
/-- a field's store: an int, a boolean (0, 1), a reference -/
def zput (h : zH) (ci a f : Nat) (v : zV) : Option zH := match v with
  | .inl x => if (zft ci).getD f 9 = 0 ∨ ((zft ci).getD f 9 = 1 ∧ (x = 0 ∨ x = 1)) then some (zsI h a f x) else none
  | .inr (.inr r) => if (zft ci).getD f 9 = 3 then some (zsR h a f r) else none
  | _ => none
def zbin (i : Instr) (x y : Int32) : Option Int32 := match i with
  | .iadd => some (x + y)
  | .isub => some (x - y)
  | .imul => some (x * y)
  | .iand => some (x &&& y)
  | .ior => some (x ||| y)
  | .ixor => some (x ^^^ y)
  | .ishl => some (x <<< (y &&& 31))
  | .ishr => some (x >>> (y &&& 31))
  | .iushr => some (x.toUInt32 >>> (y.toUInt32 &&& Int32.toUInt32 31)).toInt32
  | .idiv => if y = 0 then none else some (x / y)
  | .irem => if y = 0 then none else some (x - x / y * y)
  | _ => none
def zun (i : Instr) (x : Int32) : Option zV := match i with
  | .ineg => some (.inl (-x))
  | .i2b => some (.inl x.toInt8.toInt32)
  | .i2c => some (.inl (x.toUInt32 % 65536).toInt32)
  | .i2l => some (.inr (.inl x.toInt64))
  | _ => none
def zlbin (i : Instr) (x y : Int64) : Option zV := match i with
  | .lor => some (.inr (.inl (x ||| y)))
  | .lcmp => some (.inl (lg_cmp x y))
  | .ldiv => if y = 0 then none else some (.inr (.inl (x / y)))
  | .lrem => if y = 0 then none else some (.inr (.inl (x - x / y * y)))
  | _ => none
def zldv (m : zM) (ca k len pc : Nat) (ls : zL) (st : List zV) (h : zH) : Option (zC ⊕ zR) := match zcst m.2.1 k with
  | some v => if zcat v = ca then zgo (pc + len) ls (v :: st) h else none
  | none => none
/-- load, of a sort: 0 int, 1 long, 2 reference -/
def zload (so i len pc : Nat) (ls : zL) (st : List zV) (h : zH) : Option (zC ⊕ zR) := match zget ls i with
  | some (.inl x) => if so = 0 then zgo (pc + len) ls (.inl x :: st) h else none
  | some (.inr (.inl x)) => if so = 1 then zgo (pc + len) ls (.inr (.inl x) :: st) h else none
  | some (.inr (.inr (some a))) => if so = 2 then zgo (pc + len) ls (.inr (.inr (some a)) :: st) h else none
  | _ => none
def zstore (m : zM) (so i len pc : Nat) (ls : zL) (st : List zV) (h : zH) : Option (zC ⊕ zR) := match st with
  | .inl x :: st => if so = 0 ∧ i < m.2.2.1 then zgo (pc + len) (zset1 ls i (.inl x)) st h else none
  | .inr (.inl x) :: st => if so = 1 ∧ i + 1 < m.2.2.1 then zgo (pc + len) (zset2 ls i (.inr (.inl x))) st h else none
  | .inr (.inr (some a)) :: st => if so = 2 ∧ i < m.2.2.1 then zgo (pc + len) (zset1 ls i (.inr (.inr (some a)))) st h else none
  | _ => none
/-- a call by the tables: kind 0 virtual, 1 static, 2 constructor, 3 static of a nest mate, 4 constructor of a nest mate -/
def zcall (call : zM → List zV → zH → Option zR) (cm : zM) (kd na pc : Nat) (ls : zL) (st : List zV) (h : zH) : Option (zC ⊕ zR) :=
  if na ≤ st.length ∧ zwd (st.drop na) ≤ 8 then
    (if kd = 1 ∨ kd = 3 then (match call cm (st.take na).reverse h with
      | some (r, h') => zgo (pc + 3) ls (r.toList ++ st.drop na) h'
      | none => none)
    else match (st.take na).reverse with
      | .inr (.inr (some a)) :: vs => (match zsh h a with
        | some (k, _) => if k = cm.2.1 ∧ k < 13 then (match call cm (.inr (.inr (some a)) :: vs) h with
          | some (r, h') => zgo (pc + 3) ls (r.toList ++ st.drop na) h'
          | none => none) else none
        | none => none)
      | _ => none)
  else none
/-- System.arraycopy between int arrays -/
def zcopy (pc : Nat) (ls : zL) (st : List zV) (h : zH) : Option (zC ⊕ zR) := match st with
  | .inl n :: .inl dp :: .inr (.inr (some a)) :: .inl sp :: .inr (.inr (some b)) :: st => (match zsh h b, zsh h a with
    | some (k0, n0), some (k1, n1) => if k0 = 14 ∧ k1 = 14 ∧ ¬ sp < 0 ∧ ¬ dp < 0 ∧ ¬ n < 0 ∧ sp.toNatClampNeg + n.toNatClampNeg ≤ n0 ∧ dp.toNatClampNeg + n.toNatClampNeg ≤ n1 ∧ zwd st ≤ 8 then
        zgo (pc + 3) ls st (zsRow h a (va_cpy (h.2.1 b) (h.2.1 a) sp.toNatClampNeg dp.toNatClampNeg n.toNatClampNeg)) else none
    | _, _ => none)
  | _ => none
def zprim (deep : Bool) (kd pc : Nat) (ls : zL) (st : List zV) (h : zH) : Option (zC ⊕ zR) := if deep then
    (if kd = 10 then (match st with
      | .inr (.inr (some _)) :: st => if zwd st ≤ 8 then zgo (pc + 3) ls st h else none
      | _ => none)
    else if kd = 11 then (match st with
      | .inl y :: .inl x :: st => if zwd st ≤ 8 then zgo (pc + 3) ls (.inl (if x < y then y else x) :: st) h else none
      | _ => none)
    else if kd = 12 then (match st with
      | .inl y :: .inl x :: st => if zwd st ≤ 8 then zgo (pc + 3) ls (.inl (if y < x then y else x) :: st) h else none
      | _ => none)
    else if kd = 13 then (match st with
      | .inl x :: st => if zwd st ≤ 8 then zgo (pc + 3) ls (.inl (if 0 ≤ x then x else 0 - x) :: st) h else none
      | _ => none)
    else if kd = 14 then zcopy pc ls st h
    else none) else none
/-- the law's own led: what x.led answers goes into out[0], and 0; a throw is 1 -/
def zled (call : zM → List zV → zH → Option zR) (pc : Nat) (ls : zL) (st : List zV) (h : zH) : Option (zC ⊕ zR) := match st with
  | .inr (.inr (some o)) :: .inl p0 :: .inr (.inr (some a)) :: st => if zwd st ≤ 8 ∧ zsh h a = some (11, 16) ∧ zsh h o = some (15, 1) ∧ h.2.2.2.2 < 1000 then
      (match call zledM [.inr (.inr (some a)), .inl p0] h with
      | some (some (.inl b), h') => zgo (pc + 3) ls (.inl 0 :: st) (zsL h' o 0 b.toInt64)
      | some (some (.inr (.inl _)), h') => zgo (pc + 3) ls (.inl 1 :: st) h'
      | _ => none) else none
  | _ => none
def zarith (i : Instr) (len pc : Nat) (ls : zL) (st : List zV) (h : zH) : Option (zC ⊕ zR) := match st with
  | .inl y :: .inl x :: st' => (match zbin i x y with
    | some v => zgo (pc + len) ls (.inl v :: st') h
    | none => (match zun i y with
      | some v => zgo (pc + len) ls (v :: .inl x :: st') h
      | none => none))
  | .inl x :: st' => (match zun i x with
    | some v => zgo (pc + len) ls (v :: st') h
    | none => none)
  | .inr (.inl y) :: .inr (.inl x) :: st' => (match zlbin i x y with
    | some v => zgo (pc + len) ls (v :: st') h
    | none => none)
  | _ => none
def zexec (scr : Option (Nat × (Nat → Int32))) (call : zM → List zV → zH → Option zR) (deep : Bool) (m : zM) (i : Instr) (len pc : Nat) (ls : zL) (st : List zV) (h : zH) : Option (zC ⊕ zR) := match i with
  | .iconst n => zgo (pc + len) ls (.inl (Int32.ofInt n) :: st) h
  | .bipush n => zgo (pc + len) ls (.inl (Int8.ofInt n).toInt32 :: st) h
  | .sipush n => zgo (pc + len) ls (.inl (Int16.ofInt n).toInt32 :: st) h
  | .lconst n => zgo (pc + len) ls (.inr (.inl (Int64.ofNat (n : Nat))) :: st) h
  | .ldc k => zldv m 1 k len pc ls st h
  | .ldc_w k => zldv m 1 k len pc ls st h
  | .ldc2_w k => zldv m 2 k len pc ls st h
  | .iload k => zload 0 k len pc ls st h
  | .iload_n k => zload 0 k len pc ls st h
  | .lload k => zload 1 k len pc ls st h
  | .lload_n k => zload 1 k len pc ls st h
  | .aload k => zload 2 k len pc ls st h
  | .aload_n k => zload 2 k len pc ls st h
  | .istore k => zstore m 0 k len pc ls st h
  | .istore_n k => zstore m 0 k len pc ls st h
  | .lstore k => zstore m 1 k len pc ls st h
  | .lstore_n k => zstore m 1 k len pc ls st h
  | .astore k => zstore m 2 k len pc ls st h
  | .astore_n k => zstore m 2 k len pc ls st h
  | .iinc k n => (match zget ls k with
    | some (.inl x) => if k < m.2.2.1 then zgo (pc + len) (zset1 ls k (.inl (x + Int32.ofInt n))) st h else none
    | _ => none)
  | .lshl => (match st with
    | .inl y :: .inr (.inl x) :: st => zgo (pc + len) ls (.inr (.inl (x <<< (y.toInt64 &&& 63))) :: st) h
    | _ => none)
  | .ifCond c off => (match st with
    | .inl x :: st => zbr (zcond c x 0) pc len off ls st h
    | _ => none)
  | .if_icmp c off => (match st with
    | .inl y :: .inl x :: st => zbr (zcond c x y) pc len off ls st h
    | _ => none)
  | .goto off => zjump pc off ls st h
  | .tableswitch d lo hi offs => (match st with
    | .inl x :: st => if x.toInt < lo ∨ hi < x.toInt then zjump pc d ls st h else (match offs[(x.toInt - lo).toNat]? with
      | some off => zjump pc off ls st h
      | none => none)
    | _ => none)
  | .getfield k => (match st with
    | .inr (.inr (some a)) :: st => (match zfld m.2.1 k, zsh h a with
      | some (ci, f), some (kd, _) => if kd = ci then zgo (pc + len) ls (zfv h ci a f :: st) h else none
      | _, _ => none)
    | _ => none)
  | .putfield k => (match st with
    | v :: .inr (.inr (some a)) :: st => (match zfld m.2.1 k, zsh h a with
      | some (ci, f), some (kd, _) => if kd = ci ∧ (zfin ci f = false ∨ (m.2.2.2.2.2 = true ∧ m.2.1 = ci)) then (match zput h ci a f v with
        | some h' => zgo (pc + len) ls st h'
        | none => none) else none
      | _, _ => none)
    | _ => none)
  | .iaload => (match st with
    | .inl i :: .inr (.inr (some a)) :: st => (match zld scr h 14 a i with
      | some v => zgo (pc + len) ls (.inl v :: st) h
      | none => none)
    | _ => none)
  | .baload => (match st with
    | .inl i :: .inr (.inr (some a)) :: st => (match zld scr h 13 a i with
      | some v => zgo (pc + len) ls (.inl v :: st) h
      | none => none)
    | _ => none)
  | .laload => (match st with
    | .inl i :: .inr (.inr (some a)) :: st => (match zsh h a with
      | some (k, n) => if k = 15 ∧ zin i n = true then zgo (pc + len) ls (.inr (.inl (h.2.2.1 a i.toNatClampNeg)) :: st) h else none
      | none => none)
    | _ => none)
  | .aaload => (match st with
    | .inl i :: .inr (.inr (some a)) :: st => (match zsh h a with
      | some (k, n) => if 16 ≤ k ∧ k ≤ 20 ∧ zin i n = true then zgo (pc + len) ls (.inr (.inr (h.2.2.2.1 a i.toNatClampNeg)) :: st) h else none
      | none => none)
    | _ => none)
  | .iastore => (match st with
    | .inl v :: .inl i :: .inr (.inr (some a)) :: st => (match zst h 14 a i v with
      | some h' => zgo (pc + len) ls st h'
      | none => none)
    | _ => none)
  | .bastore => (match st with
    | .inl v :: .inl i :: .inr (.inr (some a)) :: st => (match zst h 13 a i (vp_nar .byte v) with
      | some h' => zgo (pc + len) ls st h'
      | none => none)
    | _ => none)
  | .lastore => (match st with
    | .inr (.inl v) :: .inl i :: .inr (.inr (some a)) :: st => (match zsh h a with
      | some (k, n) => if k = 15 ∧ zin i n = true then zgo (pc + len) ls st (zsL h a i.toNatClampNeg v) else none
      | none => none)
    | _ => none)
  | .aastore => (match st with
    | .inr (.inr (some v)) :: .inl i :: .inr (.inr (some a)) :: st => (match zsh h a, zsh h v with
      | some (k, n), some (kv, _) => if 16 ≤ k ∧ k ≤ 20 ∧ zin i n = true ∧ zrc k = kv then zgo (pc + len) ls st (zsR h a i.toNatClampNeg (some v)) else none
      | _, _ => none)
    | _ => none)
  | .arraylength => (match st with
    | .inr (.inr (some a)) :: st => (match zlen scr h a with
      | some v => zgo (pc + len) ls (.inl v :: st) h
      | none => none)
    | _ => none)
  | .new k => (match zcls m.2.1 k with
    | some ci => if ci < 13 then (if h.2.2.2.2 = 0 ∧ h.1.1 < 900000 then zgo (pc + len) ls (.inr (.inr (some h.1.1)) :: st) (znew h ci (zft ci).length) else none) else (if st = [] ∧ m.2.2.2.2.1 = yX11_led ∧ pc = 45 ∧ h.2.2.2.2 < 1000 then some (.inr (some (.inr (.inl (-1))), zthr h)) else none)
    | none => none)
  | .newarray t => (match st with
    | .inl n :: st => if h.2.2.2.2 = 0 ∧ h.1.1 < 900000 ∧ ¬ n < 0 ∧ n.toNatClampNeg ≤ 100000 then (match t with
      | .byte => zgo (pc + len) ls (.inr (.inr (some h.1.1)) :: st) (znew h 13 n.toNatClampNeg)
      | .int => zgo (pc + len) ls (.inr (.inr (some h.1.1)) :: st) (znew h 14 n.toNatClampNeg)
      | .long => zgo (pc + len) ls (.inr (.inr (some h.1.1)) :: st) (znew h 15 n.toNatClampNeg)
      | _ => none) else none
    | _ => none)
  | .anewarray k => (match st with
    | .inl n :: st => if h.2.2.2.2 = 0 ∧ h.1.1 < 900000 ∧ ¬ n < 0 ∧ n.toNatClampNeg ≤ 100000 then (match zcls m.2.1 k with
      | some ci => if 16 ≤ zak ci ∧ zak ci ≤ 20 then zgo (pc + len) ls (.inr (.inr (some h.1.1)) :: st) (znew h (zak ci) n.toNatClampNeg) else none
      | none => none) else none
    | _ => none)
  | .dup => (match st with
    | v :: st => if zcat v = 1 then zgo (pc + len) ls (v :: v :: st) h else none
    | _ => none)
  | .dup2 => (match st with
    | v :: w :: st => if zcat v = 1 ∧ zcat w = 1 then zgo (pc + len) ls (v :: w :: v :: w :: st) h else none
    | _ => none)
  | .pop => (match st with
    | v :: st => if zcat v = 1 then zgo (pc + len) ls st h else none
    | _ => none)
  | .pop2 => (match st with
    | v :: st => if zcat v = 2 then zgo (pc + len) ls st h else none
    | _ => none)
  | .invokevirtual k => (match zmth m.2.1 k with
    | some (kd, na, cm) => if kd = 0 then zcall call cm kd na pc ls st h else none
    | none => none)
  | .invokestatic k => (match zmth m.2.1 k with
    | some (kd, na, cm) => if kd = 1 ∨ kd = 3 then zcall call cm kd na pc ls st h else if kd = 16 then (if scr.isSome = true ∧ deep = true then zled call pc ls st h else none) else if kd = 10 then none else zprim deep kd pc ls st h
    | none => none)
  | .invokespecial k => (match zmth m.2.1 k with
    | some (kd, na, cm) => if kd = 2 ∨ kd = 4 then zcall call cm kd na pc ls st h else if kd = 10 then zprim deep kd pc ls st h else none
    | none => none)
  | .ireturn => (match st with
    | [.inl x] => (match m.2.2.2.1 with
      | some ty => if narrow ty (.int x) = .int x then some (.inr (some (.inl x), h)) else none
      | none => none)
    | _ => none)
  | .lreturn => (match st with
    | [.inr (.inl x)] => if m.2.2.2.1 = some .long then some (.inr (some (.inr (.inl x)), h)) else none
    | _ => none)
  | .return_ => (match st with
    | [] => if m.2.2.2.1 = none then some (.inr (none, h)) else none
    | _ => none)
  | i => zarith i len pc ls st h
/-- how long an instruction is (0: not asked) -/
def zilen (i : Instr) : Nat := match i with
  | .bipush _ => 2
  | .iload _ => 2
  | .lload _ => 2
  | .aload _ => 2
  | .istore _ => 2
  | .lstore _ => 2
  | .astore _ => 2
  | .ldc _ => 2
  | .newarray _ => 2
  | .sipush _ => 3
  | .ldc_w _ => 3
  | .ldc2_w _ => 3
  | .iinc _ _ => 3
  | .ifCond _ _ => 3
  | .if_icmp _ _ => 3
  | .goto _ => 3
  | .getfield _ => 3
  | .putfield _ => 3
  | .invokevirtual _ => 3
  | .invokestatic _ => 3
  | .invokespecial _ => 3
  | .new _ => 3
  | .anewarray _ => 3
  | .tableswitch _ _ _ _ => 0
  | _ => 1
def zstep (scr : Option (Nat × (Nat → Int32))) (call : zM → List zV → zH → Option zR) (deep : Bool) (m : zM) (c : zC) : Option (zC ⊕ zR) := match decode m.1 c.1 with
  | .ok (i, len) => if zilen i = 0 ∨ len = zilen i then zexec scr call deep m i len c.1 c.2.1 c.2.2.1 c.2.2.2 else none
  | .error _ => none
def zrun : Nat → Option (Nat × (Nat → Int32)) → Nat → zM → zC → Option zR
  | 0, _, _, _, _ => none
  | n + 1, scr, d, m, c => (match zstep scr (fun k vs h => (match d with
      | 0 => none
      | d' + 1 => if zwd vs ≤ k.2.2.1 then zrun n none d' k (0, zargs 0 vs, [], h) else none)) (decide (0 < d)) m c with
    | some (.inl c') => zrun n scr d m c'
    | some (.inr r) => some r
    | none => none)
end
section
/-! THE SMALL MACHINE OVER THE LARGE ONE: the world of a small heap -/
def zad (B : Nat) (sp : Nat → Nat) (a : Nat) : Nat := if a < 1000000 then B + a else sp a
def zcv (B : Nat) (sp : Nat → Nat) (v : zV) : Value := match v with
  | .inl x => .int x
  | .inr (.inl x) => .long x
  | .inr (.inr r) => va_rf (r.map (zad B sp))
def zE (B : Nat) (sp : Nat → Nat) (cA : Nat → ClassId) (h : zH) (a kind len : Nat) : va_E :=
  if kind < 13 then .inr (kind, (List.range (zft kind).length).map (fun f => zcv B sp (zfv h kind a f)))
  else if kind < 15 then .inl (cA kind, len, .inl (h.2.1 a))
  else if kind = 15 then .inl (cA kind, len, .inr (.inl (h.2.2.1 a)))
  else .inl (cA kind, len, .inr (.inr (.inr (.inr (fun k => (h.2.2.2.1 a k).map (zad B sp))))))
def zW (B : Nat) (sp : Nat → Nat) (cA : Nat → ClassId) (h : zH) : va_W := (List.range h.1.1).map (fun a => (B + a, zE B sp cA h a (h.1.2.1 a).1 (h.1.2.1 a).2))
def zAr (B : Nat) : Nat → Prop := fun q => B ≤ q
def zok (h : zH) : Prop := h.1.1 ≤ 900000 ∧ ∀ (a : Nat) (q : Nat × Nat), zsh h a = some q → q.1 ≤ 20
def ztys (cA : Nat → ClassId) : List (ClassId × FieldType) := [(cA 13, .byte), (cA 14, .int), (cA 15, .long), (cA 16, .object RX0), (cA 17, .object RX2), (cA 18, .object RX8), (cA 19, .object RX9), (cA 20, .object RX10)]
def zRel (B : Nat) (sp : Nat → Nat) (cA : Nat → ClassId) (D : va_G) (h : zH) (H : Heap) : Prop := va_P D vwCl (zW B sp cA h) H ∧ zok h ∧ (h.2.2.2.2 = 0 → H.size = B + h.1.1)
section ZW
variable {B : Nat} {sp : Nat → Nat} {cA : Nat → ClassId} {D : va_G} {h h' : zH} {H : Heap}
theorem zsh_lt {a : Nat} {q : Nat × Nat} (hq : zsh h a = some q) : a < h.1.1 := by
  unfold zsh at hq
  split at hq
  · next q => exact q
  · cases hq
theorem zsh_eq {a : Nat} {q : Nat × Nat} (hq : zsh h a = some q) : h.1.2.1 a = q := by
  unfold zsh at hq
  split at hq
  · cases hq; rfl
  · cases hq
theorem zW_get {a : Nat} {q : Nat × Nat} (hq : zsh h a = some q) : (zW B sp cA h)[a]? = some (B + a, zE B sp cA h a q.1 q.2) := by
  have h1 := zsh_lt hq
  have h2 := zsh_eq hq
  simp [zW, h1, h2]
theorem zW_some {a : Nat} {x : Nat × va_E} (hq : (zW B sp cA h)[a]? = some x) : ∃ q : Nat × Nat, zsh h a = some q ∧ x = (B + a, zE B sp cA h a q.1 q.2) := by
  simp only [zW, List.getElem?_map, Option.map_eq_some_iff] at hq
  obtain ⟨b, h1, h2⟩ := hq
  have hl : a < h.1.1 := by simpa using (List.getElem?_eq_some_iff.mp h1).1
  have hb : b = a := by
    have := (List.getElem?_eq_some_iff.mp h1).2
    simpa using this.symm
  subst hb
  exact ⟨h.1.2.1 b, by unfold zsh; rw [if_pos hl], h2.symm⟩
theorem zW_len : (zW B sp cA h).length = h.1.1 := by simp [zW]
theorem zW_D : va_D (zAr B) (zW B sp cA h) := by
  refine ⟨fun i j x y hi hj hxy => ?_, fun k q hk => ?_⟩
  · obtain ⟨q1, -, rfl⟩ := zW_some hi
    obtain ⟨q2, -, rfl⟩ := zW_some hj
    have : B + i = B + j := hxy
    omega
  · obtain ⟨q1, -, rfl⟩ := zW_some hk
    exact Nat.le_add_right B k
/-- one cell has changed -/
theorem zW_set {a k n : Nat} (hq : zsh h a = some (k, n)) (h1 : h'.1 = h.1) (ho : ∀ b, b ≠ a → ∀ k n, zE B sp cA h' b k n = zE B sp cA h b k n) : zW B sp cA h' = (zW B sp cA h).set a (B + a, zE B sp cA h' a k n) := by
  have hla := zsh_lt hq
  have hea := zsh_eq hq
  refine List.ext_getElem? fun i => ?_
  by_cases hi : i = a
  · subst hi
    rw [List.getElem?_set_self (by rw [zW_len]; exact hla)]
    simp [zW, h1, hla, hea]
  · rw [List.getElem?_set_ne (Ne.symm hi)]
    by_cases hl : i < h.1.1
    · simp [zW, h1, hl, ho i hi]
    · simp [zW, h1, hl]
/-- one cell more -/
theorem zW_new {k n : Nat} (ho : ∀ b, b < h.1.1 → ∀ k0 n0, zE B sp cA (znew h k n) b k0 n0 = zE B sp cA h b k0 n0) : zW B sp cA (znew h k n) = zW B sp cA h ++ [(B + h.1.1, zE B sp cA (znew h k n) h.1.1 k n)] := by
  unfold zW
  have e1 : (znew h k n).1.1 = h.1.1 + 1 := rfl
  rw [e1, List.range_succ, List.map_append]
  congr 1
  · refine List.map_congr_left fun a ha => ?_
    have hl : a < h.1.1 := List.mem_range.mp ha
    have e2 : (znew h k n).1.2.1 a = h.1.2.1 a := by simp [znew, Nat.ne_of_lt hl]
    rw [e2, ho a hl]
  · simp [znew]
theorem zfv_I {b a k ci f : Nat} {v : Int32} (hb : b ≠ a) : zfv (zsI h a k v) ci b f = zfv h ci b f := by simp [zfv, zsI, zup, hb]
theorem zE_sI {b a k kd n : Nat} {v : Int32} (hb : b ≠ a) : zE B sp cA (zsI h a k v) b kd n = zE B sp cA h b kd n := by
  have e : (fun j => (zsI h a k v).2.1 b j) = (fun j => h.2.1 b j) := by funext j; simp [zsI, zup, hb]
  have e2 : (zsI h a k v).2.1 b = h.2.1 b := e
  unfold zE
  simp only [zfv_I hb, e2]
  rfl
theorem zE_sR {b a k kd n : Nat} {v : Option Nat} (hb : b ≠ a) : zE B sp cA (zsR h a k v) b kd n = zE B sp cA h b kd n := by
  have e : ∀ j, (zsR h a k v).2.2.2.1 b j = h.2.2.2.1 b j := fun j => by simp [zsR, zup, hb]
  have e1 : ∀ ci f, zfv (zsR h a k v) ci b f = zfv h ci b f := fun ci f => by unfold zfv; rw [e]; rfl
  unfold zE
  simp only [e1, e]
  rfl
theorem zE_sL {b a k kd n : Nat} {v : Int64} (hb : b ≠ a) : zE B sp cA (zsL h a k v) b kd n = zE B sp cA h b kd n := by
  have e : (zsL h a k v).2.2.1 b = h.2.2.1 b := by funext j; simp [zsL, zup, hb]
  unfold zE
  simp only [e]
  rfl
theorem zE_sRow {b a kd n : Nat} {g : Nat → Int32} (hb : b ≠ a) : zE B sp cA (zsRow h a g) b kd n = zE B sp cA h b kd n := by
  have e2 : (zsRow h a g).2.1 b = h.2.1 b := by funext j; simp [zsRow, zrow, hb]
  have e1 : ∀ ci f, zfv (zsRow h a g) ci b f = zfv h ci b f := fun ci f => by unfold zfv; rw [e2]; rfl
  unfold zE
  simp only [e1, e2]
  rfl
theorem zE_new {b kd n k0 n0 : Nat} (hb : b < h.1.1) : zE B sp cA (znew h k0 n0) b kd n = zE B sp cA h b kd n := by
  have hb' : b ≠ h.1.1 := by omega
  have e2 : (znew h k0 n0).2.1 b = h.2.1 b := by funext j; simp [znew, zrow, hb']
  have e3 : (znew h k0 n0).2.2.1 b = h.2.2.1 b := by funext j; simp [znew, zrow, hb']
  have e4 : (znew h k0 n0).2.2.2.1 b = h.2.2.2.1 b := by funext j; simp [znew, zrow, hb']
  have e1 : ∀ ci f, zfv (znew h k0 n0) ci b f = zfv h ci b f := fun ci f => by unfold zfv; rw [e2, e4]
  unfold zE
  simp only [e1, e2, e3, e4]
theorem zcv_rf (r : Option Nat) : zcv B sp (.inr (.inr r)) = va_rf (r.map (zad B sp)) := rfl
theorem zcv_ref {a : Nat} (ha : a < 1000000) : zcv B sp (.inr (.inr (some a))) = .ref (B + a) := by
  show va_rf (some (zad B sp a)) = _
  rw [zad, if_pos ha]
  rfl
theorem zcat_cv (v : zV) : (zcv B sp v).category = zcat v := by
  match v with
  | .inl x => rfl
  | .inr (.inl x) => rfl
  | .inr (.inr none) => rfl
  | .inr (.inr (some a)) => rfl
theorem zwd_cv (vs : List zV) : ((vs.map (zcv B sp)).map fun v => v.category).sum = zwd vs := by
  rw [List.map_map]
  exact congrArg List.sum (List.map_congr_left fun v _ => zcat_cv v)
/-- locals -/
def zlv (B : Nat) (sp : Nat → Nat) (ls : zL) : List (Nat × Value) := ls.map (fun q => (q.1, zcv B sp q.2))
theorem zget_mem {ls : zL} {i : Nat} {v : zV} (hg : zget ls i = some v) : (i, v) ∈ ls := by
  induction ls with
  | nil => cases hg
  | cons q t ih =>
    unfold zget at hg
    split at hg
    · next e => cases hg; subst e; exact List.mem_cons_self
    · exact List.mem_cons_of_mem _ (ih hg)
theorem zget_at {ls : zL} {i n : Nat} {v : zV} {lA : Array Slot} (hl : lv_has lA n (zlv B sp ls)) (hg : zget ls i = some v) : lA[i]? = some (.val (zcv B sp v)) :=
  hl.2.2 (i, zcv B sp v) (List.mem_map.mpr ⟨(i, v), zget_mem hg, rfl⟩)
theorem zget_place {ls : zL} {i : Nat} {v : zV} (hg : zget ls i = some v) : ∃ k : Nat, (zlv B sp ls)[k]? = some (i, zcv B sp v) :=
  List.getElem?_of_mem (List.mem_map.mpr ⟨(i, v), zget_mem hg, rfl⟩)
theorem zset1_lv {ls : zL} {i : Nat} {v : zV} : (i, zcv B sp v) :: (zlv B sp ls).filter (fun q => !(q.1 == i) && !(q.1 + 1 == i && q.2.category == 2)) = zlv B sp (zset1 ls i v) := by
  show _ = (i, zcv B sp v) :: zlv B sp (ls.filter _)
  congr 1
  unfold zlv
  rw [List.filter_map]
  refine congrArg _ (List.filter_congr fun q _ => ?_)
  simp [zcat_cv]
theorem zset2_lv {ls : zL} {i : Nat} {v : zV} : (i, zcv B sp v) :: (zlv B sp ls).filter (fun q => !(q.1 == i) && (!(q.1 == i + 1) && !(q.1 + 1 == i && q.2.category == 2))) = zlv B sp (zset2 ls i v) := by
  show _ = (i, zcv B sp v) :: zlv B sp (ls.filter _)
  congr 1
  unfold zlv
  rw [List.filter_map]
  refine congrArg _ (List.filter_congr fun q _ => ?_)
  simp [zcat_cv]
theorem zargs_lv (vs : List zV) : ∀ i : Nat, lv_args i (vs.map (zcv B sp)) = zlv B sp (zargs i vs) := by
  induction vs with
  | nil => intro i; rfl
  | cons v vs ih =>
    intro i
    show (i, zcv B sp v) :: lv_args (if (zcv B sp v).category = 2 then i + 2 else i + 1) (vs.map (zcv B sp)) = (i, zcv B sp v) :: zlv B sp (zargs (if zcat v = 2 then i + 2 else i + 1) vs)
    rw [zcat_cv, ih]
end ZW
end
section
/-! the context of a method of the small machine, and the judgement at one of its states -/
def zws : List Cond := lw_tbl.filter goodWord
def zwsM (mi : zM) : List Cond := Cond.code mi.2.2.2.2.1 mi.1 mi.2.2.1 mi.2.2.2.1 :: zws
def zc (h : zH) : Nat := h.1.1 + h.2.2.2.2
def zt (h : zH) : Nat := h.1.2.2 + 6 * h.2.2.2.2
def zCx (B : Nat) (sp : Nat → Nat) (cA : Nat → ClassId) (D : va_G) (U : State) : Prop :=
  va_K D vwCl (ztys cA) U ∧ (∀ q ∈ znm, va_Nw (.methodLinkNest (zRn q.1) q.2.1 q.2.2.1.2.2.2.2.1 q.2.2.2.1) U) ∧ (∀ q ∈ zsr, vk_R (zRn q.1) q.2.1 q.2.2.1 (sp q.2.2.2.1) U) ∧ (∀ k, 16 ≤ k → k ≤ 20 → va_AO (zRn (zrc k)) U) ∧ B ≤ U.heap.size
theorem zCx.warm {B : Nat} {sp : Nat → Nat} {cA : Nat → ClassId} {D : va_G} {s U : State} (h : zCx B sp cA D s) (hW : s.WarmedH U.vm) (hB : B ≤ U.heap.size) : zCx B sp cA D U :=
  ⟨va_K.moved hW.alike h.1, fun q hq => va_Nw.warmM hW (h.2.1 q hq), fun q hq => vk_R.warm hW (h.2.2.1 q hq), fun k h1 h2 => va_AO.moved hW.alike (h.2.2.2.1 k h1 h2), hB⟩
def zX (p : Program) (s : State) (m : MethodId) (args : Array Value) (meth : Method) (c : Code) (B : Nat) (sp : Nat → Nat) (cA : Nat → ClassId) (D : va_G) (mi : zM) : Prop :=
  p.tables.exec = Jvm.exec ∧ c.code = mi.1 ∧ c.maxLocals = mi.2.2.1 ∧ s.vm.findClass (zRn mi.2.1) = some m.cls ∧ (∀ w ∈ zws, w.before args s = true) ∧ (mi.2.2.2.2.2 = true → meth.name = "<init>") ∧ zCx B sp cA D s
def zK (p : Program) (l : Launch) (e : Env) (R : Room) (s : State) (m : MethodId) (args : Array Value) (below : List Frame) (meth : Method) (c : Code) (Q : State → Prop) (B : Nat) (sp : Nat → Nat) (cA : Nat → ClassId) (D : va_G) (mi : zM) (c0 s0 : Nat) (g : zC) : Prop :=
  ∀ (H : Heap) (locs : List Loc) (lA : Array Slot) (cells slots : Nat), zRel B sp cA D g.2.2.2 H → va_S (zAr B) s.heap H locs → lv_has lA mi.2.2.1 (zlv B sp g.2.1) → c0 + cells = zc g.2.2.2 → s0 + slots = zt g.2.2.2 →
    W p l e R s m args below meth c H locs cells slots Q (F0 m g.1 lA (g.2.2.1.map (zcv B sp)))
section ZS
variable {p : Program} {l : Launch} {e : Env} {R : Room} {s : State} {m : MethodId} {args : Array Value} {below : List Frame} {meth : Method} {c : Code} {Q : State → Prop} {B : Nat} {sp : Nat → Nat} {cA : Nat → ClassId} {D : va_G} {mi : zM} {c0 s0 : Nat}
variable {pc len : Nat} {ls : zL} {st : List zV} {h : zH}
theorem zs_iconst {n : Int} (cx : zX p s m args meth c B sp cA D mi) (hd : decode mi.1 pc = .ok (.iconst n, 1)) (k : zK p l e R s m args below meth c Q B sp cA D mi c0 s0 (pc + 1, ls, .inl (Int32.ofInt n) :: st, h)) : zK p l e R s m args below meth c Q B sp cA D mi c0 s0 (pc, ls, st, h) :=
  fun H locs lA cells slots hR hS hl h1 h2 => lv_iconst cx.1 cx.2.1 hd rfl (k H locs lA cells slots hR hS hl h1 h2)
theorem zs_bipush {n : Int} (cx : zX p s m args meth c B sp cA D mi) (hd : decode mi.1 pc = .ok (.bipush n, 2)) (k : zK p l e R s m args below meth c Q B sp cA D mi c0 s0 (pc + 2, ls, .inl (Int8.ofInt n).toInt32 :: st, h)) : zK p l e R s m args below meth c Q B sp cA D mi c0 s0 (pc, ls, st, h) :=
  fun H locs lA cells slots hR hS hl h1 h2 => lv_bipush cx.1 cx.2.1 hd rfl (k H locs lA cells slots hR hS hl h1 h2)
theorem zs_sipush {n : Int} (cx : zX p s m args meth c B sp cA D mi) (hd : decode mi.1 pc = .ok (.sipush n, 3)) (k : zK p l e R s m args below meth c Q B sp cA D mi c0 s0 (pc + 3, ls, .inl (Int16.ofInt n).toInt32 :: st, h)) : zK p l e R s m args below meth c Q B sp cA D mi c0 s0 (pc, ls, st, h) :=
  fun H locs lA cells slots hR hS hl h1 h2 => lv_sipush cx.1 cx.2.1 hd rfl (k H locs lA cells slots hR hS hl h1 h2)
theorem zs_lconst {n : Fin 2} (cx : zX p s m args meth c B sp cA D mi) (hd : decode mi.1 pc = .ok (.lconst n, 1)) (k : zK p l e R s m args below meth c Q B sp cA D mi c0 s0 (pc + 1, ls, .inr (.inl (Int64.ofNat (n : Nat))) :: st, h)) : zK p l e R s m args below meth c Q B sp cA D mi c0 s0 (pc, ls, st, h) :=
  fun H locs lA cells slots hR hS hl h1 h2 => lv_lconst cx.1 cx.2.1 hd rfl (k H locs lA cells slots hR hS hl h1 h2)
/-- loads -/
theorem zs_load {i : Instr} {so j : Nat} {g : zC} (cx : zX p s m args meth c B sp cA D mi) (hd : decode mi.1 pc = .ok (i, len)) (hi : (i = .iload j ∧ len = 2 ∧ so = 0) ∨ (∃ f : Fin 4, i = .iload_n f ∧ (f : Nat) = j ∧ len = 1 ∧ so = 0) ∨ (i = .lload j ∧ len = 2 ∧ so = 1) ∨ (∃ f : Fin 4, i = .lload_n f ∧ (f : Nat) = j ∧ len = 1 ∧ so = 1) ∨ (i = .aload j ∧ len = 2 ∧ so = 2) ∨ (∃ f : Fin 4, i = .aload_n f ∧ (f : Nat) = j ∧ len = 1 ∧ so = 2))
    (hz : zload so j len pc ls st h = some (.inl g)) (k : zK p l e R s m args below meth c Q B sp cA D mi c0 s0 g) : zK p l e R s m args below meth c Q B sp cA D mi c0 s0 (pc, ls, st, h) := by
  intro H locs lA cells slots hR hS hl h1 h2
  unfold zload at hz
  split at hz
  · next x hg =>
    split at hz
    · next hso =>
      subst hso
      cases hz
      have k' := k H locs lA cells slots hR hS hl h1 h2
      have ha := zget_at hl hg
      rcases hi with ⟨rfl, rfl, -⟩ | ⟨f, rfl, rfl, rfl, -⟩ | ⟨-, -, q⟩ | ⟨f, -, -, -, q⟩ | ⟨-, -, q⟩ | ⟨f, -, -, -, q⟩
      · exact lv_iload cx.1 cx.2.1 hd ha k'
      · exact lv_iload_n cx.1 cx.2.1 hd rfl ha k'
      all_goals cases q
    · cases hz
  · next x hg =>
    split at hz
    · next hso =>
      subst hso
      cases hz
      have k' := k H locs lA cells slots hR hS hl h1 h2
      have ha := zget_at hl hg
      rcases hi with ⟨-, -, q⟩ | ⟨f, -, -, -, q⟩ | ⟨rfl, rfl, -⟩ | ⟨f, rfl, rfl, rfl, -⟩ | ⟨-, -, q⟩ | ⟨f, -, -, -, q⟩
      · cases q
      · cases q
      · exact lv_lload cx.1 cx.2.1 hd ha k'
      · exact lv_lload_n cx.1 cx.2.1 hd rfl ha k'
      all_goals cases q
    · cases hz
  · next x hg =>
    split at hz
    · next hso =>
      subst hso
      cases hz
      have k' := k H locs lA cells slots hR hS hl h1 h2
      have ha := zget_at hl hg
      rcases hi with ⟨-, -, q⟩ | ⟨f, -, -, -, q⟩ | ⟨-, -, q⟩ | ⟨f, -, -, -, q⟩ | ⟨rfl, rfl, -⟩ | ⟨f, rfl, rfl, rfl, -⟩
      · cases q
      · cases q
      · cases q
      · cases q
      · exact lv_aload cx.1 cx.2.1 hd ha k'
      · exact lv_aload_n cx.1 cx.2.1 hd rfl ha k'
    · cases hz
  · cases hz
/-- stores -/
theorem zs_store {i : Instr} {so j : Nat} {g : zC} (cx : zX p s m args meth c B sp cA D mi) (hd : decode mi.1 pc = .ok (i, len)) (hi : (i = .istore j ∧ len = 2 ∧ so = 0) ∨ (∃ f : Fin 4, i = .istore_n f ∧ (f : Nat) = j ∧ len = 1 ∧ so = 0) ∨ (i = .lstore j ∧ len = 2 ∧ so = 1) ∨ (∃ f : Fin 4, i = .lstore_n f ∧ (f : Nat) = j ∧ len = 1 ∧ so = 1) ∨ (i = .astore j ∧ len = 2 ∧ so = 2) ∨ (∃ f : Fin 4, i = .astore_n f ∧ (f : Nat) = j ∧ len = 1 ∧ so = 2))
    (hz : zstore mi so j len pc ls st h = some (.inl g)) (k : zK p l e R s m args below meth c Q B sp cA D mi c0 s0 g) : zK p l e R s m args below meth c Q B sp cA D mi c0 s0 (pc, ls, st, h) := by
  intro H locs lA cells slots hR hS hl h1 h2
  unfold zstore at hz
  split at hz
  · next x st' =>
    split at hz
    · next hso =>
      obtain ⟨rfl, hj⟩ := hso
      cases hz
      have k' := fun lA' hl' => k H locs lA' cells slots hR hS hl' h1 h2
      rcases hi with ⟨rfl, rfl, -⟩ | ⟨f, rfl, rfl, rfl, -⟩ | ⟨-, -, q⟩ | ⟨f, -, -, -, q⟩ | ⟨-, -, q⟩ | ⟨f, -, -, -, q⟩
      · exact lv_istore cx.1 cx.2.1 hd hl hj (zset1_lv (v := .inl x)) k'
      · exact lv_istore_n cx.1 cx.2.1 hd rfl hl hj (zset1_lv (v := .inl x)) k'
      all_goals cases q
    · cases hz
  · next x st' =>
    split at hz
    · next hso =>
      obtain ⟨rfl, hj⟩ := hso
      cases hz
      have k' := fun lA' hl' => k H locs lA' cells slots hR hS hl' h1 h2
      rcases hi with ⟨-, -, q⟩ | ⟨f, -, -, -, q⟩ | ⟨rfl, rfl, -⟩ | ⟨f, rfl, rfl, rfl, -⟩ | ⟨-, -, q⟩ | ⟨f, -, -, -, q⟩
      · cases q
      · cases q
      · exact lv_lstore cx.1 cx.2.1 hd hl hj (zset2_lv (v := .inr (.inl x))) k'
      · exact lv_lstore_n cx.1 cx.2.1 hd rfl hl hj (zset2_lv (v := .inr (.inl x))) k'
      all_goals cases q
    · cases hz
  · next x st' =>
    split at hz
    · next hso =>
      obtain ⟨rfl, hj⟩ := hso
      cases hz
      have k' := fun lA' hl' => k H locs lA' cells slots hR hS hl' h1 h2
      rcases hi with ⟨-, -, q⟩ | ⟨f, -, -, -, q⟩ | ⟨-, -, q⟩ | ⟨f, -, -, -, q⟩ | ⟨rfl, rfl, -⟩ | ⟨f, rfl, rfl, rfl, -⟩
      · cases q
      · cases q
      · cases q
      · cases q
      · exact lv_astore cx.1 cx.2.1 hd hl hj (zset1_lv (v := .inr (.inr (some x)))) k'
      · exact lv_astore_n cx.1 cx.2.1 hd rfl hl hj (zset1_lv (v := .inr (.inr (some x)))) k'
    · cases hz
  · cases hz
theorem zs_iinc {j : Nat} {n : Int} {x : Int32} (cx : zX p s m args meth c B sp cA D mi) (hd : decode mi.1 pc = .ok (.iinc j n, 3)) (hg : zget ls j = some (.inl x)) (hj : j < mi.2.2.1) (k : zK p l e R s m args below meth c Q B sp cA D mi c0 s0 (pc + 3, zset1 ls j (.inl (x + Int32.ofInt n)), st, h)) : zK p l e R s m args below meth c Q B sp cA D mi c0 s0 (pc, ls, st, h) := by
  intro H locs lA cells slots hR hS hl h1 h2
  obtain ⟨q, hq⟩ := zget_place (B := B) (sp := sp) hg
  exact lv_iinc cx.1 cx.2.1 hd hl hq rfl hj (zset1_lv (v := .inl (x + Int32.ofInt n))) (fun lA' hl' => k H locs lA' cells slots hR hS hl' h1 h2)
/-- two ints to one -/
theorem zs_bin {i : Instr} {x y v : Int32} (cx : zX p s m args meth c B sp cA D mi) (hd : decode mi.1 pc = .ok (i, 1)) (hz : zbin i x y = some v) (k : zK p l e R s m args below meth c Q B sp cA D mi c0 s0 (pc + 1, ls, .inl v :: st, h)) : zK p l e R s m args below meth c Q B sp cA D mi c0 s0 (pc, ls, .inl y :: .inl x :: st, h) := by
  intro H locs lA cells slots hR hS hl h1 h2
  have k' := k H locs lA cells slots hR hS hl h1 h2
  unfold zbin at hz
  split at hz
  · cases hz; exact lv_iadd cx.1 cx.2.1 hd k'
  · cases hz; exact lv_isub cx.1 cx.2.1 hd k'
  · cases hz; exact lv_imul cx.1 cx.2.1 hd k'
  · cases hz; exact lv_iand cx.1 cx.2.1 hd k'
  · cases hz; exact lv_ior cx.1 cx.2.1 hd k'
  · cases hz; exact lv_ixor cx.1 cx.2.1 hd k'
  · cases hz; exact lv_ishl cx.1 cx.2.1 hd k'
  · cases hz; exact lv_ishr cx.1 cx.2.1 hd k'
  · cases hz; exact lv_iushr cx.1 cx.2.1 hd rfl k'
  · split at hz
    · cases hz
    · next hy => cases hz; exact lv_idiv cx.1 cx.2.1 hd hy k'
  · split at hz
    · cases hz
    · next hy => cases hz; exact lv_irem cx.1 cx.2.1 hd hy k'
  · cases hz
theorem zs_un {i : Instr} {x : Int32} {v : zV} (cx : zX p s m args meth c B sp cA D mi) (hd : decode mi.1 pc = .ok (i, 1)) (hz : zun i x = some v) (k : zK p l e R s m args below meth c Q B sp cA D mi c0 s0 (pc + 1, ls, v :: st, h)) : zK p l e R s m args below meth c Q B sp cA D mi c0 s0 (pc, ls, .inl x :: st, h) := by
  intro H locs lA cells slots hR hS hl h1 h2
  have k' := k H locs lA cells slots hR hS hl h1 h2
  unfold zun at hz
  split at hz
  · cases hz; exact lv_ineg cx.1 cx.2.1 hd k'
  · cases hz; exact lv_i2b cx.1 cx.2.1 hd rfl k'
  · cases hz; exact lv_i2c cx.1 cx.2.1 hd rfl k'
  · cases hz; exact lv_i2l cx.1 cx.2.1 hd rfl k'
  · cases hz
theorem zs_lbin {i : Instr} {x y : Int64} {v : zV} (cx : zX p s m args meth c B sp cA D mi) (hd : decode mi.1 pc = .ok (i, 1)) (hz : zlbin i x y = some v) (k : zK p l e R s m args below meth c Q B sp cA D mi c0 s0 (pc + 1, ls, v :: st, h)) : zK p l e R s m args below meth c Q B sp cA D mi c0 s0 (pc, ls, .inr (.inl y) :: .inr (.inl x) :: st, h) := by
  intro H locs lA cells slots hR hS hl h1 h2
  have k' := k H locs lA cells slots hR hS hl h1 h2
  unfold zlbin at hz
  split at hz
  · cases hz; exact lv_lor cx.1 cx.2.1 hd k'
  · cases hz; exact W.lcmp cx.1 cx.2.1 hd k'
  · split at hz
    · cases hz
    · next hy => cases hz; exact lv_ldiv cx.1 cx.2.1 hd hy k'
  · split at hz
    · cases hz
    · next hy => cases hz; exact lv_lrem cx.1 cx.2.1 hd hy k'
  · cases hz
theorem zs_lshl {x : Int64} {y : Int32} (cx : zX p s m args meth c B sp cA D mi) (hd : decode mi.1 pc = .ok (.lshl, 1)) (k : zK p l e R s m args below meth c Q B sp cA D mi c0 s0 (pc + 1, ls, .inr (.inl (x <<< (y.toInt64 &&& 63))) :: st, h)) : zK p l e R s m args below meth c Q B sp cA D mi c0 s0 (pc, ls, .inl y :: .inr (.inl x) :: st, h) :=
  fun H locs lA cells slots hR hS hl h1 h2 => lv_lshl cx.1 cx.2.1 hd rfl (k H locs lA cells slots hR hS hl h1 h2)
/-- jumps -/
theorem zjump_at {off : Int} {g : zC} (hz : zjump pc off ls st h = some (.inl g)) : (pc : Int) + off = ((g.1 : Nat) : Int) ∧ g = (g.1, ls, st, h) := by
  unfold zjump at hz
  split at hz
  · next h0 =>
    cases hz
    exact ⟨(Int.toNat_of_nonneg h0).symm, rfl⟩
  · cases hz
theorem zs_goto {off : Int} {g : zC} (cx : zX p s m args meth c B sp cA D mi) (hd : decode mi.1 pc = .ok (.goto off, 3)) (hz : zjump pc off ls st h = some (.inl g)) (k : zK p l e R s m args below meth c Q B sp cA D mi c0 s0 g) : zK p l e R s m args below meth c Q B sp cA D mi c0 s0 (pc, ls, st, h) := by
  obtain ⟨e1, e2⟩ := zjump_at hz
  rw [e2] at k
  exact fun H locs lA cells slots hR hS hl h1 h2 => lv_goto cx.1 cx.2.1 hd e1 (k H locs lA cells slots hR hS hl h1 h2)
theorem zs_if {cd : ClassFile.Cond} {off : Int} {x : Int32} {g : zC} (cx : zX p s m args meth c B sp cA D mi) (hd : decode mi.1 pc = .ok (.ifCond cd off, 3)) (hz : zbr (zcond cd x 0) pc 3 off ls st h = some (.inl g)) (k : zK p l e R s m args below meth c Q B sp cA D mi c0 s0 g) : zK p l e R s m args below meth c Q B sp cA D mi c0 s0 (pc, ls, .inl x :: st, h) := by
  intro H locs lA cells slots hR hS hl h1 h2
  unfold zbr at hz
  split at hz
  · next h0 =>
    have e1 : (pc : Int) + off = (((pc : Int) + off).toNat : Int) := (Int.toNat_of_nonneg h0).symm
    by_cases hc : zcond cd x 0 = true
    · rw [if_pos hc] at hz
      cases hz
      have k' := k H locs lA cells slots hR hS hl h1 h2
      cases cd <;> simp only [zcond, decide_eq_true_eq] at hc
      · exact lv_if_eq cx.1 cx.2.1 hd e1 (fun _ => k') (fun q => absurd hc q)
      · exact lv_if_ne cx.1 cx.2.1 hd e1 (fun _ => k') (fun q => absurd q hc)
      · exact lv_if_lt cx.1 cx.2.1 hd e1 (fun _ => k') (fun q => absurd hc q)
      · exact lv_if_ge cx.1 cx.2.1 hd e1 (fun _ => k') (fun q => absurd hc q)
      · exact lv_if_gt cx.1 cx.2.1 hd e1 (fun _ => k') (fun q => absurd hc q)
      · exact lv_if_le cx.1 cx.2.1 hd e1 (fun _ => k') (fun q => absurd hc q)
    · rw [if_neg hc] at hz
      cases hz
      have k' := k H locs lA cells slots hR hS hl h1 h2
      cases cd <;> simp only [zcond, decide_eq_true_eq] at hc
      · exact lv_if_eq cx.1 cx.2.1 hd e1 (fun q => absurd q hc) (fun _ => k')
      · exact lv_if_ne cx.1 cx.2.1 hd e1 (fun q => absurd q hc) (fun _ => k')
      · exact lv_if_lt cx.1 cx.2.1 hd e1 (fun q => absurd q hc) (fun _ => k')
      · exact lv_if_ge cx.1 cx.2.1 hd e1 (fun q => absurd q hc) (fun _ => k')
      · exact lv_if_gt cx.1 cx.2.1 hd e1 (fun q => absurd q hc) (fun _ => k')
      · exact lv_if_le cx.1 cx.2.1 hd e1 (fun q => absurd q hc) (fun _ => k')
  · cases hz
theorem zs_icmp {cd : ClassFile.Cond} {off : Int} {x y : Int32} {g : zC} (cx : zX p s m args meth c B sp cA D mi) (hd : decode mi.1 pc = .ok (.if_icmp cd off, 3)) (hz : zbr (zcond cd x y) pc 3 off ls st h = some (.inl g)) (k : zK p l e R s m args below meth c Q B sp cA D mi c0 s0 g) : zK p l e R s m args below meth c Q B sp cA D mi c0 s0 (pc, ls, .inl y :: .inl x :: st, h) := by
  intro H locs lA cells slots hR hS hl h1 h2
  unfold zbr at hz
  split at hz
  · next h0 =>
    have e1 : (pc : Int) + off = (((pc : Int) + off).toNat : Int) := (Int.toNat_of_nonneg h0).symm
    by_cases hc : zcond cd x y = true
    · rw [if_pos hc] at hz
      cases hz
      have k' := k H locs lA cells slots hR hS hl h1 h2
      cases cd <;> simp only [zcond, decide_eq_true_eq] at hc
      · exact lv_icmp_eq cx.1 cx.2.1 hd e1 (fun _ => k') (fun q => absurd hc q)
      · exact lv_icmp_ne cx.1 cx.2.1 hd e1 (fun _ => k') (fun q => absurd q hc)
      · exact lv_icmp_lt cx.1 cx.2.1 hd e1 (fun _ => k') (fun q => absurd hc q)
      · exact lv_icmp_ge cx.1 cx.2.1 hd e1 (fun _ => k') (fun q => absurd hc q)
      · exact lv_icmp_gt cx.1 cx.2.1 hd e1 (fun _ => k') (fun q => absurd hc q)
      · exact lv_icmp_le cx.1 cx.2.1 hd e1 (fun _ => k') (fun q => absurd hc q)
    · rw [if_neg hc] at hz
      cases hz
      have k' := k H locs lA cells slots hR hS hl h1 h2
      cases cd <;> simp only [zcond, decide_eq_true_eq] at hc
      · exact lv_icmp_eq cx.1 cx.2.1 hd e1 (fun q => absurd q hc) (fun _ => k')
      · exact lv_icmp_ne cx.1 cx.2.1 hd e1 (fun q => absurd q hc) (fun _ => k')
      · exact lv_icmp_lt cx.1 cx.2.1 hd e1 (fun q => absurd q hc) (fun _ => k')
      · exact lv_icmp_ge cx.1 cx.2.1 hd e1 (fun q => absurd q hc) (fun _ => k')
      · exact lv_icmp_gt cx.1 cx.2.1 hd e1 (fun q => absurd q hc) (fun _ => k')
      · exact lv_icmp_le cx.1 cx.2.1 hd e1 (fun q => absurd q hc) (fun _ => k')
  · cases hz
theorem zs_switch {d lo hi : Int} {offs : Array Int} {x : Int32} {g : zC} (cx : zX p s m args meth c B sp cA D mi) (hd : decode mi.1 pc = .ok (.tableswitch d lo hi offs, len)) (hz : (if x.toInt < lo ∨ hi < x.toInt then zjump pc d ls st h else (match offs[(x.toInt - lo).toNat]? with
      | some off => zjump pc off ls st h
      | none => none)) = some (.inl g)) (k : zK p l e R s m args below meth c Q B sp cA D mi c0 s0 g) : zK p l e R s m args below meth c Q B sp cA D mi c0 s0 (pc, ls, .inl x :: st, h) := by
  intro H locs lA cells slots hR hS hl h1 h2
  split at hz
  · next ho =>
    obtain ⟨e1, e2⟩ := zjump_at hz
    rw [e2] at k
    exact lv_tableOut cx.1 cx.2.1 hd ho e1 (k H locs lA cells slots hR hS hl h1 h2)
  · next ho =>
    split at hz
    · next off hoff =>
      obtain ⟨e1, e2⟩ := zjump_at hz
      rw [e2] at k
      exact lv_tableIn cx.1 cx.2.1 hd (fun q => ho (Or.inl q)) (fun q => ho (Or.inr q)) hoff e1 (k H locs lA cells slots hR hS hl h1 h2)
    · cases hz
theorem zs_dup {v : zV} (cx : zX p s m args meth c B sp cA D mi) (hd : decode mi.1 pc = .ok (.dup, 1)) (hv : zcat v = 1) (k : zK p l e R s m args below meth c Q B sp cA D mi c0 s0 (pc + 1, ls, v :: v :: st, h)) : zK p l e R s m args below meth c Q B sp cA D mi c0 s0 (pc, ls, v :: st, h) :=
  fun H locs lA cells slots hR hS hl h1 h2 => lv_dup cx.1 cx.2.1 hd (by rw [zcat_cv]; exact hv) (k H locs lA cells slots hR hS hl h1 h2)
theorem zs_dup2 {v w : zV} (cx : zX p s m args meth c B sp cA D mi) (hd : decode mi.1 pc = .ok (.dup2, 1)) (hv : zcat v = 1) (hw : zcat w = 1) (k : zK p l e R s m args below meth c Q B sp cA D mi c0 s0 (pc + 1, ls, v :: w :: v :: w :: st, h)) : zK p l e R s m args below meth c Q B sp cA D mi c0 s0 (pc, ls, v :: w :: st, h) :=
  fun H locs lA cells slots hR hS hl h1 h2 => lv_dup2_11 cx.1 cx.2.1 hd (by rw [zcat_cv]; exact hv) (by rw [zcat_cv]; exact hw) (k H locs lA cells slots hR hS hl h1 h2)
theorem zs_pop {v : zV} (cx : zX p s m args meth c B sp cA D mi) (hd : decode mi.1 pc = .ok (.pop, 1)) (hv : zcat v = 1) (k : zK p l e R s m args below meth c Q B sp cA D mi c0 s0 (pc + 1, ls, st, h)) : zK p l e R s m args below meth c Q B sp cA D mi c0 s0 (pc, ls, v :: st, h) :=
  fun H locs lA cells slots hR hS hl h1 h2 => lv_pop cx.1 cx.2.1 hd (by rw [zcat_cv]; exact hv) (k H locs lA cells slots hR hS hl h1 h2)
theorem zs_pop2 {v : zV} (cx : zX p s m args meth c B sp cA D mi) (hd : decode mi.1 pc = .ok (.pop2, 1)) (hv : zcat v = 2) (k : zK p l e R s m args below meth c Q B sp cA D mi c0 s0 (pc + 1, ls, st, h)) : zK p l e R s m args below meth c Q B sp cA D mi c0 s0 (pc, ls, v :: st, h) :=
  fun H locs lA cells slots hR hS hl h1 h2 => lv_pop2_2 cx.1 cx.2.1 hd (by rw [zcat_cv]; exact hv) (k H locs lA cells slots hR hS hl h1 h2)
end ZS
end
section
/-! what the kernel decides of the tables -/
def zpc (p : Nat) : Option Cond := match p / 1000 with
  | 0 => (k2_sels lw_privs)[p % 1000]?
  | 1 => tables_1_1[p % 1000]?
  | 2 => tables_1_2[p % 1000]?
  | 3 => tables_1_3[p % 1000]?
  | 4 => tables_1_4[p % 1000]?
  | 5 => tables_1_5[p % 1000]?
  | 6 => tables_1_6[p % 1000]?
  | 7 => tables_1_7[p % 1000]?
  | _ => tables_1_8[p % 1000]?
theorem zpc_in {p : Nat} {w : Cond} (h : zpc p = some w) : w ∈ lw_tbl := by
  unfold zpc at h
  unfold lw_tbl tables_1
  split at h
  · exact List.mem_append_left _ (List.mem_of_getElem? h)
  · exact List.mem_append_right _ (List.mem_append_left _ (List.mem_of_getElem? h))
  · exact List.mem_append_right _ (List.mem_append_right _ (List.mem_append_left _ (List.mem_of_getElem? h)))
  · exact List.mem_append_right _ (List.mem_append_right _ (List.mem_append_right _ (List.mem_append_left _ (List.mem_of_getElem? h))))
  · exact List.mem_append_right _ (List.mem_append_right _ (List.mem_append_right _ (List.mem_append_right _ (List.mem_append_left _ (List.mem_of_getElem? h)))))
  · exact List.mem_append_right _ (List.mem_append_right _ (List.mem_append_right _ (List.mem_append_right _ (List.mem_append_right _ (List.mem_append_left _ (List.mem_of_getElem? h))))))
  · exact List.mem_append_right _ (List.mem_append_right _ (List.mem_append_right _ (List.mem_append_right _ (List.mem_append_right _ (List.mem_append_right _ (List.mem_append_left _ (List.mem_of_getElem? h)))))))
  · exact List.mem_append_right _ (List.mem_append_right _ (List.mem_append_right _ (List.mem_append_right _ (List.mem_append_right _ (List.mem_append_right _ (List.mem_append_right _ (List.mem_append_left _ (List.mem_of_getElem? h))))))))
  · exact List.mem_append_right _ (List.mem_append_right _ (List.mem_append_right _ (List.mem_append_right _ (List.mem_append_right _ (List.mem_append_right _ (List.mem_append_right _ (List.mem_append_right _ (List.mem_of_getElem? h))))))))
theorem zws_in {i : Nat} {w : Cond} (h1 : zpc i = some w) (h2 : goodWord w = true) : w ∈ zws := List.mem_filter.mpr ⟨zpc_in h1, h2⟩
theorem zws_of {ws : List Cond} (ps : List Nat) (h1 : ps.map (fun i => zpc i) = ws.map some) (h2 : ws.all goodWord = true) : ∀ w ∈ ws, w ∈ zws := by
  intro w hw
  have h3 : some w ∈ ps.map (fun i => zpc i) := by rw [h1]; exact List.mem_map.mpr ⟨w, hw, rfl⟩
  obtain ⟨i, -, hi⟩ := List.mem_map.mp h3
  exact zws_in hi (List.all_eq_true.mp h2 w hw)
theorem zws_good : ∀ w ∈ zws, (w.onTables && w.keeps) = true ∨ ∃ ty, w = .arrayClass ty := fun w hw => good_of_word (List.mem_filter.mp hw).2
theorem zws_tbl : ∀ w ∈ zws, w ∈ lw_tbl := fun w hw => (List.mem_filter.mp hw).1
theorem zlook_mem {α : Type} {l : List (Nat × α)} {i : Nat} {v : α} (h : zlook l i = some v) : (i, v) ∈ l := by
  induction l with
  | nil => cases h
  | cons q t ih =>
    unfold zlook at h
    split at h
    · next e => cases h; subst e; exact List.mem_cons_self
    · exact List.mem_cons_of_mem _ (ih h)
set_option maxRecDepth 20000 in
theorem zcw0 : ∀ w ∈ u_ws RX0 TX0 4, w ∈ zws := zws_of [1123, 1125, 1127, 1129] (by decide +kernel) (by decide +kernel)
set_option maxRecDepth 20000 in
theorem zcw1 : ∀ w ∈ u_ws RX1 TX1 5, w ∈ zws := zws_of [2193, 2195, 2197, 2199, 2201] (by decide +kernel) (by decide +kernel)
set_option maxRecDepth 20000 in
theorem zcw2 : ∀ w ∈ u_ws RX2 TX2 7, w ∈ zws := zws_of [2082, 2084, 2086, 2088, 2090, 2092, 2094] (by decide +kernel) (by decide +kernel)
set_option maxRecDepth 20000 in
theorem zcw3 : ∀ w ∈ u_ws RX3 TX3 4, w ∈ zws := zws_of [2169, 2171, 2173, 2175] (by decide +kernel) (by decide +kernel)
set_option maxRecDepth 20000 in
theorem zcw4 : ∀ w ∈ u_ws RX4 TX4 15, w ∈ zws := zws_of [1218, 1220, 1222, 1224, 1226, 1228, 1230, 1232, 1234, 1236, 1238, 2000, 2002, 2004, 2006] (by decide +kernel) (by decide +kernel)
set_option maxRecDepth 20000 in
theorem zcw5 : ∀ w ∈ u_ws RX5 TX5 13, w ∈ zws := zws_of [2030, 2032, 2034, 2036, 2038, 2040, 2042, 2044, 2046, 2048, 2050, 2052, 2054] (by decide +kernel) (by decide +kernel)
set_option maxRecDepth 20000 in
theorem zcw6 : ∀ w ∈ u_ws RX6 TX6 7, w ∈ zws := zws_of [2142, 2144, 2146, 2148, 2150, 2152, 2154] (by decide +kernel) (by decide +kernel)
set_option maxRecDepth 20000 in
theorem zcw7 : ∀ w ∈ u_ws RX7 TX7 6, w ∈ zws := zws_of [2114, 2116, 2118, 2120, 2122, 2124] (by decide +kernel) (by decide +kernel)
set_option maxRecDepth 20000 in
theorem zcw8 : ∀ w ∈ u_ws RX8 TX8 3, w ∈ zws := zws_of [1144, 1146, 1148] (by decide +kernel) (by decide +kernel)
set_option maxRecDepth 20000 in
theorem zcw9 : ∀ w ∈ u_ws RX9 TX9 4, w ∈ zws := zws_of [1068, 1070, 1072, 1074] (by decide +kernel) (by decide +kernel)
set_option maxRecDepth 20000 in
theorem zcw10 : ∀ w ∈ u_ws RX10 TX10 4, w ∈ zws := zws_of [1096, 1098, 1100, 1102] (by decide +kernel) (by decide +kernel)
set_option maxRecDepth 20000 in
theorem zcw11 : ∀ w ∈ u_ws RX11 TX11 16, w ∈ zws := zws_of [2221, 2223, 2225, 2227, 2229, 2231, 2233, 2235, 2237, 2239, 3001, 3003, 3005, 3007, 3009, 3011] (by decide +kernel) (by decide +kernel)
set_option maxRecDepth 20000 in
theorem zcw12 : ∀ w ∈ u_ws RX12 TX12 39, w ∈ zws := zws_of [6095, 6097, 6099, 6101, 6103, 6105, 6107, 6109, 6111, 6113, 6115, 6117, 6119, 6121, 6123, 6125, 6127, 6129, 6131, 6133, 6135, 6137, 6139, 6141, 6143, 6145, 6147, 6149, 6151, 6153, 6155, 6157, 6159, 6161, 6163, 6165, 6167, 6169, 6171] (by decide +kernel) (by decide +kernel)
theorem zcl_cl {ci : Nat} (h : ci < 13) : vwCl[ci]? = some (zRn ci, zTT ci, (zft ci).length) := by
  match ci, h with
  | 0, _ => exact rfl
  | 1, _ => exact rfl
  | 2, _ => exact rfl
  | 3, _ => exact rfl
  | 4, _ => exact rfl
  | 5, _ => exact rfl
  | 6, _ => exact rfl
  | 7, _ => exact rfl
  | 8, _ => exact rfl
  | 9, _ => exact rfl
  | 10, _ => exact rfl
  | 11, _ => exact rfl
  | 12, _ => exact rfl
theorem zcl_ws {ci : Nat} (h : ci < 13) : ∀ w ∈ u_ws (zRn ci) (zTT ci) (zft ci).length, w ∈ zws := by
  match ci, h with
  | 0, _ => exact zcw0
  | 1, _ => exact zcw1
  | 2, _ => exact zcw2
  | 3, _ => exact zcw3
  | 4, _ => exact zcw4
  | 5, _ => exact zcw5
  | 6, _ => exact zcw6
  | 7, _ => exact zcw7
  | 8, _ => exact zcw8
  | 9, _ => exact zcw9
  | 10, _ => exact zcw10
  | 11, _ => exact zcw11
  | 12, _ => exact zcw12
theorem zcl_ty {ci : Nat} (h : ci < 13) : ∀ k, k < (zft ci).length → parseFieldDescriptor (zTT ci k).2.2.1 = some (zty ci k) := by
  match ci, h with
  | 0, _ => exact tyX0_ok
  | 1, _ => exact tyX1_ok
  | 2, _ => exact tyX2_ok
  | 3, _ => exact tyX3_ok
  | 4, _ => exact tyX4_ok
  | 5, _ => exact tyX5_ok
  | 6, _ => exact tyX6_ok
  | 7, _ => exact tyX7_ok
  | 8, _ => exact tyX8_ok
  | 9, _ => exact tyX9_ok
  | 10, _ => exact tyX10_ok
  | 11, _ => exact tyX11_ok
  | 12, _ => exact tyX12_ok
theorem zcl_nm {ci : Nat} (h : ci < 13) : ∀ a, a < (zft ci).length → ∀ b, b < (zft ci).length → a ≠ b → (zTT ci a).2.1 ≠ (zTT ci b).2.1 := by
  match ci, h with
  | 0, _ => exact nmX0
  | 1, _ => exact nmX1
  | 2, _ => exact nmX2
  | 3, _ => exact nmX3
  | 4, _ => exact nmX4
  | 5, _ => exact nmX5
  | 6, _ => exact nmX6
  | 7, _ => exact nmX7
  | 8, _ => exact nmX8
  | 9, _ => exact nmX9
  | 10, _ => exact nmX10
  | 11, _ => exact nmX11
  | 12, _ => exact nmX12
def zrefT (t : FieldType) : Bool := match t with
  | .object _ => true
  | .array _ => true
  | _ => false
def zftok (ci f : Nat) : Bool := match (zft ci).getD f 9 with
  | 0 => decide (zty ci f = .int)
  | 1 => decide (zty ci f = .boolean)
  | 3 => zrefT (zty ci f)
  | _ => false
theorem zft_ok : (List.range 13).all (fun ci => (List.range (zft ci).length).all (fun f => zftok ci f && decide ((zTT ci f).1 = zRn ci))) = true := by decide +kernel
def zfldC (o : Nat) (q : Nat × Nat × Nat × Nat) : Bool := decide (q.2.1 < 13) && decide (q.2.2.1 < (zft q.2.1).length) && decide (zpc q.2.2.2 = some (Cond.fieldLink (zRn o) q.1 (zRn q.2.1) (zTT q.2.1 q.2.2.1).2.1 (zTT q.2.1 q.2.2.1).2.2.1)) && goodWord (Cond.fieldLink (zRn o) q.1 (zRn q.2.1) (zTT q.2.1 q.2.2.1).2.1 (zTT q.2.1 q.2.2.1).2.2.1)
set_option maxRecDepth 20000 in
theorem zfldK0 : (zfldTT.getD 0 []).all (zfldC 0) = true := by decide +kernel
set_option maxRecDepth 20000 in
theorem zfldK1 : (zfldTT.getD 1 []).all (zfldC 1) = true := by decide +kernel
set_option maxRecDepth 20000 in
theorem zfldK2 : (zfldTT.getD 2 []).all (zfldC 2) = true := by decide +kernel
set_option maxRecDepth 20000 in
theorem zfldK3 : (zfldTT.getD 3 []).all (zfldC 3) = true := by decide +kernel
set_option maxRecDepth 20000 in
theorem zfldK4 : (zfldTT.getD 4 []).all (zfldC 4) = true := by decide +kernel
set_option maxRecDepth 20000 in
theorem zfldK5 : (zfldTT.getD 5 []).all (zfldC 5) = true := by decide +kernel
set_option maxRecDepth 20000 in
theorem zfldK6 : (zfldTT.getD 6 []).all (zfldC 6) = true := by decide +kernel
set_option maxRecDepth 20000 in
theorem zfldK7 : (zfldTT.getD 7 []).all (zfldC 7) = true := by decide +kernel
set_option maxRecDepth 20000 in
theorem zfldK8 : (zfldTT.getD 8 []).all (zfldC 8) = true := by decide +kernel
set_option maxRecDepth 20000 in
theorem zfldK9 : (zfldTT.getD 9 []).all (zfldC 9) = true := by decide +kernel
set_option maxRecDepth 20000 in
theorem zfldK10 : (zfldTT.getD 10 []).all (zfldC 10) = true := by decide +kernel
set_option maxRecDepth 20000 in
theorem zfldK11 : (zfldTT.getD 11 []).all (zfldC 11) = true := by decide +kernel
set_option maxRecDepth 20000 in
theorem zfldK12 : (zfldTT.getD 12 []).all (zfldC 12) = true := by decide +kernel
set_option maxRecDepth 20000 in
theorem zfldK13 : (zfldTT.getD 13 []).all (zfldC 13) = true := by decide +kernel
set_option maxRecDepth 20000 in
theorem zfldK14 : (zfldTT.getD 14 []).all (zfldC 14) = true := by decide +kernel
set_option maxRecDepth 20000 in
theorem zfldK15 : (zfldTT.getD 15 []).all (zfldC 15) = true := by decide +kernel
set_option maxRecDepth 20000 in
theorem zfldK16 : (zfldTT.getD 16 []).all (zfldC 16) = true := by decide +kernel
set_option maxRecDepth 20000 in
theorem zfldK17 : (zfldTT.getD 17 []).all (zfldC 17) = true := by decide +kernel
set_option maxRecDepth 20000 in
theorem zfldK18 : (zfldTT.getD 18 []).all (zfldC 18) = true := by decide +kernel
theorem zfldK : ∀ o, o < 19 → (zfldTT.getD o []).all (zfldC o) = true
  | 0, _ => zfldK0
  | 1, _ => zfldK1
  | 2, _ => zfldK2
  | 3, _ => zfldK3
  | 4, _ => zfldK4
  | 5, _ => zfldK5
  | 6, _ => zfldK6
  | 7, _ => zfldK7
  | 8, _ => zfldK8
  | 9, _ => zfldK9
  | 10, _ => zfldK10
  | 11, _ => zfldK11
  | 12, _ => zfldK12
  | 13, _ => zfldK13
  | 14, _ => zfldK14
  | 15, _ => zfldK15
  | 16, _ => zfldK16
  | 17, _ => zfldK17
  | 18, _ => zfldK18
  | _ + 19, h => absurd h (by omega)
def zcstC (o : Nat) (q : Nat × zV × Nat) : Bool := match q.2.1 with
  | .inl x => decide (zpc q.2.2 = some (Cond.constant (zRn o) q.1 x)) && goodWord (Cond.constant (zRn o) q.1 x)
  | .inr (.inl x) => decide (zpc q.2.2 = some (Cond.constantLong (zRn o) q.1 x)) && goodWord (Cond.constantLong (zRn o) q.1 x)
  | .inr (.inr (some a)) => zsr.any (fun r => decide (r.1 = o) && decide (r.2.1 = q.1) && decide (r.2.2.2.1 = a)) && decide (1000000 ≤ a)
  | _ => false
set_option maxRecDepth 20000 in
theorem zcstK : (List.range 19).all (fun o => (zcstTT.getD o []).all (zcstC o)) = true := by decide +kernel
def zclsC (o : Nat) (q : Nat × Nat × Nat) : Bool := if q.2.1 < 13 then decide (zpc q.2.2 = some (Cond.classLink (zRn o) q.1 (zRn q.2.1))) && goodWord (Cond.classLink (zRn o) q.1 (zRn q.2.1)) else decide (q.2.1 = 99)
set_option maxRecDepth 20000 in
theorem zclsK : (List.range 19).all (fun o => (zclsTT.getD o []).all (zclsC o)) = true := by decide +kernel
def zinsP : List (Nat × Nat) := [(1105, 1005), (2179, 1012), (2059, 1008), (2158, 1011), (1035, 1002), (2010, 1007), (2128, 1010), (2098, 1009), (1132, 1006), (1048, 1003), (1079, 1004), (1027, 1001), (6051, 1013)]
set_option maxRecDepth 20000 in
theorem zinsK : (List.range 13).all (fun ci => decide (zpc (zinsP.getD ci (0, 0)).1 = some (Cond.instantiable (zRn ci) (zft ci).length)) && goodWord (Cond.instantiable (zRn ci) (zft ci).length) && decide (zpc (zinsP.getD ci (0, 0)).2 = some (Cond.initialized (zRn ci))) && goodWord (Cond.initialized (zRn ci))) = true := by decide +kernel
set_option maxRecDepth 20000 in
theorem zarrK : Cond.arrayClass .byte ∈ zws ∧ Cond.arrayClass .int ∈ zws ∧ Cond.arrayClass .long ∈ zws := ⟨zws_in (i := 1077) (by decide +kernel) rfl, zws_in (i := 1078) (by decide +kernel) rfl, zws_in (i := 2057) (by decide +kernel) rfl⟩
def zMok (q : zM) : Prop := Cond.code q.2.2.2.2.1 q.1 q.2.2.1 q.2.2.2.1 ∈ zws ∧ zRn q.2.1 = q.2.2.2.2.1.cls ∧ plainName q.2.2.2.2.1.cls = true ∧ (q.2.2.2.2.1.cls ≠ "java/lang/invoke/MethodHandle" ∧ q.2.2.2.2.1.cls ≠ "java/lang/invoke/VarHandle") ∧ q.2.2.1 ≤ 30 ∧ (q.2.2.2.2.2 = true → q.2.2.2.2.1.name = "<init>") ∧ q.2.2.2.2.1 ≠ yX11_led
theorem zoX0_init : zMok mX0_init := ⟨zws_in (i := 1108) rfl rfl, by decide +kernel, by decide +kernel, by decide +kernel, by decide +kernel, by decide +kernel, by decide +kernel⟩
theorem zoX1_init : zMok mX1_init := ⟨zws_in (i := 2182) rfl rfl, by decide +kernel, by decide +kernel, by decide +kernel, by decide +kernel, by decide +kernel, by decide +kernel⟩
theorem zoX1_solve : zMok mX1_solve := ⟨zws_in (i := 5023) rfl rfl, by decide +kernel, by decide +kernel, by decide +kernel, by decide +kernel, by decide +kernel, by decide +kernel⟩
theorem zoX1_worth : zMok mX1_worth := ⟨zws_in (i := 5028) rfl rfl, by decide +kernel, by decide +kernel, by decide +kernel, by decide +kernel, by decide +kernel, by decide +kernel⟩
theorem zoX1_choose : zMok mX1_choose := ⟨zws_in (i := 5034) rfl rfl, by decide +kernel, by decide +kernel, by decide +kernel, by decide +kernel, by decide +kernel, by decide +kernel⟩
theorem zoX1_firstBest : zMok mX1_firstBest := ⟨zws_in (i := 5038) rfl rfl, by decide +kernel, by decide +kernel, by decide +kernel, by decide +kernel, by decide +kernel, by decide +kernel⟩
theorem zoX2_init : zMok mX2_init := ⟨zws_in (i := 2062) rfl rfl, by decide +kernel, by decide +kernel, by decide +kernel, by decide +kernel, by decide +kernel, by decide +kernel⟩
theorem zoX2_begin : zMok mX2_begin := ⟨zws_in (i := 3211) rfl rfl, by decide +kernel, by decide +kernel, by decide +kernel, by decide +kernel, by decide +kernel, by decide +kernel⟩
theorem zoX2_copyFrom : zMok mX2_copyFrom := ⟨zws_in (i := 5171) rfl rfl, by decide +kernel, by decide +kernel, by decide +kernel, by decide +kernel, by decide +kernel, by decide +kernel⟩
theorem zoX2_isClosed : zMok mX2_isClosed := ⟨zws_in (i := 4073) rfl rfl, by decide +kernel, by decide +kernel, by decide +kernel, by decide +kernel, by decide +kernel, by decide +kernel⟩
theorem zoX2_isSent : zMok mX2_isSent := ⟨zws_in (i := 4105) rfl rfl, by decide +kernel, by decide +kernel, by decide +kernel, by decide +kernel, by decide +kernel, by decide +kernel⟩
theorem zoX3_init : zMok mX3_init := ⟨zws_in (i := 2161) rfl rfl, by decide +kernel, by decide +kernel, by decide +kernel, by decide +kernel, by decide +kernel, by decide +kernel⟩
theorem zoX3_fewestToWatch : zMok mX3_fewestToWatch := ⟨zws_in (i := 5102) rfl rfl, by decide +kernel, by decide +kernel, by decide +kernel, by decide +kernel, by decide +kernel, by decide +kernel⟩
theorem zoX3_waysOutOf : zMok mX3_waysOutOf := ⟨zws_in (i := 5106) rfl rfl, by decide +kernel, by decide +kernel, by decide +kernel, by decide +kernel, by decide +kernel, by decide +kernel⟩
theorem zoX3_findRound : zMok mX3_findRound := ⟨zws_in (i := 5115) rfl rfl, by decide +kernel, by decide +kernel, by decide +kernel, by decide +kernel, by decide +kernel, by decide +kernel⟩
theorem zoX3_findShortest : zMok mX3_findShortest := ⟨zws_in (i := 5119) rfl rfl, by decide +kernel, by decide +kernel, by decide +kernel, by decide +kernel, by decide +kernel, by decide +kernel⟩
theorem zoX3_findRests : zMok mX3_findRests := ⟨zws_in (i := 5126) rfl rfl, by decide +kernel, by decide +kernel, by decide +kernel, by decide +kernel, by decide +kernel, by decide +kernel⟩
theorem zoX3_daysOver : zMok mX3_daysOver := ⟨zws_in (i := 5130) rfl rfl, by decide +kernel, by decide +kernel, by decide +kernel, by decide +kernel, by decide +kernel, by decide +kernel⟩
theorem zoX3_nextOf : zMok mX3_nextOf := ⟨zws_in (i := 5134) rfl rfl, by decide +kernel, by decide +kernel, by decide +kernel, by decide +kernel, by decide +kernel, by decide +kernel⟩
theorem zoX4_init : zMok mX4_init := ⟨zws_in (i := 1038) rfl rfl, by decide +kernel, by decide +kernel, by decide +kernel, by decide +kernel, by decide +kernel, by decide +kernel⟩
theorem zoX4_clear : zMok mX4_clear := ⟨zws_in (i := 3037) rfl rfl, by decide +kernel, by decide +kernel, by decide +kernel, by decide +kernel, by decide +kernel, by decide +kernel⟩
theorem zoX4_boxLength : zMok mX4_boxLength := ⟨zws_in (i := 4039) rfl rfl, by decide +kernel, by decide +kernel, by decide +kernel, by decide +kernel, by decide +kernel, by decide +kernel⟩
theorem zoX4_wayBetween : zMok mX4_wayBetween := ⟨zws_in (i := 3170) rfl rfl, by decide +kernel, by decide +kernel, by decide +kernel, by decide +kernel, by decide +kernel, by decide +kernel⟩
theorem zoX4_hasSong : zMok mX4_hasSong := ⟨zws_in (i := 3158) rfl rfl, by decide +kernel, by decide +kernel, by decide +kernel, by decide +kernel, by decide +kernel, by decide +kernel⟩
theorem zoX4_lastSpoutOf : zMok mX4_lastSpoutOf := ⟨zws_in (i := 3203) rfl rfl, by decide +kernel, by decide +kernel, by decide +kernel, by decide +kernel, by decide +kernel, by decide +kernel⟩
theorem zoX5_init : zMok mX5_init := ⟨zws_in (i := 2013) rfl rfl, by decide +kernel, by decide +kernel, by decide +kernel, by decide +kernel, by decide +kernel, by decide +kernel⟩
theorem zoX5_readPost : zMok mX5_readPost := ⟨zws_in (i := 3033) rfl rfl, by decide +kernel, by decide +kernel, by decide +kernel, by decide +kernel, by decide +kernel, by decide +kernel⟩
theorem zoX5_faulty : zMok mX5_faulty := ⟨zws_in (i := 3118) rfl rfl, by decide +kernel, by decide +kernel, by decide +kernel, by decide +kernel, by decide +kernel, by decide +kernel⟩
theorem zoX5_readLine : zMok mX5_readLine := ⟨zws_in (i := 3044) rfl rfl, by decide +kernel, by decide +kernel, by decide +kernel, by decide +kernel, by decide +kernel, by decide +kernel⟩
theorem zoX5_readHead : zMok mX5_readHead := ⟨zws_in (i := 3122) rfl rfl, by decide +kernel, by decide +kernel, by decide +kernel, by decide +kernel, by decide +kernel, by decide +kernel⟩
theorem zoX5_readIsland : zMok mX5_readIsland := ⟨zws_in (i := 3138) rfl rfl, by decide +kernel, by decide +kernel, by decide +kernel, by decide +kernel, by decide +kernel, by decide +kernel⟩
theorem zoX5_readWay : zMok mX5_readWay := ⟨zws_in (i := 3162) rfl rfl, by decide +kernel, by decide +kernel, by decide +kernel, by decide +kernel, by decide +kernel, by decide +kernel⟩
theorem zoX5_readWhale : zMok mX5_readWhale := ⟨zws_in (i := 3176) rfl rfl, by decide +kernel, by decide +kernel, by decide +kernel, by decide +kernel, by decide +kernel, by decide +kernel⟩
theorem zoX5_readBox : zMok mX5_readBox := ⟨zws_in (i := 3191) rfl rfl, by decide +kernel, by decide +kernel, by decide +kernel, by decide +kernel, by decide +kernel, by decide +kernel⟩
theorem zoX5_readSpout : zMok mX5_readSpout := ⟨zws_in (i := 3199) rfl rfl, by decide +kernel, by decide +kernel, by decide +kernel, by decide +kernel, by decide +kernel, by decide +kernel⟩
theorem zoX5_word : zMok mX5_word := ⟨zws_in (i := 3127) rfl rfl, by decide +kernel, by decide +kernel, by decide +kernel, by decide +kernel, by decide +kernel, by decide +kernel⟩
theorem zoX5_whole : zMok mX5_whole := ⟨zws_in (i := 3131) rfl rfl, by decide +kernel, by decide +kernel, by decide +kernel, by decide +kernel, by decide +kernel, by decide +kernel⟩
theorem zoX5_newName : zMok mX5_newName := ⟨zws_in (i := 3142) rfl rfl, by decide +kernel, by decide +kernel, by decide +kernel, by decide +kernel, by decide +kernel, by decide +kernel⟩
theorem zoX5_toldName : zMok mX5_toldName := ⟨zws_in (i := 3166) rfl rfl, by decide +kernel, by decide +kernel, by decide +kernel, by decide +kernel, by decide +kernel, by decide +kernel⟩
theorem zoX5_nameOfToken : zMok mX5_nameOfToken := ⟨zws_in (i := 3146) rfl rfl, by decide +kernel, by decide +kernel, by decide +kernel, by decide +kernel, by decide +kernel, by decide +kernel⟩
theorem zoX5_letters : zMok mX5_letters := ⟨zws_in (i := 3150) rfl rfl, by decide +kernel, by decide +kernel, by decide +kernel, by decide +kernel, by decide +kernel, by decide +kernel⟩
theorem zoX5_songOfToken : zMok mX5_songOfToken := ⟨zws_in (i := 3154) rfl rfl, by decide +kernel, by decide +kernel, by decide +kernel, by decide +kernel, by decide +kernel, by decide +kernel⟩
theorem zoX5_kindOfToken : zMok mX5_kindOfToken := ⟨zws_in (i := 3180) rfl rfl, by decide +kernel, by decide +kernel, by decide +kernel, by decide +kernel, by decide +kernel, by decide +kernel⟩
theorem zoX5_sortOfLine : zMok mX5_sortOfLine := ⟨zws_in (i := 3056) rfl rfl, by decide +kernel, by decide +kernel, by decide +kernel, by decide +kernel, by decide +kernel, by decide +kernel⟩
theorem zoX5_isToken : zMok mX5_isToken := ⟨zws_in (i := 3061) rfl rfl, by decide +kernel, by decide +kernel, by decide +kernel, by decide +kernel, by decide +kernel, by decide +kernel⟩
theorem zoX5_nextToken : zMok mX5_nextToken := ⟨zws_in (i := 3048) rfl rfl, by decide +kernel, by decide +kernel, by decide +kernel, by decide +kernel, by decide +kernel, by decide +kernel⟩
theorem zoX5_passAll : zMok mX5_passAll := ⟨zws_in (i := 3052) rfl rfl, by decide +kernel, by decide +kernel, by decide +kernel, by decide +kernel, by decide +kernel, by decide +kernel⟩
theorem zoX6_init : zMok mX6_init := ⟨zws_in (i := 2131) rfl rfl, by decide +kernel, by decide +kernel, by decide +kernel, by decide +kernel, by decide +kernel, by decide +kernel⟩
theorem zoX6_dayOfLeaving : zMok mX6_dayOfLeaving := ⟨zws_in (i := 4097) rfl rfl, by decide +kernel, by decide +kernel, by decide +kernel, by decide +kernel, by decide +kernel, by decide +kernel⟩
theorem zoX6_findFirstDays : zMok mX6_findFirstDays := ⟨zws_in (i := 4191) rfl rfl, by decide +kernel, by decide +kernel, by decide +kernel, by decide +kernel, by decide +kernel, by decide +kernel⟩
theorem zoX6_goes : zMok mX6_goes := ⟨zws_in (i := 4200) rfl rfl, by decide +kernel, by decide +kernel, by decide +kernel, by decide +kernel, by decide +kernel, by decide +kernel⟩
theorem zoX6_firstDayAt : zMok mX6_firstDayAt := ⟨zws_in (i := 4187) rfl rfl, by decide +kernel, by decide +kernel, by decide +kernel, by decide +kernel, by decide +kernel, by decide +kernel⟩
theorem zoX6_dayOfBringing : zMok mX6_dayOfBringing := ⟨zws_in (i := 4209) rfl rfl, by decide +kernel, by decide +kernel, by decide +kernel, by decide +kernel, by decide +kernel, by decide +kernel⟩
theorem zoX6_soonestBringer : zMok mX6_soonestBringer := ⟨zws_in (i := 4226) rfl rfl, by decide +kernel, by decide +kernel, by decide +kernel, by decide +kernel, by decide +kernel, by decide +kernel⟩
theorem zoX6_surestBringer : zMok mX6_surestBringer := ⟨zws_in (i := 4235) rfl rfl, by decide +kernel, by decide +kernel, by decide +kernel, by decide +kernel, by decide +kernel, by decide +kernel⟩
theorem zoX6_bringersBy : zMok mX6_bringersBy := ⟨zws_in (i := 5003) rfl rfl, by decide +kernel, by decide +kernel, by decide +kernel, by decide +kernel, by decide +kernel, by decide +kernel⟩
theorem zoX6_dayOfMeeting : zMok mX6_dayOfMeeting := ⟨zws_in (i := 5054) rfl rfl, by decide +kernel, by decide +kernel, by decide +kernel, by decide +kernel, by decide +kernel, by decide +kernel⟩
theorem zoX6_fittingWhales : zMok mX6_fittingWhales := ⟨zws_in (i := 5063) rfl rfl, by decide +kernel, by decide +kernel, by decide +kernel, by decide +kernel, by decide +kernel, by decide +kernel⟩
theorem zoX6_isFitting : zMok mX6_isFitting := ⟨zws_in (i := 5067) rfl rfl, by decide +kernel, by decide +kernel, by decide +kernel, by decide +kernel, by decide +kernel, by decide +kernel⟩
theorem zoX6_islandsReached : zMok mX6_islandsReached := ⟨zws_in (i := 5075) rfl rfl, by decide +kernel, by decide +kernel, by decide +kernel, by decide +kernel, by decide +kernel, by decide +kernel⟩
theorem zoX6_bestPier : zMok mX6_bestPier := ⟨zws_in (i := 5084) rfl rfl, by decide +kernel, by decide +kernel, by decide +kernel, by decide +kernel, by decide +kernel, by decide +kernel⟩
theorem zoX6_whalesReaching : zMok mX6_whalesReaching := ⟨zws_in (i := 5090) rfl rfl, by decide +kernel, by decide +kernel, by decide +kernel, by decide +kernel, by decide +kernel, by decide +kernel⟩
theorem zoX7_init : zMok mX7_init := ⟨zws_in (i := 2101) rfl rfl, by decide +kernel, by decide +kernel, by decide +kernel, by decide +kernel, by decide +kernel, by decide +kernel⟩
theorem zoX7_fallIn : zMok mX7_fallIn := ⟨zws_in (i := 4019) rfl rfl, by decide +kernel, by decide +kernel, by decide +kernel, by decide +kernel, by decide +kernel, by decide +kernel⟩
theorem zoX7_raised : zMok mX7_raised := ⟨zws_in (i := 4023) rfl rfl, by decide +kernel, by decide +kernel, by decide +kernel, by decide +kernel, by decide +kernel, by decide +kernel⟩
theorem zoX7_songIn : zMok mX7_songIn := ⟨zws_in (i := 4015) rfl rfl, by decide +kernel, by decide +kernel, by decide +kernel, by decide +kernel, by decide +kernel, by decide +kernel⟩
theorem zoX7_hearerOf : zMok mX7_hearerOf := ⟨zws_in (i := 4051) rfl rfl, by decide +kernel, by decide +kernel, by decide +kernel, by decide +kernel, by decide +kernel, by decide +kernel⟩
theorem zoX7_apartness : zMok mX7_apartness := ⟨zws_in (i := 4117) rfl rfl, by decide +kernel, by decide +kernel, by decide +kernel, by decide +kernel, by decide +kernel, by decide +kernel⟩
theorem zoX7_bearable : zMok mX7_bearable := ⟨zws_in (i := 4125) rfl rfl, by decide +kernel, by decide +kernel, by decide +kernel, by decide +kernel, by decide +kernel, by decide +kernel⟩
theorem zoX7_mixedPairs : zMok mX7_mixedPairs := ⟨zws_in (i := 4134) rfl rfl, by decide +kernel, by decide +kernel, by decide +kernel, by decide +kernel, by decide +kernel, by decide +kernel⟩
theorem zoX7_findNew : zMok mX7_findNew := ⟨zws_in (i := 4146) rfl rfl, by decide +kernel, by decide +kernel, by decide +kernel, by decide +kernel, by decide +kernel, by decide +kernel⟩
theorem zoX7_keepSongsOf : zMok mX7_keepSongsOf := ⟨zws_in (i := 4150) rfl rfl, by decide +kernel, by decide +kernel, by decide +kernel, by decide +kernel, by decide +kernel, by decide +kernel⟩
theorem zoX7_isOfNotes : zMok mX7_isOfNotes := ⟨zws_in (i := 4155) rfl rfl, by decide +kernel, by decide +kernel, by decide +kernel, by decide +kernel, by decide +kernel, by decide +kernel⟩
theorem zoX7_isFarFromKept : zMok mX7_isFarFromKept := ⟨zws_in (i := 4159) rfl rfl, by decide +kernel, by decide +kernel, by decide +kernel, by decide +kernel, by decide +kernel, by decide +kernel⟩
theorem zoX7_draw : zMok mX7_draw := ⟨zws_in (i := 5155) rfl rfl, by decide +kernel, by decide +kernel, by decide +kernel, by decide +kernel, by decide +kernel, by decide +kernel⟩
theorem zoX7_slipped : zMok mX7_slipped := ⟨zws_in (i := 5151) rfl rfl, by decide +kernel, by decide +kernel, by decide +kernel, by decide +kernel, by decide +kernel, by decide +kernel⟩
theorem zoX8_init : zMok mX8_init := ⟨zws_in (i := 1135) rfl rfl, by decide +kernel, by decide +kernel, by decide +kernel, by decide +kernel, by decide +kernel, by decide +kernel⟩
theorem zoX9_init : zMok mX9_init := ⟨zws_in (i := 1051) rfl rfl, by decide +kernel, by decide +kernel, by decide +kernel, by decide +kernel, by decide +kernel, by decide +kernel⟩
theorem zoX10_init : zMok mX10_init := ⟨zws_in (i := 1082) rfl rfl, by decide +kernel, by decide +kernel, by decide +kernel, by decide +kernel, by decide +kernel, by decide +kernel⟩
theorem zoX11_init : zMok mX11_init := ⟨zws_in (i := 1030) rfl rfl, by decide +kernel, by decide +kernel, by decide +kernel, by decide +kernel, by decide +kernel, by decide +kernel⟩
theorem zoX11_feed : zMok mX11_feed := ⟨zws_in (i := 3017) rfl rfl, by decide +kernel, by decide +kernel, by decide +kernel, by decide +kernel, by decide +kernel, by decide +kernel⟩
theorem zoX11_post : zMok mX11_post := ⟨zws_in (i := 3025) rfl rfl, by decide +kernel, by decide +kernel, by decide +kernel, by decide +kernel, by decide +kernel, by decide +kernel⟩
theorem zoX11_fault : zMok mX11_fault := ⟨zws_in (i := 3219) rfl rfl, by decide +kernel, by decide +kernel, by decide +kernel, by decide +kernel, by decide +kernel, by decide +kernel⟩
theorem zoX11_where : zMok mX11_where := ⟨zws_in (i := 3223) rfl rfl, by decide +kernel, by decide +kernel, by decide +kernel, by decide +kernel, by decide +kernel, by decide +kernel⟩
theorem zoX11_whale : zMok mX11_whale := ⟨zws_in (i := 3227) rfl rfl, by decide +kernel, by decide +kernel, by decide +kernel, by decide +kernel, by decide +kernel, by decide +kernel⟩
theorem zoX11_box : zMok mX11_box := ⟨zws_in (i := 3235) rfl rfl, by decide +kernel, by decide +kernel, by decide +kernel, by decide +kernel, by decide +kernel, by decide +kernel⟩
theorem zoX11_length : zMok mX11_length := ⟨zws_in (i := 4003) rfl rfl, by decide +kernel, by decide +kernel, by decide +kernel, by decide +kernel, by decide +kernel, by decide +kernel⟩
theorem zoX11_note : zMok mX11_note := ⟨zws_in (i := 4011) rfl rfl, by decide +kernel, by decide +kernel, by decide +kernel, by decide +kernel, by decide +kernel, by decide +kernel⟩
theorem zoX11_sung : zMok mX11_sung := ⟨zws_in (i := 4031) rfl rfl, by decide +kernel, by decide +kernel, by decide +kernel, by decide +kernel, by decide +kernel, by decide +kernel⟩
theorem zoX11_heard : zMok mX11_heard := ⟨zws_in (i := 4043) rfl rfl, by decide +kernel, by decide +kernel, by decide +kernel, by decide +kernel, by decide +kernel, by decide +kernel⟩
theorem zoX11_way : zMok mX11_way := ⟨zws_in (i := 4064) rfl rfl, by decide +kernel, by decide +kernel, by decide +kernel, by decide +kernel, by decide +kernel, by decide +kernel⟩
theorem zoX11_season : zMok mX11_season := ⟨zws_in (i := 4077) rfl rfl, by decide +kernel, by decide +kernel, by decide +kernel, by decide +kernel, by decide +kernel, by decide +kernel⟩
theorem zoX11_sets : zMok mX11_sets := ⟨zws_in (i := 4089) rfl rfl, by decide +kernel, by decide +kernel, by decide +kernel, by decide +kernel, by decide +kernel, by decide +kernel⟩
theorem zoX11_sent : zMok mX11_sent := ⟨zws_in (i := 4101) rfl rfl, by decide +kernel, by decide +kernel, by decide +kernel, by decide +kernel, by decide +kernel, by decide +kernel⟩
theorem zoX11_apart : zMok mX11_apart := ⟨zws_in (i := 4113) rfl rfl, by decide +kernel, by decide +kernel, by decide +kernel, by decide +kernel, by decide +kernel, by decide +kernel⟩
theorem zoX11_bear : zMok mX11_bear := ⟨zws_in (i := 4121) rfl rfl, by decide +kernel, by decide +kernel, by decide +kernel, by decide +kernel, by decide +kernel, by decide +kernel⟩
theorem zoX11_mixed : zMok mX11_mixed := ⟨zws_in (i := 4130) rfl rfl, by decide +kernel, by decide +kernel, by decide +kernel, by decide +kernel, by decide +kernel, by decide +kernel⟩
theorem zoX11_fresh : zMok mX11_fresh := ⟨zws_in (i := 4138) rfl rfl, by decide +kernel, by decide +kernel, by decide +kernel, by decide +kernel, by decide +kernel, by decide +kernel⟩
theorem zoX11_byTurns : zMok mX11_byTurns := ⟨zws_in (i := 4163) rfl rfl, by decide +kernel, by decide +kernel, by decide +kernel, by decide +kernel, by decide +kernel, by decide +kernel⟩
theorem zoX11_near : zMok mX11_near := ⟨zws_in (i := 4167) rfl rfl, by decide +kernel, by decide +kernel, by decide +kernel, by decide +kernel, by decide +kernel, by decide +kernel⟩
theorem zoX11_asNear : zMok mX11_asNear := ⟨zws_in (i := 4171) rfl rfl, by decide +kernel, by decide +kernel, by decide +kernel, by decide +kernel, by decide +kernel, by decide +kernel⟩
theorem zoX11_heardIn : zMok mX11_heardIn := ⟨zws_in (i := 4175) rfl rfl, by decide +kernel, by decide +kernel, by decide +kernel, by decide +kernel, by decide +kernel, by decide +kernel⟩
theorem zoX11_strange : zMok mX11_strange := ⟨zws_in (i := 4179) rfl rfl, by decide +kernel, by decide +kernel, by decide +kernel, by decide +kernel, by decide +kernel, by decide +kernel⟩
theorem zoX11_arrival : zMok mX11_arrival := ⟨zws_in (i := 4183) rfl rfl, by decide +kernel, by decide +kernel, by decide +kernel, by decide +kernel, by decide +kernel, by decide +kernel⟩
theorem zoX11_brings : zMok mX11_brings := ⟨zws_in (i := 4205) rfl rfl, by decide +kernel, by decide +kernel, by decide +kernel, by decide +kernel, by decide +kernel, by decide +kernel⟩
theorem zoX11_soonest : zMok mX11_soonest := ⟨zws_in (i := 4222) rfl rfl, by decide +kernel, by decide +kernel, by decide +kernel, by decide +kernel, by decide +kernel, by decide +kernel⟩
theorem zoX11_surest : zMok mX11_surest := ⟨zws_in (i := 4231) rfl rfl, by decide +kernel, by decide +kernel, by decide +kernel, by decide +kernel, by decide +kernel, by decide +kernel⟩
theorem zoX11_by : zMok mX11_by := ⟨zws_in (i := 4239) rfl rfl, by decide +kernel, by decide +kernel, by decide +kernel, by decide +kernel, by decide +kernel, by decide +kernel⟩
theorem zoX11_registered : zMok mX11_registered := ⟨zws_in (i := 5007) rfl rfl, by decide +kernel, by decide +kernel, by decide +kernel, by decide +kernel, by decide +kernel, by decide +kernel⟩
theorem zoX11_match : zMok mX11_match := ⟨zws_in (i := 5015) rfl rfl, by decide +kernel, by decide +kernel, by decide +kernel, by decide +kernel, by decide +kernel, by decide +kernel⟩
theorem zoX11_matchDays : zMok mX11_matchDays := ⟨zws_in (i := 5042) rfl rfl, by decide +kernel, by decide +kernel, by decide +kernel, by decide +kernel, by decide +kernel, by decide +kernel⟩
theorem zoX11_matchOf : zMok mX11_matchOf := ⟨zws_in (i := 5046) rfl rfl, by decide +kernel, by decide +kernel, by decide +kernel, by decide +kernel, by decide +kernel, by decide +kernel⟩
theorem zoX11_meet : zMok mX11_meet := ⟨zws_in (i := 5050) rfl rfl, by decide +kernel, by decide +kernel, by decide +kernel, by decide +kernel, by decide +kernel, by decide +kernel⟩
theorem zoX11_fits : zMok mX11_fits := ⟨zws_in (i := 5059) rfl rfl, by decide +kernel, by decide +kernel, by decide +kernel, by decide +kernel, by decide +kernel, by decide +kernel⟩
theorem zoX11_reach : zMok mX11_reach := ⟨zws_in (i := 5071) rfl rfl, by decide +kernel, by decide +kernel, by decide +kernel, by decide +kernel, by decide +kernel, by decide +kernel⟩
theorem zoX11_pier : zMok mX11_pier := ⟨zws_in (i := 5080) rfl rfl, by decide +kernel, by decide +kernel, by decide +kernel, by decide +kernel, by decide +kernel, by decide +kernel⟩
theorem zoX11_watch : zMok mX11_watch := ⟨zws_in (i := 5098) rfl rfl, by decide +kernel, by decide +kernel, by decide +kernel, by decide +kernel, by decide +kernel, by decide +kernel⟩
theorem zoX11_round : zMok mX11_round := ⟨zws_in (i := 5111) rfl rfl, by decide +kernel, by decide +kernel, by decide +kernel, by decide +kernel, by decide +kernel, by decide +kernel⟩
theorem zoX11_roundAt : zMok mX11_roundAt := ⟨zws_in (i := 5138) rfl rfl, by decide +kernel, by decide +kernel, by decide +kernel, by decide +kernel, by decide +kernel, by decide +kernel⟩
theorem zoX11_decade : zMok mX11_decade := ⟨zws_in (i := 5142) rfl rfl, by decide +kernel, by decide +kernel, by decide +kernel, by decide +kernel, by decide +kernel, by decide +kernel⟩
theorem zoX11_send : zMok mX11_send := ⟨zws_in (i := 5163) rfl rfl, by decide +kernel, by decide +kernel, by decide +kernel, by decide +kernel, by decide +kernel, by decide +kernel⟩
theorem zoX11_tune : zMok mX11_tune := ⟨zws_in (i := 5179) rfl rfl, by decide +kernel, by decide +kernel, by decide +kernel, by decide +kernel, by decide +kernel, by decide +kernel⟩
theorem zoX11_years : zMok mX11_years := ⟨zws_in (i := 5192) rfl rfl, by decide +kernel, by decide +kernel, by decide +kernel, by decide +kernel, by decide +kernel, by decide +kernel⟩
theorem zoX11_close : zMok mX11_close := ⟨zws_in (i := 5196) rfl rfl, by decide +kernel, by decide +kernel, by decide +kernel, by decide +kernel, by decide +kernel, by decide +kernel⟩
theorem zoX11_undo : zMok mX11_undo := ⟨zws_in (i := 5200) rfl rfl, by decide +kernel, by decide +kernel, by decide +kernel, by decide +kernel, by decide +kernel, by decide +kernel⟩
theorem zoX11_image : zMok mX11_image := ⟨zws_in (i := 5204) rfl rfl, by decide +kernel, by decide +kernel, by decide +kernel, by decide +kernel, by decide +kernel, by decide +kernel⟩
theorem zoX11_back : zMok mX11_back := ⟨zws_in (i := 5208) rfl rfl, by decide +kernel, by decide +kernel, by decide +kernel, by decide +kernel, by decide +kernel, by decide +kernel⟩
theorem zoX11_size : zMok mX11_size := ⟨zws_in (i := 5212) rfl rfl, by decide +kernel, by decide +kernel, by decide +kernel, by decide +kernel, by decide +kernel, by decide +kernel⟩
theorem zoX11_trouble : zMok mX11_trouble := ⟨zws_in (i := 5216) rfl rfl, by decide +kernel, by decide +kernel, by decide +kernel, by decide +kernel, by decide +kernel, by decide +kernel⟩
theorem zoX11_granted : zMok mX11_granted := ⟨zws_in (i := 3215) rfl rfl, by decide +kernel, by decide +kernel, by decide +kernel, by decide +kernel, by decide +kernel, by decide +kernel⟩
theorem zoX11_refused : zMok mX11_refused := ⟨zws_in (i := 3029) rfl rfl, by decide +kernel, by decide +kernel, by decide +kernel, by decide +kernel, by decide +kernel, by decide +kernel⟩
theorem zoX11_hasGranted : zMok mX11_hasGranted := ⟨zws_in (i := 5188) rfl rfl, by decide +kernel, by decide +kernel, by decide +kernel, by decide +kernel, by decide +kernel, by decide +kernel⟩
theorem zoX11_hasRefused : zMok mX11_hasRefused := ⟨zws_in (i := 5183) rfl rfl, by decide +kernel, by decide +kernel, by decide +kernel, by decide +kernel, by decide +kernel, by decide +kernel⟩
theorem zoX11_hasPost : zMok mX11_hasPost := ⟨zws_in (i := 4081) rfl rfl, by decide +kernel, by decide +kernel, by decide +kernel, by decide +kernel, by decide +kernel, by decide +kernel⟩
theorem zoX11_isIsland : zMok mX11_isIsland := ⟨zws_in (i := 4007) rfl rfl, by decide +kernel, by decide +kernel, by decide +kernel, by decide +kernel, by decide +kernel, by decide +kernel⟩
theorem zoX11_areTwoIslands : zMok mX11_areTwoIslands := ⟨zws_in (i := 4068) rfl rfl, by decide +kernel, by decide +kernel, by decide +kernel, by decide +kernel, by decide +kernel, by decide +kernel⟩
theorem zoX11_isWay : zMok mX11_isWay := ⟨zws_in (i := 4093) rfl rfl, by decide +kernel, by decide +kernel, by decide +kernel, by decide +kernel, by decide +kernel, by decide +kernel⟩
theorem zoX11_isWhale : zMok mX11_isWhale := ⟨zws_in (i := 3231) rfl rfl, by decide +kernel, by decide +kernel, by decide +kernel, by decide +kernel, by decide +kernel, by decide +kernel⟩
theorem zoX11_isBox : zMok mX11_isBox := ⟨zws_in (i := 3239) rfl rfl, by decide +kernel, by decide +kernel, by decide +kernel, by decide +kernel, by decide +kernel, by decide +kernel⟩
theorem zoX11_isNoteOfBox : zMok mX11_isNoteOfBox := ⟨zws_in (i := 4035) rfl rfl, by decide +kernel, by decide +kernel, by decide +kernel, by decide +kernel, by decide +kernel, by decide +kernel⟩
theorem zoX11_isWithin : zMok mX11_isWithin := ⟨zws_in (i := 4085) rfl rfl, by decide +kernel, by decide +kernel, by decide +kernel, by decide +kernel, by decide +kernel, by decide +kernel⟩
theorem zoX11_refusalOfNewSong : zMok mX11_refusalOfNewSong := ⟨zws_in (i := 4142) rfl rfl, by decide +kernel, by decide +kernel, by decide +kernel, by decide +kernel, by decide +kernel, by decide +kernel⟩
theorem zoX11_appendBytes : zMok mX11_appendBytes := ⟨zws_in (i := 3021) rfl rfl, by decide +kernel, by decide +kernel, by decide +kernel, by decide +kernel, by decide +kernel, by decide +kernel⟩
theorem zoX11_takeDraft : zMok mX11_takeDraft := ⟨zws_in (i := 3207) rfl rfl, by decide +kernel, by decide +kernel, by decide +kernel, by decide +kernel, by decide +kernel, by decide +kernel⟩
theorem zoX11_keepForUndo : zMok mX11_keepForUndo := ⟨zws_in (i := 5167) rfl rfl, by decide +kernel, by decide +kernel, by decide +kernel, by decide +kernel, by decide +kernel, by decide +kernel⟩
theorem zoX11_hearerIn : zMok mX11_hearerIn := ⟨zws_in (i := 4047) rfl rfl, by decide +kernel, by decide +kernel, by decide +kernel, by decide +kernel, by decide +kernel, by decide +kernel⟩
theorem zoX11_sentPart : zMok mX11_sentPart := ⟨zws_in (i := 4109) rfl rfl, by decide +kernel, by decide +kernel, by decide +kernel, by decide +kernel, by decide +kernel, by decide +kernel⟩
theorem zoX11_heardWithSlips : zMok mX11_heardWithSlips := ⟨zws_in (i := 5147) rfl rfl, by decide +kernel, by decide +kernel, by decide +kernel, by decide +kernel, by decide +kernel, by decide +kernel⟩
theorem zoX11_solveMatch : zMok mX11_solveMatch := ⟨zws_in (i := 5019) rfl rfl, by decide +kernel, by decide +kernel, by decide +kernel, by decide +kernel, by decide +kernel, by decide +kernel⟩
theorem zoX11_commonDivisor : zMok mX11_commonDivisor := ⟨zws_in (i := 5010) rfl rfl, by decide +kernel, by decide +kernel, by decide +kernel, by decide +kernel, by decide +kernel, by decide +kernel⟩
theorem zoX11_noteAt : zMok mX11_noteAt := ⟨zws_in (i := 4026) rfl rfl, by decide +kernel, by decide +kernel, by decide +kernel, by decide +kernel, by decide +kernel, by decide +kernel⟩
theorem zoX11_withNote : zMok mX11_withNote := ⟨zws_in (i := 5159) rfl rfl, by decide +kernel, by decide +kernel, by decide +kernel, by decide +kernel, by decide +kernel, by decide +kernel⟩
theorem zoX11_unlikeNotes : zMok mX11_unlikeNotes := ⟨zws_in (i := 4054) rfl rfl, by decide +kernel, by decide +kernel, by decide +kernel, by decide +kernel, by decide +kernel, by decide +kernel⟩
theorem zoX12_init : zMok mX12_init := ⟨zws_in (i := 6054) rfl rfl, by decide +kernel, by decide +kernel, by decide +kernel, by decide +kernel, by decide +kernel, by decide +kernel⟩
theorem zoX12_thrown : zMok mX12_thrown := ⟨zws_in (i := 6177) rfl rfl, by decide +kernel, by decide +kernel, by decide +kernel, by decide +kernel, by decide +kernel, by decide +kernel⟩
theorem zoX12_good : zMok mX12_good := ⟨zws_in (i := 6189) rfl rfl, by decide +kernel, by decide +kernel, by decide +kernel, by decide +kernel, by decide +kernel, by decide +kernel⟩
theorem zoX12_no : zMok mX12_no := ⟨zws_in (i := 6196) rfl rfl, by decide +kernel, by decide +kernel, by decide +kernel, by decide +kernel, by decide +kernel, by decide +kernel⟩
theorem zoX12_isNot : zMok mX12_isNot := ⟨zws_in (i := 8177) rfl rfl, by decide +kernel, by decide +kernel, by decide +kernel, by decide +kernel, by decide +kernel, by decide +kernel⟩
theorem zoX12_in : zMok mX12_in := ⟨zws_in (i := 6192) rfl rfl, by decide +kernel, by decide +kernel, by decide +kernel, by decide +kernel, by decide +kernel, by decide +kernel⟩
theorem zoX12_hasBit : zMok mX12_hasBit := ⟨zws_in (i := 7176) rfl rfl, by decide +kernel, by decide +kernel, by decide +kernel, by decide +kernel, by decide +kernel, by decide +kernel⟩
theorem zoX12_ones : zMok mX12_ones := ⟨zws_in (i := 8131) rfl rfl, by decide +kernel, by decide +kernel, by decide +kernel, by decide +kernel, by decide +kernel, by decide +kernel⟩
theorem zoX12_copy : zMok mX12_copy := ⟨zws_in (i := 7085) rfl rfl, by decide +kernel, by decide +kernel, by decide +kernel, by decide +kernel, by decide +kernel, by decide +kernel⟩
theorem zoX12_later : zMok mX12_later := ⟨zws_in (i := 8056) rfl rfl, by decide +kernel, by decide +kernel, by decide +kernel, by decide +kernel, by decide +kernel, by decide +kernel⟩
theorem zoX12_feed : zMok mX12_feed := ⟨zws_in (i := 6181) rfl rfl, by decide +kernel, by decide +kernel, by decide +kernel, by decide +kernel, by decide +kernel, by decide +kernel⟩
theorem zoX12_look : zMok mX12_look := ⟨zws_in (i := 6204) rfl rfl, by decide +kernel, by decide +kernel, by decide +kernel, by decide +kernel, by decide +kernel, by decide +kernel⟩
theorem zoX12_isSmall : zMok mX12_isSmall := ⟨zws_in (i := 6207) rfl rfl, by decide +kernel, by decide +kernel, by decide +kernel, by decide +kernel, by decide +kernel, by decide +kernel⟩
theorem zoX12_isDigit : zMok mX12_isDigit := ⟨zws_in (i := 6210) rfl rfl, by decide +kernel, by decide +kernel, by decide +kernel, by decide +kernel, by decide +kernel, by decide +kernel⟩
theorem zoX12_next : zMok mX12_next := ⟨zws_in (i := 6200) rfl rfl, by decide +kernel, by decide +kernel, by decide +kernel, by decide +kernel, by decide +kernel, by decide +kernel⟩
theorem zoX12_wrong : zMok mX12_wrong := ⟨zws_in (i := 6229) rfl rfl, by decide +kernel, by decide +kernel, by decide +kernel, by decide +kernel, by decide +kernel, by decide +kernel⟩
theorem zoX12_isWord : zMok mX12_isWord := ⟨zws_in (i := 6219) rfl rfl, by decide +kernel, by decide +kernel, by decide +kernel, by decide +kernel, by decide +kernel, by decide +kernel⟩
theorem zoX12_takesWord : zMok mX12_takesWord := ⟨zws_in (i := 7002) rfl rfl, by decide +kernel, by decide +kernel, by decide +kernel, by decide +kernel, by decide +kernel, by decide +kernel⟩
theorem zoX12_must : zMok mX12_must := ⟨zws_in (i := 6238) rfl rfl, by decide +kernel, by decide +kernel, by decide +kernel, by decide +kernel, by decide +kernel, by decide +kernel⟩
theorem zoX12_mustName : zMok mX12_mustName := ⟨zws_in (i := 7026) rfl rfl, by decide +kernel, by decide +kernel, by decide +kernel, by decide +kernel, by decide +kernel, by decide +kernel⟩
theorem zoX12_find : zMok mX12_find := ⟨zws_in (i := 7034) rfl rfl, by decide +kernel, by decide +kernel, by decide +kernel, by decide +kernel, by decide +kernel, by decide +kernel⟩
theorem zoX12_newName : zMok mX12_newName := ⟨zws_in (i := 7022) rfl rfl, by decide +kernel, by decide +kernel, by decide +kernel, by decide +kernel, by decide +kernel, by decide +kernel⟩
theorem zoX12_named : zMok mX12_named := ⟨zws_in (i := 7050) rfl rfl, by decide +kernel, by decide +kernel, by decide +kernel, by decide +kernel, by decide +kernel, by decide +kernel⟩
theorem zoX12_islandPassed : zMok mX12_islandPassed := ⟨zws_in (i := 7046) rfl rfl, by decide +kernel, by decide +kernel, by decide +kernel, by decide +kernel, by decide +kernel, by decide +kernel⟩
theorem zoX12_islandBehind : zMok mX12_islandBehind := ⟨zws_in (i := 7068) rfl rfl, by decide +kernel, by decide +kernel, by decide +kernel, by decide +kernel, by decide +kernel, by decide +kernel⟩
theorem zoX12_number : zMok mX12_number := ⟨zws_in (i := 7006) rfl rfl, by decide +kernel, by decide +kernel, by decide +kernel, by decide +kernel, by decide +kernel, by decide +kernel⟩
theorem zoX12_after : zMok mX12_after := ⟨zws_in (i := 6234) rfl rfl, by decide +kernel, by decide +kernel, by decide +kernel, by decide +kernel, by decide +kernel, by decide +kernel⟩
theorem zoX12_post : zMok mX12_post := ⟨zws_in (i := 6185) rfl rfl, by decide +kernel, by decide +kernel, by decide +kernel, by decide +kernel, by decide +kernel, by decide +kernel⟩
theorem zoX12_begins : zMok mX12_begins := ⟨zws_in (i := 7014) rfl rfl, by decide +kernel, by decide +kernel, by decide +kernel, by decide +kernel, by decide +kernel, by decide +kernel⟩
theorem zoX12_readLine : zMok mX12_readLine := ⟨zws_in (i := 6214) rfl rfl, by decide +kernel, by decide +kernel, by decide +kernel, by decide +kernel, by decide +kernel, by decide +kernel⟩
theorem zoX12_postLine : zMok mX12_postLine := ⟨zws_in (i := 6225) rfl rfl, by decide +kernel, by decide +kernel, by decide +kernel, by decide +kernel, by decide +kernel, by decide +kernel⟩
theorem zoX12_islandLine : zMok mX12_islandLine := ⟨zws_in (i := 7018) rfl rfl, by decide +kernel, by decide +kernel, by decide +kernel, by decide +kernel, by decide +kernel, by decide +kernel⟩
theorem zoX12_isSong : zMok mX12_isSong := ⟨zws_in (i := 7038) rfl rfl, by decide +kernel, by decide +kernel, by decide +kernel, by decide +kernel, by decide +kernel, by decide +kernel⟩
theorem zoX12_wayLine : zMok mX12_wayLine := ⟨zws_in (i := 7042) rfl rfl, by decide +kernel, by decide +kernel, by decide +kernel, by decide +kernel, by decide +kernel, by decide +kernel⟩
theorem zoX12_joins : zMok mX12_joins := ⟨zws_in (i := 7053) rfl rfl, by decide +kernel, by decide +kernel, by decide +kernel, by decide +kernel, by decide +kernel, by decide +kernel⟩
theorem zoX12_whaleLine : zMok mX12_whaleLine := ⟨zws_in (i := 7059) rfl rfl, by decide +kernel, by decide +kernel, by decide +kernel, by decide +kernel, by decide +kernel, by decide +kernel⟩
theorem zoX12_boxLine : zMok mX12_boxLine := ⟨zws_in (i := 7074) rfl rfl, by decide +kernel, by decide +kernel, by decide +kernel, by decide +kernel, by decide +kernel, by decide +kernel⟩
theorem zoX12_spoutLine : zMok mX12_spoutLine := ⟨zws_in (i := 7082) rfl rfl, by decide +kernel, by decide +kernel, by decide +kernel, by decide +kernel, by decide +kernel, by decide +kernel⟩
theorem zoX12_fault : zMok mX12_fault := ⟨zws_in (i := 7089) rfl rfl, by decide +kernel, by decide +kernel, by decide +kernel, by decide +kernel, by decide +kernel, by decide +kernel⟩
theorem zoX12_where : zMok mX12_where := ⟨zws_in (i := 7093) rfl rfl, by decide +kernel, by decide +kernel, by decide +kernel, by decide +kernel, by decide +kernel, by decide +kernel⟩
theorem zoX12_isIsland : zMok mX12_isIsland := ⟨zws_in (i := 7125) rfl rfl, by decide +kernel, by decide +kernel, by decide +kernel, by decide +kernel, by decide +kernel, by decide +kernel⟩
theorem zoX12_isWhale : zMok mX12_isWhale := ⟨zws_in (i := 7101) rfl rfl, by decide +kernel, by decide +kernel, by decide +kernel, by decide +kernel, by decide +kernel, by decide +kernel⟩
theorem zoX12_isBox : zMok mX12_isBox := ⟨zws_in (i := 7113) rfl rfl, by decide +kernel, by decide +kernel, by decide +kernel, by decide +kernel, by decide +kernel, by decide +kernel⟩
theorem zoX12_ofWhale : zMok mX12_ofWhale := ⟨zws_in (i := 7105) rfl rfl, by decide +kernel, by decide +kernel, by decide +kernel, by decide +kernel, by decide +kernel, by decide +kernel⟩
theorem zoX12_ofBox : zMok mX12_ofBox := ⟨zws_in (i := 7117) rfl rfl, by decide +kernel, by decide +kernel, by decide +kernel, by decide +kernel, by decide +kernel, by decide +kernel⟩
theorem zoX12_songLong : zMok mX12_songLong := ⟨zws_in (i := 7129) rfl rfl, by decide +kernel, by decide +kernel, by decide +kernel, by decide +kernel, by decide +kernel, by decide +kernel⟩
theorem zoX12_boxLong : zMok mX12_boxLong := ⟨zws_in (i := 7145) rfl rfl, by decide +kernel, by decide +kernel, by decide +kernel, by decide +kernel, by decide +kernel, by decide +kernel⟩
theorem zoX12_noteIn : zMok mX12_noteIn := ⟨zws_in (i := 7137) rfl rfl, by decide +kernel, by decide +kernel, by decide +kernel, by decide +kernel, by decide +kernel, by decide +kernel⟩
theorem zoX12_whale : zMok mX12_whale := ⟨zws_in (i := 7097) rfl rfl, by decide +kernel, by decide +kernel, by decide +kernel, by decide +kernel, by decide +kernel, by decide +kernel⟩
theorem zoX12_box : zMok mX12_box := ⟨zws_in (i := 7109) rfl rfl, by decide +kernel, by decide +kernel, by decide +kernel, by decide +kernel, by decide +kernel, by decide +kernel⟩
theorem zoX12_length : zMok mX12_length := ⟨zws_in (i := 7121) rfl rfl, by decide +kernel, by decide +kernel, by decide +kernel, by decide +kernel, by decide +kernel, by decide +kernel⟩
theorem zoX12_note : zMok mX12_note := ⟨zws_in (i := 7133) rfl rfl, by decide +kernel, by decide +kernel, by decide +kernel, by decide +kernel, by decide +kernel, by decide +kernel⟩
theorem zoX12_sung : zMok mX12_sung := ⟨zws_in (i := 7141) rfl rfl, by decide +kernel, by decide +kernel, by decide +kernel, by decide +kernel, by decide +kernel, by decide +kernel⟩
theorem zoX12_unlike : zMok mX12_unlike := ⟨zws_in (i := 7161) rfl rfl, by decide +kernel, by decide +kernel, by decide +kernel, by decide +kernel, by decide +kernel, by decide +kernel⟩
theorem zoX12_hearsIn : zMok mX12_hearsIn := ⟨zws_in (i := 7157) rfl rfl, by decide +kernel, by decide +kernel, by decide +kernel, by decide +kernel, by decide +kernel, by decide +kernel⟩
theorem zoX12_heardNow : zMok mX12_heardNow := ⟨zws_in (i := 7153) rfl rfl, by decide +kernel, by decide +kernel, by decide +kernel, by decide +kernel, by decide +kernel, by decide +kernel⟩
theorem zoX12_heard : zMok mX12_heard := ⟨zws_in (i := 7149) rfl rfl, by decide +kernel, by decide +kernel, by decide +kernel, by decide +kernel, by decide +kernel, by decide +kernel⟩
theorem zoX12_isClosed : zMok mX12_isClosed := ⟨zws_in (i := 7173) rfl rfl, by decide +kernel, by decide +kernel, by decide +kernel, by decide +kernel, by decide +kernel, by decide +kernel⟩
theorem zoX12_wayOf : zMok mX12_wayOf := ⟨zws_in (i := 7169) rfl rfl, by decide +kernel, by decide +kernel, by decide +kernel, by decide +kernel, by decide +kernel, by decide +kernel⟩
theorem zoX12_way : zMok mX12_way := ⟨zws_in (i := 7165) rfl rfl, by decide +kernel, by decide +kernel, by decide +kernel, by decide +kernel, by decide +kernel, by decide +kernel⟩
theorem zoX12_nearOf : zMok mX12_nearOf := ⟨zws_in (i := 7184) rfl rfl, by decide +kernel, by decide +kernel, by decide +kernel, by decide +kernel, by decide +kernel, by decide +kernel⟩
theorem zoX12_near : zMok mX12_near := ⟨zws_in (i := 7180) rfl rfl, by decide +kernel, by decide +kernel, by decide +kernel, by decide +kernel, by decide +kernel, by decide +kernel⟩
theorem zoX12_asNear : zMok mX12_asNear := ⟨zws_in (i := 7188) rfl rfl, by decide +kernel, by decide +kernel, by decide +kernel, by decide +kernel, by decide +kernel, by decide +kernel⟩
theorem zoX12_sent : zMok mX12_sent := ⟨zws_in (i := 7192) rfl rfl, by decide +kernel, by decide +kernel, by decide +kernel, by decide +kernel, by decide +kernel, by decide +kernel⟩
theorem zoX12_apartOf : zMok mX12_apartOf := ⟨zws_in (i := 7200) rfl rfl, by decide +kernel, by decide +kernel, by decide +kernel, by decide +kernel, by decide +kernel, by decide +kernel⟩
theorem zoX12_apart : zMok mX12_apart := ⟨zws_in (i := 7196) rfl rfl, by decide +kernel, by decide +kernel, by decide +kernel, by decide +kernel, by decide +kernel, by decide +kernel⟩
theorem zoX12_bear : zMok mX12_bear := ⟨zws_in (i := 7204) rfl rfl, by decide +kernel, by decide +kernel, by decide +kernel, by decide +kernel, by decide +kernel, by decide +kernel⟩
theorem zoX12_mixed : zMok mX12_mixed := ⟨zws_in (i := 7208) rfl rfl, by decide +kernel, by decide +kernel, by decide +kernel, by decide +kernel, by decide +kernel, by decide +kernel⟩
theorem zoX12_power : zMok mX12_power := ⟨zws_in (i := 7224) rfl rfl, by decide +kernel, by decide +kernel, by decide +kernel, by decide +kernel, by decide +kernel, by decide +kernel⟩
theorem zoX12_digitsApart : zMok mX12_digitsApart := ⟨zws_in (i := 7228) rfl rfl, by decide +kernel, by decide +kernel, by decide +kernel, by decide +kernel, by decide +kernel, by decide +kernel⟩
theorem zoX12_newSongs : zMok mX12_newSongs := ⟨zws_in (i := 7220) rfl rfl, by decide +kernel, by decide +kernel, by decide +kernel, by decide +kernel, by decide +kernel, by decide +kernel⟩
theorem zoX12_songWhy : zMok mX12_songWhy := ⟨zws_in (i := 7216) rfl rfl, by decide +kernel, by decide +kernel, by decide +kernel, by decide +kernel, by decide +kernel, by decide +kernel⟩
theorem zoX12_fresh : zMok mX12_fresh := ⟨zws_in (i := 7212) rfl rfl, by decide +kernel, by decide +kernel, by decide +kernel, by decide +kernel, by decide +kernel, by decide +kernel⟩
theorem zoX12_byTurns : zMok mX12_byTurns := ⟨zws_in (i := 7232) rfl rfl, by decide +kernel, by decide +kernel, by decide +kernel, by decide +kernel, by decide +kernel, by decide +kernel⟩
theorem zoX12_heardIn : zMok mX12_heardIn := ⟨zws_in (i := 7236) rfl rfl, by decide +kernel, by decide +kernel, by decide +kernel, by decide +kernel, by decide +kernel, by decide +kernel⟩
theorem zoX12_hearsItself : zMok mX12_hearsItself := ⟨zws_in (i := 8004) rfl rfl, by decide +kernel, by decide +kernel, by decide +kernel, by decide +kernel, by decide +kernel, by decide +kernel⟩
theorem zoX12_strange : zMok mX12_strange := ⟨zws_in (i := 8000) rfl rfl, by decide +kernel, by decide +kernel, by decide +kernel, by decide +kernel, by decide +kernel, by decide +kernel⟩
theorem zoX12_dayBy : zMok mX12_dayBy := ⟨zws_in (i := 8041) rfl rfl, by decide +kernel, by decide +kernel, by decide +kernel, by decide +kernel, by decide +kernel, by decide +kernel⟩
theorem zoX12_setsOut : zMok mX12_setsOut := ⟨zws_in (i := 8020) rfl rfl, by decide +kernel, by decide +kernel, by decide +kernel, by decide +kernel, by decide +kernel, by decide +kernel⟩
theorem zoX12_seasonOf : zMok mX12_seasonOf := ⟨zws_in (i := 8012) rfl rfl, by decide +kernel, by decide +kernel, by decide +kernel, by decide +kernel, by decide +kernel, by decide +kernel⟩
theorem zoX12_season : zMok mX12_season := ⟨zws_in (i := 8008) rfl rfl, by decide +kernel, by decide +kernel, by decide +kernel, by decide +kernel, by decide +kernel, by decide +kernel⟩
theorem zoX12_sets : zMok mX12_sets := ⟨zws_in (i := 8016) rfl rfl, by decide +kernel, by decide +kernel, by decide +kernel, by decide +kernel, by decide +kernel, by decide +kernel⟩
theorem zoX12_layDays : zMok mX12_layDays := ⟨zws_in (i := 8032) rfl rfl, by decide +kernel, by decide +kernel, by decide +kernel, by decide +kernel, by decide +kernel, by decide +kernel⟩
theorem zoX12_goesBy : zMok mX12_goesBy := ⟨zws_in (i := 8037) rfl rfl, by decide +kernel, by decide +kernel, by decide +kernel, by decide +kernel, by decide +kernel, by decide +kernel⟩
theorem zoX12_arrivalOf : zMok mX12_arrivalOf := ⟨zws_in (i := 8028) rfl rfl, by decide +kernel, by decide +kernel, by decide +kernel, by decide +kernel, by decide +kernel, by decide +kernel⟩
theorem zoX12_arrival : zMok mX12_arrival := ⟨zws_in (i := 8024) rfl rfl, by decide +kernel, by decide +kernel, by decide +kernel, by decide +kernel, by decide +kernel, by decide +kernel⟩
theorem zoX12_lays : zMok mX12_lays := ⟨zws_in (i := 8053) rfl rfl, by decide +kernel, by decide +kernel, by decide +kernel, by decide +kernel, by decide +kernel, by decide +kernel⟩
theorem zoX12_bringsOf : zMok mX12_bringsOf := ⟨zws_in (i := 8049) rfl rfl, by decide +kernel, by decide +kernel, by decide +kernel, by decide +kernel, by decide +kernel, by decide +kernel⟩
theorem zoX12_brings : zMok mX12_brings := ⟨zws_in (i := 8045) rfl rfl, by decide +kernel, by decide +kernel, by decide +kernel, by decide +kernel, by decide +kernel, by decide +kernel⟩
theorem zoX12_soonest : zMok mX12_soonest := ⟨zws_in (i := 8060) rfl rfl, by decide +kernel, by decide +kernel, by decide +kernel, by decide +kernel, by decide +kernel, by decide +kernel⟩
theorem zoX12_surestBut : zMok mX12_surestBut := ⟨zws_in (i := 8068) rfl rfl, by decide +kernel, by decide +kernel, by decide +kernel, by decide +kernel, by decide +kernel, by decide +kernel⟩
theorem zoX12_surest : zMok mX12_surest := ⟨zws_in (i := 8064) rfl rfl, by decide +kernel, by decide +kernel, by decide +kernel, by decide +kernel, by decide +kernel, by decide +kernel⟩
theorem zoX12_by : zMok mX12_by := ⟨zws_in (i := 8072) rfl rfl, by decide +kernel, by decide +kernel, by decide +kernel, by decide +kernel, by decide +kernel, by decide +kernel⟩
theorem zoX12_lowest : zMok mX12_lowest := ⟨zws_in (i := 8080) rfl rfl, by decide +kernel, by decide +kernel, by decide +kernel, by decide +kernel, by decide +kernel, by decide +kernel⟩
theorem zoX12_registered : zMok mX12_registered := ⟨zws_in (i := 8076) rfl rfl, by decide +kernel, by decide +kernel, by decide +kernel, by decide +kernel, by decide +kernel, by decide +kernel⟩
theorem zoX12_tryMatch : zMok mX12_tryMatch := ⟨zws_in (i := 8092) rfl rfl, by decide +kernel, by decide +kernel, by decide +kernel, by decide +kernel, by decide +kernel, by decide +kernel⟩
theorem zoX12_seekMatch : zMok mX12_seekMatch := ⟨zws_in (i := 8088) rfl rfl, by decide +kernel, by decide +kernel, by decide +kernel, by decide +kernel, by decide +kernel, by decide +kernel⟩
theorem zoX12_match : zMok mX12_match := ⟨zws_in (i := 8084) rfl rfl, by decide +kernel, by decide +kernel, by decide +kernel, by decide +kernel, by decide +kernel, by decide +kernel⟩
theorem zoX12_matchDays : zMok mX12_matchDays := ⟨zws_in (i := 8096) rfl rfl, by decide +kernel, by decide +kernel, by decide +kernel, by decide +kernel, by decide +kernel, by decide +kernel⟩
theorem zoX12_matchOf : zMok mX12_matchOf := ⟨zws_in (i := 8100) rfl rfl, by decide +kernel, by decide +kernel, by decide +kernel, by decide +kernel, by decide +kernel, by decide +kernel⟩
theorem zoX12_meet : zMok mX12_meet := ⟨zws_in (i := 8104) rfl rfl, by decide +kernel, by decide +kernel, by decide +kernel, by decide +kernel, by decide +kernel, by decide +kernel⟩
theorem zoX12_fitsAll : zMok mX12_fitsAll := ⟨zws_in (i := 8112) rfl rfl, by decide +kernel, by decide +kernel, by decide +kernel, by decide +kernel, by decide +kernel, by decide +kernel⟩
theorem zoX12_fits : zMok mX12_fits := ⟨zws_in (i := 8108) rfl rfl, by decide +kernel, by decide +kernel, by decide +kernel, by decide +kernel, by decide +kernel, by decide +kernel⟩
theorem zoX12_reachOf : zMok mX12_reachOf := ⟨zws_in (i := 8120) rfl rfl, by decide +kernel, by decide +kernel, by decide +kernel, by decide +kernel, by decide +kernel, by decide +kernel⟩
theorem zoX12_reach : zMok mX12_reach := ⟨zws_in (i := 8116) rfl rfl, by decide +kernel, by decide +kernel, by decide +kernel, by decide +kernel, by decide +kernel, by decide +kernel⟩
theorem zoX12_pier : zMok mX12_pier := ⟨zws_in (i := 8124) rfl rfl, by decide +kernel, by decide +kernel, by decide +kernel, by decide +kernel, by decide +kernel, by decide +kernel⟩
theorem zoX12_doLead : zMok mX12_doLead := ⟨zws_in (i := 8135) rfl rfl, by decide +kernel, by decide +kernel, by decide +kernel, by decide +kernel, by decide +kernel, by decide +kernel⟩
theorem zoX12_watch : zMok mX12_watch := ⟨zws_in (i := 8128) rfl rfl, by decide +kernel, by decide +kernel, by decide +kernel, by decide +kernel, by decide +kernel, by decide +kernel⟩
theorem zoX12_layFar : zMok mX12_layFar := ⟨zws_in (i := 8147) rfl rfl, by decide +kernel, by decide +kernel, by decide +kernel, by decide +kernel, by decide +kernel, by decide +kernel⟩
theorem zoX12_tryRound : zMok mX12_tryRound := ⟨zws_in (i := 8151) rfl rfl, by decide +kernel, by decide +kernel, by decide +kernel, by decide +kernel, by decide +kernel, by decide +kernel⟩
theorem zoX12_seekRound : zMok mX12_seekRound := ⟨zws_in (i := 8143) rfl rfl, by decide +kernel, by decide +kernel, by decide +kernel, by decide +kernel, by decide +kernel, by decide +kernel⟩
theorem zoX12_round : zMok mX12_round := ⟨zws_in (i := 8139) rfl rfl, by decide +kernel, by decide +kernel, by decide +kernel, by decide +kernel, by decide +kernel, by decide +kernel⟩
theorem zoX12_roundAt : zMok mX12_roundAt := ⟨zws_in (i := 8155) rfl rfl, by decide +kernel, by decide +kernel, by decide +kernel, by decide +kernel, by decide +kernel, by decide +kernel⟩
theorem zoX12_decade : zMok mX12_decade := ⟨zws_in (i := 8159) rfl rfl, by decide +kernel, by decide +kernel, by decide +kernel, by decide +kernel, by decide +kernel, by decide +kernel⟩
theorem zoX12_note1 : zMok mX12_note1 := ⟨zws_in (i := 8169) rfl rfl, by decide +kernel, by decide +kernel, by decide +kernel, by decide +kernel, by decide +kernel, by decide +kernel⟩
theorem zoX12_send : zMok mX12_send := ⟨zws_in (i := 8165) rfl rfl, by decide +kernel, by decide +kernel, by decide +kernel, by decide +kernel, by decide +kernel, by decide +kernel⟩
theorem zoX12_tune : zMok mX12_tune := ⟨zws_in (i := 8173) rfl rfl, by decide +kernel, by decide +kernel, by decide +kernel, by decide +kernel, by decide +kernel, by decide +kernel⟩
theorem zoX12_years : zMok mX12_years := ⟨zws_in (i := 8181) rfl rfl, by decide +kernel, by decide +kernel, by decide +kernel, by decide +kernel, by decide +kernel, by decide +kernel⟩
theorem zoX12_close : zMok mX12_close := ⟨zws_in (i := 8185) rfl rfl, by decide +kernel, by decide +kernel, by decide +kernel, by decide +kernel, by decide +kernel, by decide +kernel⟩
theorem zoX12_undo : zMok mX12_undo := ⟨zws_in (i := 8189) rfl rfl, by decide +kernel, by decide +kernel, by decide +kernel, by decide +kernel, by decide +kernel, by decide +kernel⟩
theorem zoX12_image : zMok mX12_image := ⟨zws_in (i := 8193) rfl rfl, by decide +kernel, by decide +kernel, by decide +kernel, by decide +kernel, by decide +kernel, by decide +kernel⟩
theorem zoX12_back : zMok mX12_back := ⟨zws_in (i := 8197) rfl rfl, by decide +kernel, by decide +kernel, by decide +kernel, by decide +kernel, by decide +kernel, by decide +kernel⟩
theorem zoX12_led : zMok mX12_led := ⟨zws_in (i := 8201) rfl rfl, by decide +kernel, by decide +kernel, by decide +kernel, by decide +kernel, by decide +kernel, by decide +kernel⟩
theorem zoX12_size : zMok mX12_size := ⟨zws_in (i := 8205) rfl rfl, by decide +kernel, by decide +kernel, by decide +kernel, by decide +kernel, by decide +kernel, by decide +kernel⟩
theorem zoX12_trouble : zMok mX12_trouble := ⟨zws_in (i := 8209) rfl rfl, by decide +kernel, by decide +kernel, by decide +kernel, by decide +kernel, by decide +kernel, by decide +kernel⟩
theorem zoJ0_length_8abf5 : zMok mJ0_length_8abf5 := ⟨zws_in (i := 3065) rfl rfl, by decide +kernel, by decide +kernel, by decide +kernel, by decide +kernel, by decide +kernel, by decide +kernel⟩
theorem zoJ0_charAt_5068e : zMok mJ0_charAt_5068e := ⟨zws_in (i := 3075) rfl rfl, by decide +kernel, by decide +kernel, by decide +kernel, by decide +kernel, by decide +kernel, by decide +kernel⟩
theorem zoJ0_coder_7d493 : zMok mJ0_coder_7d493 := ⟨zws_in (i := 3069) rfl rfl, by decide +kernel, by decide +kernel, by decide +kernel, by decide +kernel, by decide +kernel, by decide +kernel⟩
theorem zoJ0_isLatin1_aae02 : zMok mJ0_isLatin1_aae02 := ⟨zws_in (i := 3079) rfl rfl, by decide +kernel, by decide +kernel, by decide +kernel, by decide +kernel, by decide +kernel, by decide +kernel⟩
theorem zoJ0_checkIndex_df160 : zMok mJ0_checkIndex_df160 := ⟨zws_in (i := 3085) rfl rfl, by decide +kernel, by decide +kernel, by decide +kernel, by decide +kernel, by decide +kernel, by decide +kernel⟩
theorem zoJ1_charAt_3b067 : zMok mJ1_charAt_3b067 := ⟨zws_in (i := 3082) rfl rfl, by decide +kernel, by decide +kernel, by decide +kernel, by decide +kernel, by decide +kernel, by decide +kernel⟩
theorem zoJ3_checkIndex_8e157 : zMok mJ3_checkIndex_8e157 := ⟨zws_in (i := 3090) rfl rfl, by decide +kernel, by decide +kernel, by decide +kernel, by decide +kernel, by decide +kernel, by decide +kernel⟩
theorem zoJ7_fill_53178 : zMok mJ7_fill_53178 := ⟨zws_in (i := 4195) rfl rfl, by decide +kernel, by decide +kernel, by decide +kernel, by decide +kernel, by decide +kernel, by decide +kernel⟩
theorem zoJ6_bitCount_0f7a4 : zMok mJ6_bitCount_0f7a4 := ⟨zws_in (i := 4057) rfl rfl, by decide +kernel, by decide +kernel, by decide +kernel, by decide +kernel, by decide +kernel, by decide +kernel⟩
theorem zledc : Cond.code yX11_led cX11_led 4 (some .int) ∈ zws := zws_in (i := 5224) rfl rfl
def zmthC (o : Nat) (q : Nat × Nat × Nat × zM × Nat × Nat × Nat × Nat) : Bool := match q with
  | (k, kd, na, cm, pl, pi, ps, pn) => match kd with
    | 0 => decide (zpc pl = some (Cond.methodLink (zRn o) k cm.2.2.2.2.1)) && goodWord (Cond.methodLink (zRn o) k cm.2.2.2.2.1) && decide (zpc pi = some (Cond.instanceMethod cm.2.2.2.2.1)) && goodWord (Cond.instanceMethod cm.2.2.2.2.1) && decide (zpc ps = some (Cond.selects (zRn cm.2.1) cm.2.2.2.2.1 cm.2.2.2.2.1)) && goodWord (Cond.selects (zRn cm.2.1) cm.2.2.2.2.1 cm.2.2.2.2.1) && decide (zpc pn = some (Cond.initialized cm.2.2.2.2.1.cls)) && goodWord (Cond.initialized cm.2.2.2.2.1.cls) && decide ((parseMethodDescriptor cm.2.2.2.2.1.desc).map (fun d => d.parameters.length + 1) = some na)
    | 1 => decide (zpc pl = some (Cond.methodLink (zRn o) k cm.2.2.2.2.1)) && goodWord (Cond.methodLink (zRn o) k cm.2.2.2.2.1) && decide (zpc pi = some (Cond.static cm.2.2.2.2.1)) && goodWord (Cond.static cm.2.2.2.2.1) && decide (zpc pn = some (Cond.initialized cm.2.2.2.2.1.cls)) && goodWord (Cond.initialized cm.2.2.2.2.1.cls) && decide ((parseMethodDescriptor cm.2.2.2.2.1.desc).map (fun d => d.parameters.length) = some na)
    | 2 => decide (zpc pl = some (Cond.methodLink (zRn o) k cm.2.2.2.2.1)) && goodWord (Cond.methodLink (zRn o) k cm.2.2.2.2.1) && decide (zpc pi = some (Cond.instanceMethod cm.2.2.2.2.1)) && goodWord (Cond.instanceMethod cm.2.2.2.2.1) && decide (zpc pn = some (Cond.initialized cm.2.2.2.2.1.cls)) && goodWord (Cond.initialized cm.2.2.2.2.1.cls) && decide ((parseMethodDescriptor cm.2.2.2.2.1.desc).map (fun d => d.parameters.length + 1) = some na) && decide (cm.2.2.2.2.1.name = "<init>") && decide (cm.2.2.2.1 = none)
    | 3 => znm.any (fun r => decide (r.1 = o) && decide (r.2.1 = k) && decide (r.2.2.1.2.2.2.2.1 = cm.2.2.2.2.1)) && decide (zpc pi = some (Cond.static cm.2.2.2.2.1)) && goodWord (Cond.static cm.2.2.2.2.1) && decide (zpc pn = some (Cond.initialized cm.2.2.2.2.1.cls)) && goodWord (Cond.initialized cm.2.2.2.2.1.cls) && decide ((parseMethodDescriptor cm.2.2.2.2.1.desc).map (fun d => d.parameters.length) = some na)
    | 4 => znm.any (fun r => decide (r.1 = o) && decide (r.2.1 = k) && decide (r.2.2.1.2.2.2.2.1 = cm.2.2.2.2.1)) && decide (zpc pi = some (Cond.instanceMethod cm.2.2.2.2.1)) && goodWord (Cond.instanceMethod cm.2.2.2.2.1) && decide (zpc pn = some (Cond.initialized cm.2.2.2.2.1.cls)) && goodWord (Cond.initialized cm.2.2.2.2.1.cls) && decide ((parseMethodDescriptor cm.2.2.2.2.1.desc).map (fun d => d.parameters.length + 1) = some na) && decide (cm.2.2.2.2.1.name = "<init>") && decide (cm.2.2.2.1 = none)
    | 10 => decide (zpc pl = some (Cond.methodLink (zRn o) k Lib.objectInit)) && goodWord (Cond.methodLink (zRn o) k Lib.objectInit)
    | 11 => decide (zpc pl = some (Cond.methodLink (zRn o) k Lib.Math.max.name)) && goodWord (Cond.methodLink (zRn o) k Lib.Math.max.name)
    | 12 => decide (zpc pl = some (Cond.methodLink (zRn o) k Lib.Math.min.name)) && goodWord (Cond.methodLink (zRn o) k Lib.Math.min.name)
    | 13 => decide (zpc pl = some (Cond.methodLink (zRn o) k Lib.Math.abs.name)) && goodWord (Cond.methodLink (zRn o) k Lib.Math.abs.name)
    | 14 => decide (zpc pl = some (Cond.methodLink (zRn o) k arraycopyName)) && goodWord (Cond.methodLink (zRn o) k arraycopyName)
    | _ => decide (kd = 16)
set_option maxRecDepth 20000 in
theorem zmthK0 : (zmthTT.getD 0 []).all (zmthC 0) = true := by decide +kernel
set_option maxRecDepth 20000 in
theorem zmthK1 : (zmthTT.getD 1 []).all (zmthC 1) = true := by decide +kernel
set_option maxRecDepth 20000 in
theorem zmthK2 : (zmthTT.getD 2 []).all (zmthC 2) = true := by decide +kernel
set_option maxRecDepth 20000 in
theorem zmthK3 : (zmthTT.getD 3 []).all (zmthC 3) = true := by decide +kernel
set_option maxRecDepth 20000 in
theorem zmthK4 : (zmthTT.getD 4 []).all (zmthC 4) = true := by decide +kernel
set_option maxRecDepth 20000 in
theorem zmthK5 : (zmthTT.getD 5 []).all (zmthC 5) = true := by decide +kernel
set_option maxRecDepth 20000 in
theorem zmthK6 : (zmthTT.getD 6 []).all (zmthC 6) = true := by decide +kernel
set_option maxRecDepth 20000 in
theorem zmthK7 : (zmthTT.getD 7 []).all (zmthC 7) = true := by decide +kernel
set_option maxRecDepth 20000 in
theorem zmthK8 : (zmthTT.getD 8 []).all (zmthC 8) = true := by decide +kernel
set_option maxRecDepth 20000 in
theorem zmthK9 : (zmthTT.getD 9 []).all (zmthC 9) = true := by decide +kernel
set_option maxRecDepth 20000 in
theorem zmthK10 : (zmthTT.getD 10 []).all (zmthC 10) = true := by decide +kernel
set_option maxRecDepth 20000 in
theorem zmthK11 : (zmthTT.getD 11 []).all (zmthC 11) = true := by decide +kernel
set_option maxRecDepth 20000 in
theorem zmthK12 : (zmthTT.getD 12 []).all (zmthC 12) = true := by decide +kernel
set_option maxRecDepth 20000 in
theorem zmthK13 : (zmthTT.getD 13 []).all (zmthC 13) = true := by decide +kernel
set_option maxRecDepth 20000 in
theorem zmthK14 : (zmthTT.getD 14 []).all (zmthC 14) = true := by decide +kernel
set_option maxRecDepth 20000 in
theorem zmthK15 : (zmthTT.getD 15 []).all (zmthC 15) = true := by decide +kernel
set_option maxRecDepth 20000 in
theorem zmthK16 : (zmthTT.getD 16 []).all (zmthC 16) = true := by decide +kernel
set_option maxRecDepth 20000 in
theorem zmthK17 : (zmthTT.getD 17 []).all (zmthC 17) = true := by decide +kernel
set_option maxRecDepth 20000 in
theorem zmthK18 : (zmthTT.getD 18 []).all (zmthC 18) = true := by decide +kernel
theorem zmthK : ∀ o, o < 19 → (zmthTT.getD o []).all (zmthC o) = true
  | 0, _ => zmthK0
  | 1, _ => zmthK1
  | 2, _ => zmthK2
  | 3, _ => zmthK3
  | 4, _ => zmthK4
  | 5, _ => zmthK5
  | 6, _ => zmthK6
  | 7, _ => zmthK7
  | 8, _ => zmthK8
  | 9, _ => zmthK9
  | 10, _ => zmthK10
  | 11, _ => zmthK11
  | 12, _ => zmthK12
  | 13, _ => zmthK13
  | 14, _ => zmthK14
  | 15, _ => zmthK15
  | 16, _ => zmthK16
  | 17, _ => zmthK17
  | 18, _ => zmthK18
  | _ + 19, h => absurd h (by omega)
set_option maxRecDepth 20000 in
theorem zmM0 : ∀ q ∈ zmthT0, q.2.1 < 5 → zMok q.2.2.2.1 := List.forall_mem_cons.mpr ⟨fun h => absurd h (by decide), fun _ h => absurd h List.not_mem_nil⟩
set_option maxRecDepth 20000 in
theorem zmM1 : ∀ q ∈ zmthT1, q.2.1 < 5 → zMok q.2.2.2.1 := List.forall_mem_cons.mpr ⟨fun h => absurd h (by decide), List.forall_mem_cons.mpr ⟨fun _ => zoJ7_fill_53178, List.forall_mem_cons.mpr ⟨fun _ => zoX1_worth, List.forall_mem_cons.mpr ⟨fun h => absurd h (by decide), List.forall_mem_cons.mpr ⟨fun _ => zoX1_choose, List.forall_mem_cons.mpr ⟨fun _ => zoX1_firstBest, fun _ h => absurd h List.not_mem_nil⟩⟩⟩⟩⟩⟩
set_option maxRecDepth 20000 in
theorem zmM2 : ∀ q ∈ zmthT2, q.2.1 < 5 → zMok q.2.2.2.1 := List.forall_mem_cons.mpr ⟨fun h => absurd h (by decide), List.forall_mem_cons.mpr ⟨fun h => absurd h (by decide), fun _ h => absurd h List.not_mem_nil⟩⟩
set_option maxRecDepth 20000 in
theorem zmM3 : ∀ q ∈ zmthT3, q.2.1 < 5 → zMok q.2.2.2.1 := List.forall_mem_cons.mpr ⟨fun h => absurd h (by decide), List.forall_mem_cons.mpr ⟨fun _ => zoX3_waysOutOf, List.forall_mem_cons.mpr ⟨fun _ => zoJ6_bitCount_0f7a4, List.forall_mem_cons.mpr ⟨fun _ => zoX3_findShortest, List.forall_mem_cons.mpr ⟨fun _ => zoX3_findRests, List.forall_mem_cons.mpr ⟨fun _ => zoX3_nextOf, List.forall_mem_cons.mpr ⟨fun _ => zoJ7_fill_53178, List.forall_mem_cons.mpr ⟨fun h => absurd h (by decide), List.forall_mem_cons.mpr ⟨fun _ => zoX3_daysOver, fun _ h => absurd h List.not_mem_nil⟩⟩⟩⟩⟩⟩⟩⟩⟩
set_option maxRecDepth 20000 in
theorem zmM4 : ∀ q ∈ zmthT4, q.2.1 < 5 → zMok q.2.2.2.1 := List.forall_mem_cons.mpr ⟨fun h => absurd h (by decide), List.forall_mem_cons.mpr ⟨fun _ => zoX9_init, List.forall_mem_cons.mpr ⟨fun _ => zoX10_init, List.forall_mem_cons.mpr ⟨fun _ => zoX0_init, List.forall_mem_cons.mpr ⟨fun _ => zoX8_init, fun _ h => absurd h List.not_mem_nil⟩⟩⟩⟩⟩
set_option maxRecDepth 20000 in
theorem zmM5 : ∀ q ∈ zmthT5, q.2.1 < 5 → zMok q.2.2.2.1 := List.forall_mem_cons.mpr ⟨fun h => absurd h (by decide), List.forall_mem_cons.mpr ⟨fun _ => zoX4_clear, List.forall_mem_cons.mpr ⟨fun h => absurd h (by decide), List.forall_mem_cons.mpr ⟨fun _ => zoX5_readLine, List.forall_mem_cons.mpr ⟨fun _ => zoX5_nextToken, List.forall_mem_cons.mpr ⟨fun _ => zoX5_faulty, List.forall_mem_cons.mpr ⟨fun _ => zoX5_sortOfLine, List.forall_mem_cons.mpr ⟨fun _ => zoX5_readHead, List.forall_mem_cons.mpr ⟨fun _ => zoX5_readIsland, List.forall_mem_cons.mpr ⟨fun _ => zoX5_readWay, List.forall_mem_cons.mpr ⟨fun _ => zoX5_readWhale, List.forall_mem_cons.mpr ⟨fun _ => zoX5_readBox, List.forall_mem_cons.mpr ⟨fun _ => zoX5_readSpout, List.forall_mem_cons.mpr ⟨fun _ => zoX5_word, List.forall_mem_cons.mpr ⟨fun _ => zoX5_whole, List.forall_mem_cons.mpr ⟨fun _ => zoX5_newName, List.forall_mem_cons.mpr ⟨fun _ => zoX5_songOfToken, List.forall_mem_cons.mpr ⟨fun _ => zoX4_hasSong, List.forall_mem_cons.mpr ⟨fun _ => zoX5_toldName, List.forall_mem_cons.mpr ⟨fun _ => zoX4_wayBetween, List.forall_mem_cons.mpr ⟨fun _ => zoX5_kindOfToken, List.forall_mem_cons.mpr ⟨fun _ => zoX4_lastSpoutOf, List.forall_mem_cons.mpr ⟨fun _ => zoX5_isToken, List.forall_mem_cons.mpr ⟨fun _ => zoX5_nameOfToken, List.forall_mem_cons.mpr ⟨fun _ => zoX5_letters, List.forall_mem_cons.mpr ⟨fun _ => zoJ0_length_8abf5, List.forall_mem_cons.mpr ⟨fun _ => zoJ0_charAt_5068e, List.forall_mem_cons.mpr ⟨fun _ => zoX5_passAll, fun _ h => absurd h List.not_mem_nil⟩⟩⟩⟩⟩⟩⟩⟩⟩⟩⟩⟩⟩⟩⟩⟩⟩⟩⟩⟩⟩⟩⟩⟩⟩⟩⟩⟩
set_option maxRecDepth 20000 in
theorem zmM6 : ∀ q ∈ zmthT6, q.2.1 < 5 → zMok q.2.2.2.1 := List.forall_mem_cons.mpr ⟨fun h => absurd h (by decide), List.forall_mem_cons.mpr ⟨fun _ => zoJ7_fill_53178, List.forall_mem_cons.mpr ⟨fun _ => zoX2_isClosed, List.forall_mem_cons.mpr ⟨fun _ => zoX6_goes, List.forall_mem_cons.mpr ⟨fun _ => zoX6_dayOfLeaving, List.forall_mem_cons.mpr ⟨fun _ => zoX6_findFirstDays, List.forall_mem_cons.mpr ⟨fun _ => zoX2_isSent, List.forall_mem_cons.mpr ⟨fun _ => zoX4_boxLength, List.forall_mem_cons.mpr ⟨fun _ => zoX7_hearerOf, List.forall_mem_cons.mpr ⟨fun _ => zoX6_firstDayAt, List.forall_mem_cons.mpr ⟨fun h => absurd h (by decide), List.forall_mem_cons.mpr ⟨fun _ => zoX6_dayOfBringing, List.forall_mem_cons.mpr ⟨fun h => absurd h (by decide), List.forall_mem_cons.mpr ⟨fun _ => zoX6_isFitting, List.forall_mem_cons.mpr ⟨fun _ => zoX4_lastSpoutOf, List.forall_mem_cons.mpr ⟨fun _ => zoX6_fittingWhales, List.forall_mem_cons.mpr ⟨fun _ => zoJ6_bitCount_0f7a4, List.forall_mem_cons.mpr ⟨fun _ => zoX6_whalesReaching, List.forall_mem_cons.mpr ⟨fun h => absurd h (by decide), List.forall_mem_cons.mpr ⟨fun _ => zoX6_islandsReached, fun _ h => absurd h List.not_mem_nil⟩⟩⟩⟩⟩⟩⟩⟩⟩⟩⟩⟩⟩⟩⟩⟩⟩⟩⟩⟩
set_option maxRecDepth 20000 in
theorem zmM7 : ∀ q ∈ zmthT7, q.2.1 < 5 → zMok q.2.2.2.1 := List.forall_mem_cons.mpr ⟨fun h => absurd h (by decide), List.forall_mem_cons.mpr ⟨fun _ => zoX11_noteAt, List.forall_mem_cons.mpr ⟨fun _ => zoX7_fallIn, List.forall_mem_cons.mpr ⟨fun _ => zoX7_raised, List.forall_mem_cons.mpr ⟨fun _ => zoX11_unlikeNotes, List.forall_mem_cons.mpr ⟨fun _ => zoX7_apartness, List.forall_mem_cons.mpr ⟨fun _ => zoX7_keepSongsOf, List.forall_mem_cons.mpr ⟨fun _ => zoX7_isOfNotes, List.forall_mem_cons.mpr ⟨fun _ => zoX7_isFarFromKept, List.forall_mem_cons.mpr ⟨fun _ => zoX7_songIn, List.forall_mem_cons.mpr ⟨fun _ => zoX7_draw, List.forall_mem_cons.mpr ⟨fun _ => zoX11_withNote, fun _ h => absurd h List.not_mem_nil⟩⟩⟩⟩⟩⟩⟩⟩⟩⟩⟩⟩
set_option maxRecDepth 20000 in
theorem zmM8 : ∀ q ∈ zmthT8, q.2.1 < 5 → zMok q.2.2.2.1 := List.forall_mem_cons.mpr ⟨fun h => absurd h (by decide), fun _ h => absurd h List.not_mem_nil⟩
set_option maxRecDepth 20000 in
theorem zmM9 : ∀ q ∈ zmthT9, q.2.1 < 5 → zMok q.2.2.2.1 := List.forall_mem_cons.mpr ⟨fun h => absurd h (by decide), fun _ h => absurd h List.not_mem_nil⟩
set_option maxRecDepth 20000 in
theorem zmM10 : ∀ q ∈ zmthT10, q.2.1 < 5 → zMok q.2.2.2.1 := List.forall_mem_cons.mpr ⟨fun h => absurd h (by decide), fun _ h => absurd h List.not_mem_nil⟩
set_option maxRecDepth 20000 in
theorem zmM11 : ∀ q ∈ zmthT11, q.2.1 < 5 → zMok q.2.2.2.1 := List.forall_mem_cons.mpr ⟨fun h => absurd h (by decide), List.forall_mem_cons.mpr ⟨fun _ => zoX4_init, List.forall_mem_cons.mpr ⟨fun _ => zoX5_init, List.forall_mem_cons.mpr ⟨fun _ => zoX2_init, List.forall_mem_cons.mpr ⟨fun _ => zoX7_init, List.forall_mem_cons.mpr ⟨fun _ => zoX6_init, List.forall_mem_cons.mpr ⟨fun _ => zoX3_init, List.forall_mem_cons.mpr ⟨fun _ => zoX1_init, List.forall_mem_cons.mpr ⟨fun _ => zoX11_appendBytes, List.forall_mem_cons.mpr ⟨fun _ => zoX11_refused, List.forall_mem_cons.mpr ⟨fun _ => zoX5_readPost, List.forall_mem_cons.mpr ⟨fun _ => zoX11_takeDraft, List.forall_mem_cons.mpr ⟨fun _ => zoX11_granted, List.forall_mem_cons.mpr ⟨fun _ => zoX11_isWhale, List.forall_mem_cons.mpr ⟨fun _ => zoX11_isBox, List.forall_mem_cons.mpr ⟨fun _ => zoX11_isIsland, List.forall_mem_cons.mpr ⟨fun _ => zoX7_songIn, List.forall_mem_cons.mpr ⟨fun _ => zoX11_noteAt, List.forall_mem_cons.mpr ⟨fun _ => zoX11_isNoteOfBox, List.forall_mem_cons.mpr ⟨fun _ => zoX4_boxLength, List.forall_mem_cons.mpr ⟨fun _ => zoX11_hearerIn, List.forall_mem_cons.mpr ⟨fun _ => zoX11_areTwoIslands, List.forall_mem_cons.mpr ⟨fun _ => zoX4_wayBetween, List.forall_mem_cons.mpr ⟨fun _ => zoX2_isClosed, List.forall_mem_cons.mpr ⟨fun _ => zoX11_hasPost, List.forall_mem_cons.mpr ⟨fun _ => zoX11_isWithin, List.forall_mem_cons.mpr ⟨fun _ => zoX11_isWay, List.forall_mem_cons.mpr ⟨fun _ => zoX6_dayOfLeaving, List.forall_mem_cons.mpr ⟨fun _ => zoX2_isSent, List.forall_mem_cons.mpr ⟨fun _ => zoX11_sentPart, List.forall_mem_cons.mpr ⟨fun _ => zoX7_apartness, List.forall_mem_cons.mpr ⟨fun _ => zoX7_bearable, List.forall_mem_cons.mpr ⟨fun _ => zoX7_mixedPairs, List.forall_mem_cons.mpr ⟨fun _ => zoX11_refusalOfNewSong, List.forall_mem_cons.mpr ⟨fun _ => zoX7_findNew, List.forall_mem_cons.mpr ⟨fun _ => zoX7_hearerOf, List.forall_mem_cons.mpr ⟨fun _ => zoX6_firstDayAt, List.forall_mem_cons.mpr ⟨fun _ => zoX6_dayOfBringing, List.forall_mem_cons.mpr ⟨fun _ => zoX6_soonestBringer, List.forall_mem_cons.mpr ⟨fun _ => zoX6_surestBringer, List.forall_mem_cons.mpr ⟨fun _ => zoX6_bringersBy, List.forall_mem_cons.mpr ⟨fun _ => zoX11_commonDivisor, List.forall_mem_cons.mpr ⟨fun _ => zoX11_solveMatch, List.forall_mem_cons.mpr ⟨fun _ => zoX6_dayOfMeeting, List.forall_mem_cons.mpr ⟨fun _ => zoX6_fittingWhales, List.forall_mem_cons.mpr ⟨fun _ => zoX6_islandsReached, List.forall_mem_cons.mpr ⟨fun _ => zoX6_bestPier, List.forall_mem_cons.mpr ⟨fun _ => zoX3_fewestToWatch, List.forall_mem_cons.mpr ⟨fun _ => zoX3_findRound, List.forall_mem_cons.mpr ⟨fun _ => zoX11_heardWithSlips, List.forall_mem_cons.mpr ⟨fun _ => zoX11_keepForUndo, List.forall_mem_cons.mpr ⟨fun _ => zoX11_hasRefused, List.forall_mem_cons.mpr ⟨fun _ => zoX11_withNote, List.forall_mem_cons.mpr ⟨fun _ => zoX11_hasGranted, List.forall_mem_cons.mpr ⟨fun _ => zoX2_copyFrom, List.forall_mem_cons.mpr ⟨fun _ => zoX2_begin, List.forall_mem_cons.mpr ⟨fun h => absurd h (by decide), List.forall_mem_cons.mpr ⟨fun _ => zoX7_slipped, List.forall_mem_cons.mpr ⟨fun _ => zoX1_solve, List.forall_mem_cons.mpr ⟨fun h => absurd h (by decide), List.forall_mem_cons.mpr ⟨fun _ => zoJ6_bitCount_0f7a4, fun _ h => absurd h List.not_mem_nil⟩⟩⟩⟩⟩⟩⟩⟩⟩⟩⟩⟩⟩⟩⟩⟩⟩⟩⟩⟩⟩⟩⟩⟩⟩⟩⟩⟩⟩⟩⟩⟩⟩⟩⟩⟩⟩⟩⟩⟩⟩⟩⟩⟩⟩⟩⟩⟩⟩⟩⟩⟩⟩⟩⟩⟩⟩⟩⟩⟩⟩
set_option maxRecDepth 20000 in
theorem zmM12 : ∀ q ∈ zmthT12, q.2.1 < 5 → zMok q.2.2.2.1 := List.forall_mem_cons.mpr ⟨fun h => absurd h (by decide), List.forall_mem_cons.mpr ⟨fun _ => zoX12_look, List.forall_mem_cons.mpr ⟨fun _ => zoX12_isSmall, List.forall_mem_cons.mpr ⟨fun _ => zoX12_isDigit, List.forall_mem_cons.mpr ⟨fun _ => zoJ0_length_8abf5, List.forall_mem_cons.mpr ⟨fun _ => zoJ0_charAt_5068e, List.forall_mem_cons.mpr ⟨fun _ => zoX12_isWord, List.forall_mem_cons.mpr ⟨fun _ => zoX12_next, List.forall_mem_cons.mpr ⟨fun _ => zoX12_takesWord, List.forall_mem_cons.mpr ⟨fun _ => zoX12_wrong, List.forall_mem_cons.mpr ⟨fun _ => zoX12_mustName, List.forall_mem_cons.mpr ⟨fun _ => zoX12_find, List.forall_mem_cons.mpr ⟨fun _ => zoX12_in, List.forall_mem_cons.mpr ⟨fun _ => zoX12_named, List.forall_mem_cons.mpr ⟨fun _ => zoX12_must, List.forall_mem_cons.mpr ⟨fun _ => zoX12_islandPassed, List.forall_mem_cons.mpr ⟨fun _ => zoX12_number, List.forall_mem_cons.mpr ⟨fun _ => zoX12_good, List.forall_mem_cons.mpr ⟨fun _ => zoX12_no, List.forall_mem_cons.mpr ⟨fun _ => zoX12_readLine, List.forall_mem_cons.mpr ⟨fun _ => zoX12_copy, List.forall_mem_cons.mpr ⟨fun _ => zoX12_postLine, List.forall_mem_cons.mpr ⟨fun _ => zoX12_begins, List.forall_mem_cons.mpr ⟨fun _ => zoX12_islandLine, List.forall_mem_cons.mpr ⟨fun _ => zoX12_wayLine, List.forall_mem_cons.mpr ⟨fun _ => zoX12_whaleLine, List.forall_mem_cons.mpr ⟨fun _ => zoX12_boxLine, List.forall_mem_cons.mpr ⟨fun _ => zoX12_spoutLine, List.forall_mem_cons.mpr ⟨fun _ => zoX12_after, List.forall_mem_cons.mpr ⟨fun _ => zoX12_newName, List.forall_mem_cons.mpr ⟨fun _ => zoX12_isSong, List.forall_mem_cons.mpr ⟨fun _ => zoX12_joins, List.forall_mem_cons.mpr ⟨fun _ => zoX12_islandBehind, List.forall_mem_cons.mpr ⟨fun _ => zoX12_ofBox, List.forall_mem_cons.mpr ⟨fun _ => zoX12_songLong, List.forall_mem_cons.mpr ⟨fun _ => zoX12_isWhale, List.forall_mem_cons.mpr ⟨fun _ => zoX12_ofWhale, List.forall_mem_cons.mpr ⟨fun _ => zoX12_isBox, List.forall_mem_cons.mpr ⟨fun _ => zoX12_isIsland, List.forall_mem_cons.mpr ⟨fun _ => zoX12_noteIn, List.forall_mem_cons.mpr ⟨fun _ => zoX12_boxLong, List.forall_mem_cons.mpr ⟨fun _ => zoX12_unlike, List.forall_mem_cons.mpr ⟨fun _ => zoX12_hearsIn, List.forall_mem_cons.mpr ⟨fun _ => zoX12_heardNow, List.forall_mem_cons.mpr ⟨fun _ => zoX12_hasBit, List.forall_mem_cons.mpr ⟨fun _ => zoX12_isClosed, List.forall_mem_cons.mpr ⟨fun _ => zoX12_wayOf, List.forall_mem_cons.mpr ⟨fun _ => zoX12_nearOf, List.forall_mem_cons.mpr ⟨fun _ => zoX12_apartOf, List.forall_mem_cons.mpr ⟨fun _ => zoX12_power, List.forall_mem_cons.mpr ⟨fun _ => zoX12_digitsApart, List.forall_mem_cons.mpr ⟨fun _ => zoX12_songWhy, List.forall_mem_cons.mpr ⟨fun _ => zoX12_newSongs, List.forall_mem_cons.mpr ⟨fun _ => zoX12_hearsItself, List.forall_mem_cons.mpr ⟨fun _ => zoX12_setsOut, List.forall_mem_cons.mpr ⟨fun _ => zoX12_seasonOf, List.forall_mem_cons.mpr ⟨fun _ => zoX12_goesBy, List.forall_mem_cons.mpr ⟨fun _ => zoX12_dayBy, List.forall_mem_cons.mpr ⟨fun _ => zoX12_layDays, List.forall_mem_cons.mpr ⟨fun _ => zoX12_arrivalOf, List.forall_mem_cons.mpr ⟨fun _ => zoX12_later, List.forall_mem_cons.mpr ⟨fun _ => zoX12_lays, List.forall_mem_cons.mpr ⟨fun _ => zoX12_bringsOf, List.forall_mem_cons.mpr ⟨fun _ => zoX12_surestBut, List.forall_mem_cons.mpr ⟨fun _ => zoX12_lowest, List.forall_mem_cons.mpr ⟨fun _ => zoX12_tryMatch, List.forall_mem_cons.mpr ⟨fun _ => zoX12_seekMatch, List.forall_mem_cons.mpr ⟨fun _ => zoX12_fitsAll, List.forall_mem_cons.mpr ⟨fun _ => zoX12_reachOf, List.forall_mem_cons.mpr ⟨fun _ => zoX12_ones, List.forall_mem_cons.mpr ⟨fun _ => zoX12_doLead, List.forall_mem_cons.mpr ⟨fun _ => zoX12_tryRound, List.forall_mem_cons.mpr ⟨fun _ => zoX12_layFar, List.forall_mem_cons.mpr ⟨fun _ => zoX12_seekRound, List.forall_mem_cons.mpr ⟨fun _ => zoX12_note1, List.forall_mem_cons.mpr ⟨fun _ => zoX12_isNot, fun _ h => absurd h List.not_mem_nil⟩⟩⟩⟩⟩⟩⟩⟩⟩⟩⟩⟩⟩⟩⟩⟩⟩⟩⟩⟩⟩⟩⟩⟩⟩⟩⟩⟩⟩⟩⟩⟩⟩⟩⟩⟩⟩⟩⟩⟩⟩⟩⟩⟩⟩⟩⟩⟩⟩⟩⟩⟩⟩⟩⟩⟩⟩⟩⟩⟩⟩⟩⟩⟩⟩⟩⟩⟩⟩⟩⟩⟩⟩⟩⟩⟩
set_option maxRecDepth 20000 in
theorem zmM13 : ∀ q ∈ zmthT13, q.2.1 < 5 → zMok q.2.2.2.1 := List.forall_mem_cons.mpr ⟨fun _ => zoX11_init, List.forall_mem_cons.mpr ⟨fun _ => zoX12_init, List.forall_mem_cons.mpr ⟨fun _ => zoX11_feed, List.forall_mem_cons.mpr ⟨fun _ => zoX12_feed, List.forall_mem_cons.mpr ⟨fun _ => zoX11_post, List.forall_mem_cons.mpr ⟨fun _ => zoX12_post, List.forall_mem_cons.mpr ⟨fun _ => zoX11_fault, List.forall_mem_cons.mpr ⟨fun _ => zoX12_fault, List.forall_mem_cons.mpr ⟨fun _ => zoX11_where, List.forall_mem_cons.mpr ⟨fun _ => zoX12_where, List.forall_mem_cons.mpr ⟨fun _ => zoX11_whale, List.forall_mem_cons.mpr ⟨fun _ => zoX12_whale, List.forall_mem_cons.mpr ⟨fun _ => zoX11_box, List.forall_mem_cons.mpr ⟨fun _ => zoX12_box, List.forall_mem_cons.mpr ⟨fun _ => zoX11_length, List.forall_mem_cons.mpr ⟨fun _ => zoX12_length, List.forall_mem_cons.mpr ⟨fun _ => zoX11_note, List.forall_mem_cons.mpr ⟨fun _ => zoX12_note, List.forall_mem_cons.mpr ⟨fun _ => zoX11_sung, List.forall_mem_cons.mpr ⟨fun _ => zoX12_sung, List.forall_mem_cons.mpr ⟨fun _ => zoX11_heard, List.forall_mem_cons.mpr ⟨fun _ => zoX12_heard, List.forall_mem_cons.mpr ⟨fun _ => zoX11_way, List.forall_mem_cons.mpr ⟨fun _ => zoX12_way, List.forall_mem_cons.mpr ⟨fun _ => zoX11_season, List.forall_mem_cons.mpr ⟨fun _ => zoX12_season, List.forall_mem_cons.mpr ⟨fun _ => zoX11_sets, List.forall_mem_cons.mpr ⟨fun _ => zoX12_sets, List.forall_mem_cons.mpr ⟨fun _ => zoX11_sent, List.forall_mem_cons.mpr ⟨fun _ => zoX12_sent, List.forall_mem_cons.mpr ⟨fun _ => zoX11_apart, List.forall_mem_cons.mpr ⟨fun _ => zoX12_apart, List.forall_mem_cons.mpr ⟨fun _ => zoX11_bear, List.forall_mem_cons.mpr ⟨fun _ => zoX12_bear, List.forall_mem_cons.mpr ⟨fun _ => zoX11_mixed, List.forall_mem_cons.mpr ⟨fun _ => zoX12_mixed, List.forall_mem_cons.mpr ⟨fun _ => zoX11_fresh, List.forall_mem_cons.mpr ⟨fun _ => zoX12_fresh, List.forall_mem_cons.mpr ⟨fun _ => zoX11_byTurns, List.forall_mem_cons.mpr ⟨fun _ => zoX12_byTurns, List.forall_mem_cons.mpr ⟨fun _ => zoX11_near, List.forall_mem_cons.mpr ⟨fun _ => zoX12_near, List.forall_mem_cons.mpr ⟨fun _ => zoX11_asNear, List.forall_mem_cons.mpr ⟨fun _ => zoX12_asNear, List.forall_mem_cons.mpr ⟨fun _ => zoX11_heardIn, List.forall_mem_cons.mpr ⟨fun _ => zoX12_heardIn, List.forall_mem_cons.mpr ⟨fun _ => zoX11_strange, List.forall_mem_cons.mpr ⟨fun _ => zoX12_strange, List.forall_mem_cons.mpr ⟨fun _ => zoX11_arrival, List.forall_mem_cons.mpr ⟨fun _ => zoX12_arrival, List.forall_mem_cons.mpr ⟨fun _ => zoX11_brings, List.forall_mem_cons.mpr ⟨fun _ => zoX12_brings, List.forall_mem_cons.mpr ⟨fun _ => zoX11_soonest, List.forall_mem_cons.mpr ⟨fun _ => zoX12_soonest, List.forall_mem_cons.mpr ⟨fun _ => zoX11_surest, List.forall_mem_cons.mpr ⟨fun _ => zoX12_surest, List.forall_mem_cons.mpr ⟨fun _ => zoX11_by, List.forall_mem_cons.mpr ⟨fun _ => zoX12_by, List.forall_mem_cons.mpr ⟨fun _ => zoX11_registered, List.forall_mem_cons.mpr ⟨fun _ => zoX12_registered, List.forall_mem_cons.mpr ⟨fun _ => zoX11_match, List.forall_mem_cons.mpr ⟨fun _ => zoX12_match, List.forall_mem_cons.mpr ⟨fun _ => zoX11_matchDays, List.forall_mem_cons.mpr ⟨fun _ => zoX12_matchDays, List.forall_mem_cons.mpr ⟨fun _ => zoX11_matchOf, List.forall_mem_cons.mpr ⟨fun _ => zoX12_matchOf, List.forall_mem_cons.mpr ⟨fun _ => zoX11_meet, List.forall_mem_cons.mpr ⟨fun _ => zoX12_meet, List.forall_mem_cons.mpr ⟨fun _ => zoX11_fits, List.forall_mem_cons.mpr ⟨fun _ => zoX12_fits, List.forall_mem_cons.mpr ⟨fun _ => zoX11_reach, List.forall_mem_cons.mpr ⟨fun _ => zoX12_reach, List.forall_mem_cons.mpr ⟨fun _ => zoX11_pier, List.forall_mem_cons.mpr ⟨fun _ => zoX12_pier, List.forall_mem_cons.mpr ⟨fun _ => zoX11_watch, List.forall_mem_cons.mpr ⟨fun _ => zoX12_watch, List.forall_mem_cons.mpr ⟨fun _ => zoX11_round, List.forall_mem_cons.mpr ⟨fun _ => zoX12_round, List.forall_mem_cons.mpr ⟨fun _ => zoX11_roundAt, List.forall_mem_cons.mpr ⟨fun _ => zoX12_roundAt, List.forall_mem_cons.mpr ⟨fun _ => zoX11_decade, List.forall_mem_cons.mpr ⟨fun _ => zoX12_decade, List.forall_mem_cons.mpr ⟨fun _ => zoX11_send, List.forall_mem_cons.mpr ⟨fun _ => zoX12_send, List.forall_mem_cons.mpr ⟨fun _ => zoX11_tune, List.forall_mem_cons.mpr ⟨fun _ => zoX12_tune, List.forall_mem_cons.mpr ⟨fun _ => zoX11_years, List.forall_mem_cons.mpr ⟨fun _ => zoX12_years, List.forall_mem_cons.mpr ⟨fun _ => zoX11_close, List.forall_mem_cons.mpr ⟨fun _ => zoX12_close, List.forall_mem_cons.mpr ⟨fun _ => zoX11_undo, List.forall_mem_cons.mpr ⟨fun _ => zoX12_undo, List.forall_mem_cons.mpr ⟨fun _ => zoX11_image, List.forall_mem_cons.mpr ⟨fun _ => zoX12_image, List.forall_mem_cons.mpr ⟨fun _ => zoX11_back, List.forall_mem_cons.mpr ⟨fun _ => zoX12_back, List.forall_mem_cons.mpr ⟨fun h => absurd h (by decide), List.forall_mem_cons.mpr ⟨fun _ => zoX12_led, List.forall_mem_cons.mpr ⟨fun _ => zoX12_thrown, List.forall_mem_cons.mpr ⟨fun _ => zoX11_size, List.forall_mem_cons.mpr ⟨fun _ => zoX12_size, List.forall_mem_cons.mpr ⟨fun _ => zoX11_trouble, List.forall_mem_cons.mpr ⟨fun _ => zoX12_trouble, fun _ h => absurd h List.not_mem_nil⟩⟩⟩⟩⟩⟩⟩⟩⟩⟩⟩⟩⟩⟩⟩⟩⟩⟩⟩⟩⟩⟩⟩⟩⟩⟩⟩⟩⟩⟩⟩⟩⟩⟩⟩⟩⟩⟩⟩⟩⟩⟩⟩⟩⟩⟩⟩⟩⟩⟩⟩⟩⟩⟩⟩⟩⟩⟩⟩⟩⟩⟩⟩⟩⟩⟩⟩⟩⟩⟩⟩⟩⟩⟩⟩⟩⟩⟩⟩⟩⟩⟩⟩⟩⟩⟩⟩⟩⟩⟩⟩⟩⟩⟩⟩⟩⟩⟩⟩⟩⟩⟩⟩
set_option maxRecDepth 20000 in
theorem zmM14 : ∀ q ∈ zmthT14, q.2.1 < 5 → zMok q.2.2.2.1 := List.forall_mem_cons.mpr ⟨fun _ => zoJ0_coder_7d493, List.forall_mem_cons.mpr ⟨fun _ => zoJ0_isLatin1_aae02, List.forall_mem_cons.mpr ⟨fun _ => zoJ1_charAt_3b067, List.forall_mem_cons.mpr ⟨fun _ => zoJ3_checkIndex_8e157, fun _ h => absurd h List.not_mem_nil⟩⟩⟩⟩
set_option maxRecDepth 20000 in
theorem zmM15 : ∀ q ∈ zmthT15, q.2.1 < 5 → zMok q.2.2.2.1 := List.forall_mem_cons.mpr ⟨fun _ => zoJ0_checkIndex_df160, fun _ h => absurd h List.not_mem_nil⟩
set_option maxRecDepth 20000 in
theorem zmM16 : ∀ q ∈ zmthT16, q.2.1 < 5 → zMok q.2.2.2.1 := fun _ h => absurd h List.not_mem_nil
set_option maxRecDepth 20000 in
theorem zmM17 : ∀ q ∈ zmthT17, q.2.1 < 5 → zMok q.2.2.2.1 := fun _ h => absurd h List.not_mem_nil
set_option maxRecDepth 20000 in
theorem zmM18 : ∀ q ∈ zmthT18, q.2.1 < 5 → zMok q.2.2.2.1 := fun _ h => absurd h List.not_mem_nil
theorem zmM : ∀ o, o < 19 → ∀ q ∈ zmthTT.getD o [], q.2.1 < 5 → zMok q.2.2.2.1
  | 0, _ => zmM0
  | 1, _ => zmM1
  | 2, _ => zmM2
  | 3, _ => zmM3
  | 4, _ => zmM4
  | 5, _ => zmM5
  | 6, _ => zmM6
  | 7, _ => zmM7
  | 8, _ => zmM8
  | 9, _ => zmM9
  | 10, _ => zmM10
  | 11, _ => zmM11
  | 12, _ => zmM12
  | 13, _ => zmM13
  | 14, _ => zmM14
  | 15, _ => zmM15
  | 16, _ => zmM16
  | 17, _ => zmM17
  | 18, _ => zmM18
  | _ + 19, h => absurd h (by omega)
set_option maxRecDepth 20000 in
theorem zobjK : Cond.instanceMethod Lib.objectInit ∈ zws ∧ Cond.code Lib.objectInit ⟨#[0xb1]⟩ 1 none ∈ zws := ⟨zws_in (i := 1032) (by decide +kernel) (by decide +kernel), zws_in (i := 1033) (by decide +kernel) (by decide +kernel)⟩
set_option maxRecDepth 20000 in
theorem zmaxK : Cond.static Lib.Math.max.name ∈ zws ∧ Cond.initialized "java/lang/Math" ∈ zws ∧ Cond.code Lib.Math.max.name Lib.Math.max.code 2 (some .int) ∈ zws := ⟨zws_in (i := 4217) (by decide +kernel) (by decide +kernel), zws_in (i := 1014) (by decide +kernel) (by decide +kernel), zws_in (i := 4218) (by decide +kernel) (by decide +kernel)⟩
set_option maxRecDepth 20000 in
theorem zminK : Cond.static Lib.Math.min.name ∈ zws ∧ Cond.initialized "java/lang/Math" ∈ zws ∧ Cond.code Lib.Math.min.name Lib.Math.min.code 2 (some .int) ∈ zws := ⟨zws_in (i := 3039) (by decide +kernel) (by decide +kernel), zws_in (i := 1014) (by decide +kernel) (by decide +kernel), zws_in (i := 3040) (by decide +kernel) (by decide +kernel)⟩
set_option maxRecDepth 20000 in
theorem zabsK : Cond.static Lib.Math.abs.name ∈ zws ∧ Cond.initialized "java/lang/Math" ∈ zws ∧ Cond.code Lib.Math.abs.name Lib.Math.abs.code 1 (some .int) ∈ zws := ⟨zws_in (i := 5093) (by decide +kernel) (by decide +kernel), zws_in (i := 1014) (by decide +kernel) (by decide +kernel), zws_in (i := 5094) (by decide +kernel) (by decide +kernel)⟩
set_option maxRecDepth 20000 in
theorem zcpyK : Cond.native arraycopyName ∈ zws ∧ Cond.static arraycopyName ∈ zws ∧ Cond.initialized "java/lang/System" ∈ zws := ⟨zws_in (i := 5174) (by decide +kernel) (by decide +kernel), zws_in (i := 5173) (by decide +kernel) (by decide +kernel), zws_in (i := 1021) (by decide +kernel) (by decide +kernel)⟩
end
section
/-! fields and arrays of the small machine over the large one -/
theorem zft_get {ci f : Nat} (h1 : ci < 13) (h2 : f < (zft ci).length) : zftok ci f = true ∧ (zTT ci f).1 = zRn ci := by
  have a1 := List.all_eq_true.mp zft_ok ci (List.mem_range.mpr h1)
  have a2 := List.all_eq_true.mp a1 f (List.mem_range.mpr h2)
  simp only [Bool.and_eq_true, decide_eq_true_eq] at a2
  exact a2
theorem zget_own {α : Type} {l : List (List α)} {o : Nat} {x : α} (h : x ∈ l.getD o []) : o < l.length := by
  rcases Nat.lt_or_ge o l.length with q | q
  · exact q
  · have e : l.getD o [] = [] := by simp [List.getD, List.getElem?_eq_none q]
    rw [e] at h
    cases h
theorem zfld_get {o k ci f : Nat} (h : zfld o k = some (ci, f)) : ci < 13 ∧ f < (zft ci).length ∧ Cond.fieldLink (zRn o) k (zRn ci) (zTT ci f).2.1 (zTT ci f).2.2.1 ∈ zws := by
  unfold zfld at h
  obtain ⟨q, h1, h2⟩ := Option.map_eq_some_iff.mp h
  have hm := zlook_mem h1
  have ho : o < 19 := zget_own hm
  have hc := List.all_eq_true.mp (zfldK o ho) _ hm
  cases h2
  simp only [zfldC, Bool.and_eq_true, decide_eq_true_eq] at hc
  exact ⟨hc.1.1.1, hc.1.1.2, zws_in hc.1.2 hc.2⟩
def zfs (B : Nat) (sp : Nat → Nat) (h : zH) (a ci : Nat) : List Value := (List.range (zft ci).length).map (fun f => zcv B sp (zfv h ci a f))
theorem zfs_len {B : Nat} {sp : Nat → Nat} {h : zH} {a ci : Nat} : (zfs B sp h a ci).length = (zft ci).length := by simp [zfs]
theorem zfs_get {B : Nat} {sp : Nat → Nat} {h : zH} {a ci f : Nat} (hf : f < (zft ci).length) : (zfs B sp h a ci)[f]? = some (zcv B sp (zfv h ci a f)) := by
  simp [zfs, hf]
theorem zE_obj {B : Nat} {sp : Nat → Nat} {cA : Nat → ClassId} {h : zH} {a ci n : Nat} (hc : ci < 13) : zE B sp cA h a ci n = .inr (ci, zfs B sp h a ci) := by
  unfold zE
  rw [if_pos hc]
  rfl
theorem zE_B {B : Nat} {sp : Nat → Nat} {cA : Nat → ClassId} {h : zH} {a n : Nat} : zE B sp cA h a 13 n = .inl (cA 13, n, .inl (h.2.1 a)) := rfl
theorem zE_I {B : Nat} {sp : Nat → Nat} {cA : Nat → ClassId} {h : zH} {a n : Nat} : zE B sp cA h a 14 n = .inl (cA 14, n, .inl (h.2.1 a)) := rfl
theorem zE_J {B : Nat} {sp : Nat → Nat} {cA : Nat → ClassId} {h : zH} {a n : Nat} : zE B sp cA h a 15 n = .inl (cA 15, n, .inr (.inl (h.2.2.1 a))) := rfl
theorem zE_R {B : Nat} {sp : Nat → Nat} {cA : Nat → ClassId} {h : zH} {a k n : Nat} (hk : 16 ≤ k) : zE B sp cA h a k n = .inl (cA k, n, .inr (.inr (.inr (.inr (fun j => (h.2.2.2.1 a j).map (zad B sp)))))) := by
  unfold zE
  rw [if_neg (by omega), if_neg (by omega), if_neg (by omega)]
/-- a field's store, in the world -/
theorem zput_W {B : Nat} {sp : Nat → Nat} {cA : Nat → ClassId} {h h' : zH} {ci a f n : Nat} {v : zV} (hq : zsh h a = some (ci, n)) (hc : ci < 13) (hf : f < (zft ci).length) (hz : zput h ci a f v = some h') :
    h'.1 = h.1 ∧ h'.2.2.2.2 = h.2.2.2.2 ∧ zW B sp cA h' = (zW B sp cA h).set a (B + a, .inr (ci, (zfs B sp h a ci).set f (zcv B sp v))) ∧ narrow (zty ci f) (zcv B sp v) = zcv B sp v ∧ fits (zty ci f) (zcv B sp v) = true := by
  have hk := (zft_get hc hf).1
  unfold zput at hz
  split at hz
  · next x =>
    split at hz
    · next hcode =>
      cases hz
      have hne : (zft ci).getD f 0 ≠ 3 := by
        have e : (zft ci).getD f 0 = (zft ci).getD f 9 := by simp [List.getD, hf]
        rw [e]
        rcases hcode with q | ⟨q, -⟩ <;> rw [q] <;> decide
      refine ⟨rfl, rfl, ?_, ?_⟩
      · rw [zW_set (h' := zsI h a f x) hq rfl (fun b hb k n => zE_sI hb), zE_obj hc]
        congr 4
        refine List.ext_getElem? fun j => ?_
        by_cases hj : j < (zft ci).length
        · rw [zfs_get hj]
          by_cases hjf : j = f
          · subst hjf
            rw [List.getElem?_set_self (by rw [zfs_len]; exact hj)]
            unfold zfv
            rw [if_neg hne]
            simp [zsI, zup]
          · rw [List.getElem?_set_ne (Ne.symm hjf), zfs_get hj]
            unfold zfv
            simp [zsI, zup, hjf]
        · rw [List.getElem?_eq_none (by rw [zfs_len]; omega), List.getElem?_eq_none (by rw [List.length_set, zfs_len]; omega)]
      · rcases hcode with q | ⟨q, hx⟩
        · simp only [zftok, q, decide_eq_true_eq] at hk
          rw [hk]
          exact ⟨rfl, rfl⟩
        · simp only [zftok, q, decide_eq_true_eq] at hk
          rw [hk]
          rcases hx with rfl | rfl
          · exact ⟨(by decide : narrow FieldType.boolean (Value.int 0) = Value.int 0), (by decide : fits FieldType.boolean (Value.int 0) = true)⟩
          · exact ⟨(by decide : narrow FieldType.boolean (Value.int 1) = Value.int 1), (by decide : fits FieldType.boolean (Value.int 1) = true)⟩
    · cases hz
  · next r =>
    split at hz
    · next hcode =>
      cases hz
      have hne : (zft ci).getD f 0 = 3 := by
        have e : (zft ci).getD f 0 = (zft ci).getD f 9 := by simp [List.getD, hf]
        rw [e]; exact hcode
      refine ⟨rfl, rfl, ?_, ?_⟩
      · rw [zW_set (h' := zsR h a f r) hq rfl (fun b hb k n => zE_sR hb), zE_obj hc]
        congr 4
        refine List.ext_getElem? fun j => ?_
        by_cases hj : j < (zft ci).length
        · rw [zfs_get hj]
          by_cases hjf : j = f
          · subst hjf
            rw [List.getElem?_set_self (by rw [zfs_len]; exact hj)]
            unfold zfv
            rw [if_pos hne]
            simp [zsR, zup]
          · rw [List.getElem?_set_ne (Ne.symm hjf), zfs_get hj]
            unfold zfv
            simp [zsR, zup, hjf]
        · rw [List.getElem?_eq_none (by rw [zfs_len]; omega), List.getElem?_eq_none (by rw [List.length_set, zfs_len]; omega)]
      · simp only [zftok, hcode] at hk
        show narrow (zty ci f) (va_rf (r.map (zad B sp))) = va_rf (r.map (zad B sp)) ∧ fits (zty ci f) (va_rf (r.map (zad B sp))) = true
        generalize zty ci f = ty at hk
        cases ty <;> first | (cases hk; done) | (cases r <;> exact ⟨rfl, rfl⟩)
    · cases hz
  · cases hz
section ZP
variable {p : Program} {l : Launch} {e : Env} {R : Room} {s : State} {m : MethodId} {args : Array Value} {below : List Frame} {meth : Method} {c : Code} {H : Heap} {locs : List Loc} {cells slots : Nat} {Q : State → Prop}
variable {cc : ByteArray} {pc : Nat} {ls : Array Slot} {rest : List Value} {D : va_G} {cl : List vw_C} {A : Nat → Prop} {a : Nat} {tys : List (ClassId × FieldType)} {ws : va_W} {H0 : Heap}
/-- a field's store, which leaves the heap's size -/
theorem zp_put (hexec : p.tables.exec = Jvm.exec) (hb : c.code = cc) {own ref C : String} {T : u_T} {N ci index : Nat} {Ts : List Cond} (hts : ∀ w ∈ Ts, w.before args s = true) (hin : ∀ w ∈ u_ws C T N, w ∈ Ts) (ty0 : Nat → FieldType) (hty : ∀ k, k < N → parseFieldDescriptor (T k).2.2.1 = some (ty0 k)) (hnm : ∀ a, a < N → ∀ b, b < N → a ≠ b → (T a).2.1 ≠ (T b).2.1) (hown : s.vm.findClass own = some m.cls) (hK : va_K D cl tys s) (hP : va_P D cl ws H) (hD : va_D A ws) (hS0 : va_S A H0 H locs) (q0 : Nat) {fs : List Value} (he : ws[q0]? = some (a, .inr (ci, fs))) (hc : cl[ci]? = some (C, T, N)) (k : Nat) (hk : k < N) (hlink : (Cond.fieldLink own index ref (T k).2.1 (T k).2.2.1).before args s = true) (hsame : ∀ x, s.fieldFound? (T k).1 (T k).2.1 (T k).2.2.1 = some x → s.fieldFound? ref (T k).2.1 (T k).2.2.1 = some x) (hfin : (T k).2.2.2 = false ∨ (meth.name = "<init>" ∧ (T k).1 = own)) {v : Value} (hn : narrow (ty0 k) v = v) (hfit : fits (ty0 k) v = true) (hl : k < fs.length)
    (hdg : decode cc pc = .ok (.putfield index, 3)) (kk : ∀ (H1 : Heap) (locs1 : List Loc), H1.size = H.size → va_P D cl (ws.set q0 (a, .inr (ci, fs.set k v))) H1 → va_S A H0 H1 locs1 → W p l e R s m args below meth c H1 locs1 cells slots Q (F0 m (pc + 3) ls rest)) : W p l e R s m args below meth c H locs cells slots Q (F0 m pc ls (v :: .ref a :: rest)) := by
  have hap := va_apart (own := own) hts hin ty0 hty hnm hK hc
  obtain ⟨r, h1, cell, q1, q2, q3, q4⟩ := hP q0 _ he
  have hr : r = (C, T, N) := Option.some.inj (h1.symm.trans hc)
  subst hr
  obtain ⟨hS, hfc, kC, hkC, hkind⟩ := hK.1 ci _ hc
  obtain ⟨cf, kf, fi, f, hi, hsl⟩ := hS k hk
  have hlay := hts _ (hin _ (u_in_lay hk))
  have hst := (u_facts hfc hkC (u_lays hts hin hk) hi).1
  unfold u_lay at hlay
  by_cases hf : (T k).2.2.2 = true
  · obtain ⟨hin2, hdecl⟩ : meth.name = "<init>" ∧ (T k).1 = own := by
      rcases hfin with q | q
      · rw [q] at hf; cases hf
      · exact q
    rw [if_pos hf] at hlay
    have hcf : m.cls = cf := by
      obtain ⟨_, _, c', _, _, _, -, -, hf', -, -, -, hown2, -⟩ := Cond.laysFinal_spec hlay
      have e1 : c' = cf := by have := hi.symm.trans hf'; simp at this; exact this.1.symm
      rw [hdecl] at hown2
      rw [← e1]; exact Option.some.inj (hown.symm.trans hown2)
    have h6 := u_fits hfc hkC hkind (Or.inr hlay) hi (hty k hk) hn hfit
    refine W.putFinK hexec hb hown hlink (hsame _ hi) hst hcf hin2 (by rw [q2]; exact h6) q1 q3 (by rw [hsl]; exact k2_hasslot (q4 k hk)) rfl rfl hdg fun H' e1 e2 e3 => ?_
    rw [hsl] at e1 ⊢
    exact kk H' _ e2 (hP.set hD he ⟨_, hc, t_OB.to (V := updV (vp_V fs) k v) ⟨_, e1, q2, q3, t_set q4 hap hk v⟩ (fun j _ => vp_updV_set hl v j)⟩ e3) (hS0.put e2 e3 (hD.2 q0 _ he))
  · rw [if_neg hf] at hlay
    have h6 := u_store hfc hkC hkind hlay hi (hty k hk) hn hfit
    refine W.putK hexec hb (f := f) ⟨hown, hlink, ⟨_, _, _, hsame _ hi⟩, hst⟩ (by rw [q2]; exact h6) q1 q3 (by rw [hsl]; exact k2_hasslot (q4 k hk)) rfl rfl hdg fun H' e1 e2 e3 => ?_
    rw [hsl] at e1 ⊢
    exact kk H' _ e2 (hP.set hD he ⟨_, hc, t_OB.to (V := updV (vp_V fs) k v) ⟨_, e1, q2, q3, t_set q4 hap hk v⟩ (fun j _ => vp_updV_set hl v j)⟩ e3) (hS0.put e2 e3 (hD.2 q0 _ he))
/-- a text by a wide index -/
theorem zp_ldcwS (hexec : p.tables.exec = Jvm.exec) (hb : c.code = cc) {own tx : String} {index q : Nat} (hown : s.vm.findClass own = some m.cls) (hZ : vk_R own index tx q s) (hdg : decode cc pc = .ok (.ldc_w index, 3))
    (k : W p l e R s m args below meth c H locs cells slots Q (F0 m (pc + 3) ls (.ref q :: rest))) : W p l e R s m args below meth c H locs cells slots Q (F0 m pc ls rest) := by
  intro T hT X
  obtain ⟨t, a1, b1⟩ := k T hT X
  refine ⟨t, ?_, b1⟩
  obtain ⟨k, cf, i, a', hk, hcf, hcp, -, hr, hev'⟩ := Cond.stringRef_spec hown hZ.1
  cases hZ.2.symm.trans hev'
  obtain ⟨k', hk', he⟩ := X.warmed.alike.2.2 _ _ hk
  have hr' : k'.resolved[index]? = some (some (.string q)) := by
    rcases X.warmed.entry hk hk' index with h | ⟨h, -⟩
    · rw [h]; exact hr
    · rw [hr] at h; cases h
  have hdg' : decode c.code (F0 m pc ls rest).pc = .ok (.ldc_w index, 3) := by rw [hb]; exact hdg
  jvm_step X.here [hexec, hdg', ldc_w.wp_string (e := e) (s := T) (f := F0 m pc ls rest) X.here.top hk' (by rw [he]; exact hcf) hcp hr']
  exact a1
/-- stores into arrays, which leave the heap's size -/
theorem zp_iast (hexec : p.tables.exec = Jvm.exec) (hb : c.code = cc) (hK : va_K D cl tys s) (hP : va_P D cl ws H) (hD : va_D A ws) (hS : va_S A H0 H locs) (q0 t0 : Nat) {cA : ClassId} {n : Nat} {f : Nat → Int32} (ha : ws[q0]? = some (a, .inl (cA, n, .inl f))) (ht : tys[t0]? = some (cA, .int)) {i : Int32} {x : Int32} (hin : vp_in i n) (hdg : decode cc pc = .ok (.iastore, 1))
    (kk : ∀ (H1 : Heap) (locs1 : List Loc), H1.size = H.size → va_P D cl (ws.set q0 (a, .inl (cA, n, .inl (upd f i.toNatClampNeg x)))) H1 → va_S A H0 H1 locs1 → W p l e R s m args below meth c H1 locs1 cells slots Q (F0 m (pc + 1) ls rest)) : W p l e R s m args below meth c H locs cells slots Q (F0 m pc ls (.int x :: .int i :: .ref a :: rest)) := by
  refine W.iast hexec hb (hP q0 _ ha) ((hK.2 t0 _ ht).1 n (fun j => .int (f j))) (fun q => by cases q) (by show ¬ (i < 0 ∨ (arrV _ _ _).slots.size ≤ _); rw [arrV_size]; exact hin) rfl rfl hdg fun H1 e z oq => ?_
  refine kk H1 _ z (hP.set hD ha ?_ oq) (hS.put z oq (hD.2 q0 _ ha))
  show H1[a]? = some (vp_cell _ _)
  rw [e, vp_cell_i, vp_cell_i, arrV_store]
  congr 2
  funext q
  by_cases hq : q = i.toNatClampNeg
  · subst hq; simp [updV, upd]
  · simp [updV, upd, hq]
theorem zp_bast (hexec : p.tables.exec = Jvm.exec) (hb : c.code = cc) (hK : va_K D cl tys s) (hP : va_P D cl ws H) (hD : va_D A ws) (hS : va_S A H0 H locs) (q0 t0 : Nat) {cA : ClassId} {n : Nat} {f : Nat → Int32} (ha : ws[q0]? = some (a, .inl (cA, n, .inl f))) (ht : tys[t0]? = some (cA, .byte)) {i : Int32} {x : Int32} (hin : vp_in i n) (hdg : decode cc pc = .ok (.bastore, 1))
    (kk : ∀ (H1 : Heap) (locs1 : List Loc), H1.size = H.size → va_P D cl (ws.set q0 (a, .inl (cA, n, .inl (upd f i.toNatClampNeg (vp_nar .byte x))))) H1 → va_S A H0 H1 locs1 → W p l e R s m args below meth c H1 locs1 cells slots Q (F0 m (pc + 1) ls rest)) : W p l e R s m args below meth c H locs cells slots Q (F0 m pc ls (.int x :: .int i :: .ref a :: rest)) := by
  refine W.bast hexec hb (hP q0 _ ha) ((hK.2 t0 _ ht).1 n (fun j => .int (f j))) (fun q => by cases q) (by show ¬ (i < 0 ∨ (arrV _ _ _).slots.size ≤ _); rw [arrV_size]; exact hin) rfl rfl hdg fun H1 e z oq => ?_
  refine kk H1 _ z (hP.set hD ha ?_ oq) (hS.put z oq (hD.2 q0 _ ha))
  show H1[a]? = some (vp_cell _ _)
  rw [e, vp_cell_i, vp_cell_i, arrV_store]
  congr 2
  funext q
  by_cases hq : q = i.toNatClampNeg
  · subst hq; simp [updV, upd, vp_nar]; rfl
  · simp [updV, upd, hq]
theorem zp_last (hexec : p.tables.exec = Jvm.exec) (hb : c.code = cc) (hK : va_K D cl tys s) (hP : va_P D cl ws H) (hD : va_D A ws) (hS : va_S A H0 H locs) (q0 t0 : Nat) {cA : ClassId} {n : Nat} {f : Nat → Int64} (ha : ws[q0]? = some (a, .inl (cA, n, .inr (.inl f)))) (ht : tys[t0]? = some (cA, .long)) {i : Int32} {x : Int64} (hin : vp_in i n) (hdg : decode cc pc = .ok (.lastore, 1))
    (kk : ∀ (H1 : Heap) (locs1 : List Loc), H1.size = H.size → va_P D cl (ws.set q0 (a, .inl (cA, n, .inr (.inl (vp_updL f i.toNatClampNeg x))))) H1 → va_S A H0 H1 locs1 → W p l e R s m args below meth c H1 locs1 cells slots Q (F0 m (pc + 1) ls rest)) : W p l e R s m args below meth c H locs cells slots Q (F0 m pc ls (.long x :: .int i :: .ref a :: rest)) := by
  refine W.last hexec hb (hP q0 _ ha) ((hK.2 t0 _ ht).1 n (fun j => .long (f j))) (fun q => by cases q) (by show ¬ (i < 0 ∨ (arrV _ _ _).slots.size ≤ _); rw [arrV_size]; exact hin) rfl rfl hdg fun H1 e z oq => ?_
  refine kk H1 _ z (hP.set hD ha ?_ oq) (hS.put z oq (hD.2 q0 _ ha))
  show H1[a]? = some (vp_cell _ _)
  rw [e, vp_cell_l, vp_cell_l, arrV_store]
  congr 2
  funext q
  by_cases hq : q = i.toNatClampNeg
  · subst hq; simp [updV, vp_updL]
  · simp [updV, vp_updL, hq]
theorem zp_astq (hexec : p.tables.exec = Jvm.exec) (hb : c.code = cc) (hK : va_K D cl tys s) (hP : va_P D cl ws H) (hD : va_D A ws) (hS : va_S A H0 H locs) (q0 t0 qk ci : Nat) {cA : ClassId} {r : vw_C} {n v : Nat} {vs : List Value} {f : Nat → Option Nat} (ha : ws[q0]? = some (a, .inl (cA, n, .inr (.inr (.inr (.inr f)))))) (ht : tys[t0]? = some (cA, .object r.1)) (hv : ws[qk]? = some (v, .inr (ci, vs))) (hc : cl[ci]? = some r) {i : Int32} (hin : vp_in i n) (hdg : decode cc pc = .ok (.aastore, 1))
    (kk : ∀ (H1 : Heap) (locs1 : List Loc), H1.size = H.size → va_P D cl (ws.set q0 (a, .inl (cA, n, .inr (.inr (.inr (.inr (va_up f i.toNatClampNeg (some v)))))))) H1 → va_S A H0 H1 locs1 → W p l e R s m args below meth c H1 locs1 cells slots Q (F0 m (pc + 1) ls rest)) : W p l e R s m args below meth c H locs cells slots Q (F0 m pc ls (.ref v :: .int i :: .ref a :: rest)) := by
  have hlt : i.toNatClampNeg < n := Nat.not_le.mp fun q => hin (Or.inr q)
  have h0 : ¬ i < 0 := fun q => hin (Or.inl q)
  obtain ⟨r', hr', cellV, g1, g2, g3, -⟩ := hP qk _ hv
  have hcls := (hK.1 ci r hc).2
  obtain ⟨kA, comp, k1, k2, k3, -⟩ := (hK.2 t0 _ ht).2
  have hcomp : comp = D.1 ci := Option.some.inj (k3.symm.trans hcls.1)
  subst hcomp
  obtain ⟨kC, hkC, -⟩ := hcls.2
  refine W.aast hexec hb (hP q0 _ ha) (fun q h => by cases h) (fun h => by cases h) k1 k2 rfl hkC ⟨h0, by show _ < (arrV _ _ _).slots.size; rw [arrV_size]; exact hlt⟩ g1 (fun q h => by rw [g3] at h; cases h) (by rw [g2]; exact hkC) (by rw [g2]; exact va_assign hcls) rfl rfl hdg fun H1 e z oq => ?_
  refine kk H1 _ z (hP.set hD ha ?_ oq) (hS.put z oq (hD.2 q0 _ ha))
  show H1[a]? = some (vp_cell _ _)
  rw [e, vp_cell_q, vp_cell_q, arrV_store]
  congr 2
  funext q
  by_cases hq : q = i.toNatClampNeg
  · subst hq; simp [updV, va_up, va_rf]
  · simp [updV, va_up, hq]
/-- new cells, at the heap's end -/
theorem zp_new {c0 : Code} (hexec : p.tables.exec = Jvm.exec) (hb : c0.code = cc) {own C : String} {T : u_T} {N ci index : Nat} {Ts : List Cond} (hts : ∀ w ∈ Ts, w.before args s = true) (hin : ∀ w ∈ u_ws C T N, w ∈ Ts) (ty : Nat → FieldType) (hty : ∀ k, k < N → parseFieldDescriptor (T k).2.2.1 = some (ty k)) (hown : s.vm.findClass own = some m.cls) (hcl : (Cond.classLink own index C).before args s = true) (hinst : (Cond.instantiable C N).before args s = true) (hini : (Cond.initialized C).before args s = true)
    (hK : va_K D cl tys s) (hP : va_P D cl ws H) (hS : va_S A H0 H locs) (hc : cl[ci]? = some (C, T, N)) {fs : List Value} (hfs : ∀ j, j < N → defaultValue (ty j) = vp_V fs j) (hcells : cells + 1 ≤ R.cells) (hslots : slots + N ≤ R.slots) (hdg : decode cc pc = .ok (.new index, 3))
    (kk : ∀ (H1 : Heap), H1.size = H.size + 1 → va_P D cl (ws ++ [(H.size, .inr (ci, fs))]) H1 → va_S A H0 H1 locs →
      W p l e R s m args below meth c0 H1 locs (cells + 1) (slots + N) Q (F0 m (pc + 3) ls (.ref H.size :: rest))) : W p l e R s m args below meth c0 H locs cells slots Q (F0 m pc ls rest) := by
  have hKn := hK.1 ci _ hc
  refine W.newcK hexec hb hown hcl hinst hini rfl hdg hcells hslots hKn.2.1 rfl fun H1 kC hkC e1 z1 o1 => ?_
  have hk : ∀ (k : Nat) (x : Nat × va_E), ws[k]? = some x → H1[x.1]? = H[x.1]? := fun k x hx => o1 x.1 ((hP k x hx).lt)
  refine kk H1 z1 ((hP.kept hk).app (fun k x hx => ?_)) ⟨Nat.le_trans hS.1 (by omega), fun x h1 h2 => (o1 x (Nat.lt_of_lt_of_le h1 hS.1)).trans (hS.2.1 x h1 h2), hS.2.2⟩
  have hz : k < 1 := (List.getElem?_eq_some_iff.mp hx).1
  rw [show k = 0 by omega] at hx
  cases hx
  exact ⟨_, hc, (u_born ty hts hin hKn hkC e1 hty).to hfs⟩
theorem zp_newa (hexec : p.tables.exec = Jvm.exec) (hb : c.code = cc) {atype : ArrayType} (harr : (Cond.arrayClass (newarray.typeOf atype)).before args s = true) (hP : va_P D cl ws H) (hS : va_S A H0 H locs)
    {n : Int32} {N' : Nat} {a0 : vp_A} {cX : ClassId} (hX : s.vm.findClass ("[" ++ (newarray.typeOf atype).toString) = some cX) (ha : vp_cell cX a0 = arrV cX N' (fun _ => defaultValue (newarray.typeOf atype))) (hn : ¬ n < 0) (hN : n.toNatClampNeg = N') (hbytes : N' * componentBytes (newarray.typeOf atype) ≤ 536870912) (hcells : cells + 1 ≤ R.cells) (hslots : slots + N' ≤ R.slots) (hdg : decode cc pc = .ok (.newarray atype, 2))
    (kk : ∀ (H1 : Heap), H1.size = H.size + 1 → va_P D cl (ws ++ [(H.size, .inl (cX, a0))]) H1 → va_S A H0 H1 locs →
      W p l e R s m args below meth c H1 locs (cells + 1) (slots + N') Q (F0 m (pc + 2) ls (.ref H.size :: rest))) : W p l e R s m args below meth c H locs cells slots Q (F0 m pc ls (.int n :: rest)) := by
  refine va_newaK hexec hb harr rfl hdg rfl hn hN hbytes hcells hslots rfl fun H1 cA e1 z1 o1 hAr hNm => ?_
  have hcc : cA = cX := Option.some.inj (hNm.symm.trans hX)
  subst hcc
  have hk : ∀ (k : Nat) (x : Nat × va_E), ws[k]? = some x → H1[x.1]? = H[x.1]? := fun k x hx => o1 x.1 ((hP k x hx).lt)
  refine kk H1 z1 ((hP.kept hk).app (fun k x hx => ?_)) ⟨Nat.le_trans hS.1 (by omega), fun x h1 h2 => (o1 x (Nat.lt_of_lt_of_le h1 hS.1)).trans (hS.2.1 x h1 h2), hS.2.2⟩
  have hz : k < 1 := (List.getElem?_eq_some_iff.mp hx).1
  rw [show k = 0 by omega] at hx
  cases hx
  show H1[H.size]? = some (vp_cell _ _)
  rw [ha]
  exact e1
theorem zp_newq (hexec : p.tables.exec = Jvm.exec) (hb : c.code = cc) {own C : String} {index : Nat} (hown : s.vm.findClass own = some m.cls) (hclink : (Cond.classLink own index C).before args s = true) (hover : va_AO C s) (hP : va_P D cl ws H) (hS : va_S A H0 H locs)
    {n : Int32} {N' : Nat} {cX : ClassId} (hX : s.vm.findClass ("[" ++ (FieldType.object C).toString) = some cX) (hn : ¬ n < 0) (hN : n.toNatClampNeg = N') (hbytes : N' * 4 ≤ 536870912) (hcells : cells + 1 ≤ R.cells) (hslots : slots + N' ≤ R.slots) (hdg : decode cc pc = .ok (.anewarray index, 3))
    (kk : ∀ (H1 : Heap), H1.size = H.size + 1 → va_P D cl (ws ++ [(H.size, .inl (cX, N', .inr (.inr (.inr (.inr (fun _ => none))))))]) H1 → va_S A H0 H1 locs →
      W p l e R s m args below meth c H1 locs (cells + 1) (slots + N') Q (F0 m (pc + 3) ls (.ref H.size :: rest))) : W p l e R s m args below meth c H locs cells slots Q (F0 m pc ls (.int n :: rest)) := by
  subst hN
  refine W.anew hexec hb hown hclink (va_AO.use hover) rfl hdg rfl hn hbytes hcells hslots fun cA kA comp f1 f2 f3 f4 => ?_
  have hcc : cA = cX := Option.some.inj (f1.symm.trans hX)
  subst hcc
  generalize hH1 : H.push ({ cls := cA, slots := Array.replicate n.toNatClampNeg .null, vm := .none } : Cell) = H1
  have z1 : H1.size = H.size + 1 := by rw [← hH1, Array.size_push]
  have e1 : H1[H.size]? = some (arrV cA n.toNatClampNeg (fun _ => .null)) := by rw [← hH1, Array.getElem?_push_size, ← arrV_new]
  have o1 : ∀ q : Nat, q < H.size → H1[q]? = H[q]? := fun q hq => by rw [← hH1, Array.getElem?_push, if_neg (Nat.ne_of_lt hq)]
  have hk : ∀ (k : Nat) (x : Nat × va_E), ws[k]? = some x → H1[x.1]? = H[x.1]? := fun k x hx => o1 x.1 ((hP k x hx).lt)
  refine kk H1 z1 ((hP.kept hk).app (fun k x hx => ?_)) ⟨Nat.le_trans hS.1 (by omega), fun x h1 h2 => (o1 x (Nat.lt_of_lt_of_le h1 hS.1)).trans (hS.2.1 x h1 h2), hS.2.2⟩
  have hz : k < 1 := (List.getElem?_eq_some_iff.mp hx).1
  rw [show k = 0 by omega] at hx
  cases hx
  show H1[H.size]? = some (vp_cell _ _)
  rw [vp_cell_q]
  exact e1
end ZP
section ZS3
variable {p : Program} {l : Launch} {e : Env} {R : Room} {s : State} {m : MethodId} {args : Array Value} {below : List Frame} {meth : Method} {c : Code} {Q : State → Prop} {B : Nat} {sp : Nat → Nat} {cA : Nat → ClassId} {D : va_G} {mi : zM} {c0 s0 : Nat}
variable {pc len : Nat} {ls : zL} {st : List zV} {h : zH}
theorem zok_lt {a : Nat} {q : Nat × Nat} (hk : zok h) (hq : zsh h a = some q) : a < 1000000 := by
  have := zsh_lt hq
  have := hk.1
  omega
theorem zs_get {k a ci f n : Nat} (cx : zX p s m args meth c B sp cA D mi) (hd : decode mi.1 pc = .ok (.getfield k, 3)) (hz : zfld mi.2.1 k = some (ci, f)) (hq : zsh h a = some (ci, n)) (kk : zK p l e R s m args below meth c Q B sp cA D mi c0 s0 (pc + 3, ls, zfv h ci a f :: st, h)) : zK p l e R s m args below meth c Q B sp cA D mi c0 s0 (pc, ls, .inr (.inr (some a)) :: st, h) := by
  intro H locs lA cells slots hR hS hl h1 h2
  obtain ⟨hx, hb, hml, hown, hts, hin, hK, -⟩ := cx
  obtain ⟨hc, hf, hw⟩ := zfld_get hz
  have hW := zW_get (B := B) (sp := sp) (cA := cA) hq
  rw [zE_obj hc] at hW
  show W p l e R s m args below meth c H locs cells slots Q (F0 m pc lA (zcv B sp (.inr (.inr (some a))) :: st.map (zcv B sp)))
  rw [zcv_ref (zok_lt hR.2.1 hq)]
  exact va_get hx hb hts (zcl_ws hc) hown hK hR.1 a hW (zcl_cl hc) f hf (hts _ hw) (by rw [(zft_get hc hf).2]; exact fun _ q => q) (zfs_get hf) hd (kk H locs lA cells slots hR hS hl h1 h2)
theorem zs_put {k a ci f n : Nat} {v : zV} {h' : zH} (cx : zX p s m args meth c B sp cA D mi) (hd : decode mi.1 pc = .ok (.putfield k, 3)) (hz : zfld mi.2.1 k = some (ci, f)) (hq : zsh h a = some (ci, n)) (hfi : zfin ci f = false ∨ (mi.2.2.2.2.2 = true ∧ mi.2.1 = ci)) (hp : zput h ci a f v = some h')
    (kk : zK p l e R s m args below meth c Q B sp cA D mi c0 s0 (pc + 3, ls, st, h')) : zK p l e R s m args below meth c Q B sp cA D mi c0 s0 (pc, ls, v :: .inr (.inr (some a)) :: st, h) := by
  intro H locs lA cells slots hR hS hl h1 h2
  obtain ⟨hx, hb, hml, hown, hts, hin, hK, -⟩ := cx
  obtain ⟨hc, hf, hw⟩ := zfld_get hz
  have hW := zW_get (B := B) (sp := sp) (cA := cA) hq
  rw [zE_obj hc] at hW
  obtain ⟨e1, e2, e3, e4, e5⟩ := zput_W (B := B) (sp := sp) (cA := cA) hq hc hf hp
  show W p l e R s m args below meth c H locs cells slots Q (F0 m pc lA (zcv B sp v :: zcv B sp (.inr (.inr (some a))) :: st.map (zcv B sp)))
  rw [zcv_ref (zok_lt hR.2.1 hq)]
  have hzc : zc h' = zc h := by unfold zc; rw [e1, e2]
  have hzt : zt h' = zt h := by unfold zt; rw [e1, e2]
  have hok : zok h' := by unfold zok zsh; rw [e1]; exact hR.2.1
  refine zp_put hx hb hts (zcl_ws hc) (zty ci) (zcl_ty hc) (zcl_nm hc) hown hK hR.1 zW_D hS a hW (zcl_cl hc) f hf (hts _ hw) (by rw [(zft_get hc hf).2]; exact fun _ q => q) ?_ e4 e5 (by rw [zfs_len]; exact hf) hd (fun H1 locs1 hz1 hP1 hS1 => ?_)
  · rcases hfi with q | ⟨q1, q2⟩
    · exact Or.inl q
    · exact Or.inr ⟨hin q1, by rw [(zft_get hc hf).2, q2]⟩
  · exact kk H1 locs1 lA cells slots ⟨by rw [e3]; exact hP1, hok, fun q => by rw [hz1, e1]; exact hR.2.2 (by rw [← e2]; exact q)⟩ hS1 hl (by rw [hzc]; exact h1) (by rw [hzt]; exact h2)
/-- constants of the pool -/
theorem zcst_get {o k : Nat} {v : zV} (hz : zcst o k = some v) : (∃ x, v = .inl x ∧ Cond.constant (zRn o) k x ∈ zws) ∨ (∃ x, v = .inr (.inl x) ∧ Cond.constantLong (zRn o) k x ∈ zws) ∨ (∃ a q, v = .inr (.inr (some a)) ∧ 1000000 ≤ a ∧ q ∈ zsr ∧ q.1 = o ∧ q.2.1 = k ∧ q.2.2.2.1 = a) := by
  unfold zcst at hz
  obtain ⟨q, h1, h2⟩ := Option.map_eq_some_iff.mp hz
  have hm := zlook_mem h1
  have ho : o < 19 := zget_own hm
  have hc := List.all_eq_true.mp (List.all_eq_true.mp zcstK o (List.mem_range.mpr ho)) _ hm
  cases h2
  unfold zcstC at hc
  dsimp only at hc
  split at hc
  · next x hx =>
    simp only [Bool.and_eq_true, decide_eq_true_eq] at hc
    exact Or.inl ⟨x, hx, zws_in hc.1 hc.2⟩
  · next x hx =>
    simp only [Bool.and_eq_true, decide_eq_true_eq] at hc
    exact Or.inr (Or.inl ⟨x, hx, zws_in hc.1 hc.2⟩)
  · next a hx =>
    simp only [Bool.and_eq_true, decide_eq_true_eq, List.any_eq_true] at hc
    obtain ⟨⟨q', h3, ⟨h4, h5⟩, h6⟩, h7⟩ := hc
    exact Or.inr (Or.inr ⟨a, q', hx, h7, h3, h4, h5, h6⟩)
  · cases hc
theorem zs_ldv {k : Nat} {i : Instr} {v : zV} (cx : zX p s m args meth c B sp cA D mi) (hi : (i = .ldc k ∧ len = 2) ∨ (i = .ldc_w k ∧ len = 3) ∨ (i = .ldc2_w k ∧ len = 3)) (hd : decode mi.1 pc = .ok (i, len)) (hz : zcst mi.2.1 k = some v) (hn : i = .ldc2_w k ↔ zcat v = 2)
    (kk : zK p l e R s m args below meth c Q B sp cA D mi c0 s0 (pc + len, ls, v :: st, h)) : zK p l e R s m args below meth c Q B sp cA D mi c0 s0 (pc, ls, st, h) := by
  intro H locs lA cells slots hR hS hl h1 h2
  have k' := kk H locs lA cells slots hR hS hl h1 h2
  obtain ⟨hx, hb, hml, hown, hts, hin, hC⟩ := cx
  rcases zcst_get hz with ⟨x, rfl, hw⟩ | ⟨x, rfl, hw⟩ | ⟨a, q, rfl, ha, hq, e1, e2, e3⟩
  · rcases hi with ⟨rfl, rfl⟩ | ⟨rfl, rfl⟩ | ⟨rfl, rfl⟩
    · exact lv_ldc hx hb hown (hts _ hw) hd k'
    · exact lv_ldcw hx hb hown (hts _ hw) hd k'
    · exact absurd (hn.mp rfl) (by simp [zcat])
  · rcases hi with ⟨rfl, rfl⟩ | ⟨rfl, rfl⟩ | ⟨rfl, rfl⟩
    · exact absurd (hn.mpr rfl) (by simp)
    · exact absurd (hn.mpr rfl) (by simp)
    · exact lv_ldc2 hx hb hown (hts _ hw) hd k'
  · rcases hi with ⟨rfl, rfl⟩ | ⟨rfl, rfl⟩ | ⟨rfl, rfl⟩
    · have hZ := hC.2.2.1 q hq
      rw [e1, e2, e3] at hZ
      refine va_ldcS hx hb hown hZ hd ?_
      have e4 : zcv B sp (.inr (.inr (some a))) = .ref (sp a) := by
        show va_rf (some (zad B sp a)) = _
        rw [zad, if_neg (by omega)]
        rfl
      have k2 : W p l e R s m args below meth c H locs cells slots Q (F0 m (pc + 2) lA (zcv B sp (.inr (.inr (some a))) :: st.map (zcv B sp))) := k'
      rw [e4] at k2
      exact k2
    · have hZ := hC.2.2.1 q hq
      rw [e1, e2, e3] at hZ
      refine zp_ldcwS hx hb hown hZ hd ?_
      have e4 : zcv B sp (.inr (.inr (some a))) = .ref (sp a) := by
        show va_rf (some (zad B sp a)) = _
        rw [zad, if_neg (by omega)]
        rfl
      have k2 : W p l e R s m args below meth c H locs cells slots Q (F0 m (pc + 3) lA (zcv B sp (.inr (.inr (some a))) :: st.map (zcv B sp))) := k'
      rw [e4] at k2
      exact k2
    · exact absurd (hn.mp rfl) (by simp [zcat])
theorem zin_in {i : Int32} {n : Nat} (hz : zin i n = true) : vp_in i n := by
  unfold zin at hz
  exact fun hq => (of_decide_eq_true hz : ¬ (i < 0 ∨ n ≤ i.toNatClampNeg)) hq
/-- an int array's place is read, or the script's -/
theorem zs_iald {a : Nat} {i v : Int32} {scr : Option (Nat × (Nat → Int32))} (cx : zX p s m args meth c B sp cA D mi) (hd : decode mi.1 pc = .ok (.iaload, 1)) (hz : zld scr h 14 a i = some v) (hscr : ∀ L xs, scr = some (L, xs) → va_X (sp 1000000) L xs s s.heap ∧ sp 1000000 < s.heap.size ∧ sp 1000000 < B)
    (kk : zK p l e R s m args below meth c Q B sp cA D mi c0 s0 (pc + 1, ls, .inl v :: st, h)) : zK p l e R s m args below meth c Q B sp cA D mi c0 s0 (pc, ls, .inl i :: .inr (.inr (some a)) :: st, h) := by
  intro H locs lA cells slots hR hS hl h1 h2
  have k' := kk H locs lA cells slots hR hS hl h1 h2
  obtain ⟨hx, hb, hml, hown, hts, hin, hC⟩ := cx
  show W p l e R s m args below meth c H locs cells slots Q (F0 m pc lA (.int i :: zcv B sp (.inr (.inr (some a))) :: st.map (zcv B sp)))
  unfold zld at hz
  split at hz
  · next k n hq =>
    split at hz
    · next hk =>
      subst hk
      split at hz
      · next hi =>
        cases hz
        rw [zcv_ref (zok_lt hR.2.1 hq)]
        exact va_iald hx hb hC.1 hR.1 a 1 (zW_get hq) rfl (zin_in hi) hd k'
      · cases hz
    · cases hz
  · split at hz
    · next hq =>
      obtain ⟨-, rfl⟩ := hq
      split at hz
      · next L xs =>
        split at hz
        · next hi =>
          cases hz
          obtain ⟨hX, hbl, hbB⟩ := hscr L xs rfl
          have e4 : zcv B sp (.inr (.inr (some 1000000))) = .ref (sp 1000000) := rfl
          rw [e4]
          exact va_sld hx hb hX hbl (Nat.not_le.mpr hbB) hS (zin_in hi) hd k'
        · cases hz
      · cases hz
    · cases hz
theorem zs_bald {a : Nat} {i v : Int32} {scr : Option (Nat × (Nat → Int32))} (cx : zX p s m args meth c B sp cA D mi) (hd : decode mi.1 pc = .ok (.baload, 1)) (hz : zld scr h 13 a i = some v)
    (kk : zK p l e R s m args below meth c Q B sp cA D mi c0 s0 (pc + 1, ls, .inl v :: st, h)) : zK p l e R s m args below meth c Q B sp cA D mi c0 s0 (pc, ls, .inl i :: .inr (.inr (some a)) :: st, h) := by
  intro H locs lA cells slots hR hS hl h1 h2
  have k' := kk H locs lA cells slots hR hS hl h1 h2
  obtain ⟨hx, hb, hml, hown, hts, hin, hC⟩ := cx
  show W p l e R s m args below meth c H locs cells slots Q (F0 m pc lA (.int i :: zcv B sp (.inr (.inr (some a))) :: st.map (zcv B sp)))
  unfold zld at hz
  split at hz
  · next k n hq =>
    split at hz
    · next hk =>
      subst hk
      split at hz
      · next hi =>
        cases hz
        rw [zcv_ref (zok_lt hR.2.1 hq)]
        exact va_bald hx hb hC.1 hR.1 a 0 (zW_get hq) rfl (zin_in hi) hd k'
      · cases hz
    · cases hz
  · split at hz
    · next hq => exact absurd hq.1 (by decide)
    · cases hz
theorem zs_lald {a n : Nat} {i : Int32} (cx : zX p s m args meth c B sp cA D mi) (hd : decode mi.1 pc = .ok (.laload, 1)) (hq : zsh h a = some (15, n)) (hi : zin i n = true)
    (kk : zK p l e R s m args below meth c Q B sp cA D mi c0 s0 (pc + 1, ls, .inr (.inl (h.2.2.1 a i.toNatClampNeg)) :: st, h)) : zK p l e R s m args below meth c Q B sp cA D mi c0 s0 (pc, ls, .inl i :: .inr (.inr (some a)) :: st, h) := by
  intro H locs lA cells slots hR hS hl h1 h2
  have k' := kk H locs lA cells slots hR hS hl h1 h2
  obtain ⟨hx, hb, hml, hown, hts, hin, hC⟩ := cx
  show W p l e R s m args below meth c H locs cells slots Q (F0 m pc lA (.int i :: zcv B sp (.inr (.inr (some a))) :: st.map (zcv B sp)))
  rw [zcv_ref (zok_lt hR.2.1 hq)]
  exact va_lald hx hb hC.1 hR.1 a 2 (zW_get hq) rfl (zin_in hi) hd k'
theorem ztys_R {k : Nat} (h1 : 16 ≤ k) (h2 : k ≤ 20) : (ztys cA)[k - 13]? = some (cA k, .object (zRn (zrc k))) := by
  have : k = 16 ∨ k = 17 ∨ k = 18 ∨ k = 19 ∨ k = 20 := by omega
  rcases this with rfl | rfl | rfl | rfl | rfl <;> rfl
theorem zs_aald {a k n : Nat} {i : Int32} (cx : zX p s m args meth c B sp cA D mi) (hd : decode mi.1 pc = .ok (.aaload, 1)) (hq : zsh h a = some (k, n)) (hk : 16 ≤ k) (hk2 : k ≤ 20) (hi : zin i n = true)
    (kk : zK p l e R s m args below meth c Q B sp cA D mi c0 s0 (pc + 1, ls, .inr (.inr (h.2.2.2.1 a i.toNatClampNeg)) :: st, h)) : zK p l e R s m args below meth c Q B sp cA D mi c0 s0 (pc, ls, .inl i :: .inr (.inr (some a)) :: st, h) := by
  intro H locs lA cells slots hR hS hl h1 h2
  have k' := kk H locs lA cells slots hR hS hl h1 h2
  obtain ⟨hx, hb, hml, hown, hts, hin, hC⟩ := cx
  show W p l e R s m args below meth c H locs cells slots Q (F0 m pc lA (.int i :: zcv B sp (.inr (.inr (some a))) :: st.map (zcv B sp)))
  rw [zcv_ref (zok_lt hR.2.1 hq)]
  have hW := zW_get (B := B) (sp := sp) (cA := cA) hq
  rw [zE_R hk] at hW
  exact va_aldq hx hb hC.1 hR.1 a (k - 13) hW (ztys_R hk hk2) (zin_in hi) hd k'
theorem zs_iast {a : Nat} {i v : Int32} {h' : zH} (cx : zX p s m args meth c B sp cA D mi) (hd : decode mi.1 pc = .ok (.iastore, 1)) (hz : zst h 14 a i v = some h')
    (kk : zK p l e R s m args below meth c Q B sp cA D mi c0 s0 (pc + 1, ls, st, h')) : zK p l e R s m args below meth c Q B sp cA D mi c0 s0 (pc, ls, .inl v :: .inl i :: .inr (.inr (some a)) :: st, h) := by
  intro H locs lA cells slots hR hS hl h1 h2
  obtain ⟨hx, hb, hml, hown, hts, hin, hC⟩ := cx
  show W p l e R s m args below meth c H locs cells slots Q (F0 m pc lA (.int v :: .int i :: zcv B sp (.inr (.inr (some a))) :: st.map (zcv B sp)))
  unfold zst at hz
  split at hz
  · next k n hq =>
    split at hz
    · next hk =>
      subst hk
      split at hz
      · next hi =>
        cases hz
        rw [zcv_ref (zok_lt hR.2.1 hq)]
        refine zp_iast hx hb hC.1 hR.1 zW_D hS a 1 (zW_get hq) rfl (zin_in hi) hd (fun H1 locs1 hz1 hP1 hS1 => ?_)
        refine kk H1 locs1 lA cells slots ⟨?_, hR.2.1, fun q => by rw [hz1]; exact hR.2.2 q⟩ hS1 hl h1 h2
        rw [zW_set (h' := zsI h a i.toNatClampNeg v) hq rfl (fun b hb k n => zE_sI hb), zE_I]
        have e : (zsI h a i.toNatClampNeg v).2.1 a = upd (h.2.1 a) i.toNatClampNeg v := by
          funext j
          simp [zsI, zup, upd]
        rw [e]
        exact hP1
      · cases hz
    · cases hz
  · cases hz
theorem zs_bast {a : Nat} {i v : Int32} {h' : zH} (cx : zX p s m args meth c B sp cA D mi) (hd : decode mi.1 pc = .ok (.bastore, 1)) (hz : zst h 13 a i (vp_nar .byte v) = some h')
    (kk : zK p l e R s m args below meth c Q B sp cA D mi c0 s0 (pc + 1, ls, st, h')) : zK p l e R s m args below meth c Q B sp cA D mi c0 s0 (pc, ls, .inl v :: .inl i :: .inr (.inr (some a)) :: st, h) := by
  intro H locs lA cells slots hR hS hl h1 h2
  obtain ⟨hx, hb, hml, hown, hts, hin, hC⟩ := cx
  show W p l e R s m args below meth c H locs cells slots Q (F0 m pc lA (.int v :: .int i :: zcv B sp (.inr (.inr (some a))) :: st.map (zcv B sp)))
  unfold zst at hz
  split at hz
  · next k n hq =>
    split at hz
    · next hk =>
      subst hk
      split at hz
      · next hi =>
        cases hz
        rw [zcv_ref (zok_lt hR.2.1 hq)]
        refine zp_bast hx hb hC.1 hR.1 zW_D hS a 0 (zW_get hq) rfl (zin_in hi) hd (fun H1 locs1 hz1 hP1 hS1 => ?_)
        refine kk H1 locs1 lA cells slots ⟨?_, hR.2.1, fun q => by rw [hz1]; exact hR.2.2 q⟩ hS1 hl h1 h2
        rw [zW_set (h' := zsI h a i.toNatClampNeg (vp_nar .byte v)) hq rfl (fun b hb k n => zE_sI hb), zE_B]
        have e : (zsI h a i.toNatClampNeg (vp_nar .byte v)).2.1 a = upd (h.2.1 a) i.toNatClampNeg (vp_nar .byte v) := by
          funext j
          simp [zsI, zup, upd]
        rw [e]
        exact hP1
      · cases hz
    · cases hz
  · cases hz
theorem zs_last {a n : Nat} {i : Int32} {v : Int64} (cx : zX p s m args meth c B sp cA D mi) (hd : decode mi.1 pc = .ok (.lastore, 1)) (hq : zsh h a = some (15, n)) (hi : zin i n = true)
    (kk : zK p l e R s m args below meth c Q B sp cA D mi c0 s0 (pc + 1, ls, st, zsL h a i.toNatClampNeg v)) : zK p l e R s m args below meth c Q B sp cA D mi c0 s0 (pc, ls, .inr (.inl v) :: .inl i :: .inr (.inr (some a)) :: st, h) := by
  intro H locs lA cells slots hR hS hl h1 h2
  obtain ⟨hx, hb, hml, hown, hts, hin, hC⟩ := cx
  show W p l e R s m args below meth c H locs cells slots Q (F0 m pc lA (.long v :: .int i :: zcv B sp (.inr (.inr (some a))) :: st.map (zcv B sp)))
  rw [zcv_ref (zok_lt hR.2.1 hq)]
  refine zp_last hx hb hC.1 hR.1 zW_D hS a 2 (zW_get hq) rfl (zin_in hi) hd (fun H1 locs1 hz1 hP1 hS1 => ?_)
  refine kk H1 locs1 lA cells slots ⟨?_, hR.2.1, fun q => by rw [hz1]; exact hR.2.2 q⟩ hS1 hl h1 h2
  show va_P D vwCl (zW B sp cA (zsL h a i.toNatClampNeg v)) H1
  rw [zW_set (h' := zsL h a i.toNatClampNeg v) hq rfl (fun b hb k n => zE_sL hb), zE_J]
  have e : (zsL h a i.toNatClampNeg v).2.2.1 a = vp_updL (h.2.2.1 a) i.toNatClampNeg v := by
    funext j
    simp [zsL, zup, vp_updL]
  rw [e]
  exact hP1
theorem zs_aast {a k n v nv : Nat} {i : Int32} (cx : zX p s m args meth c B sp cA D mi) (hd : decode mi.1 pc = .ok (.aastore, 1)) (hq : zsh h a = some (k, n)) (hv : zsh h v = some (zrc k, nv)) (hk : 16 ≤ k) (hk2 : k ≤ 20) (hi : zin i n = true)
    (kk : zK p l e R s m args below meth c Q B sp cA D mi c0 s0 (pc + 1, ls, st, zsR h a i.toNatClampNeg (some v))) : zK p l e R s m args below meth c Q B sp cA D mi c0 s0 (pc, ls, .inr (.inr (some v)) :: .inl i :: .inr (.inr (some a)) :: st, h) := by
  intro H locs lA cells slots hR hS hl h1 h2
  obtain ⟨hx, hb, hml, hown, hts, hin, hC⟩ := cx
  show W p l e R s m args below meth c H locs cells slots Q (F0 m pc lA (zcv B sp (.inr (.inr (some v))) :: .int i :: zcv B sp (.inr (.inr (some a))) :: st.map (zcv B sp)))
  rw [zcv_ref (zok_lt hR.2.1 hq), zcv_ref (zok_lt hR.2.1 hv)]
  have hrc : zrc k < 13 := by
    have : k = 16 ∨ k = 17 ∨ k = 18 ∨ k = 19 ∨ k = 20 := by omega
    rcases this with rfl | rfl | rfl | rfl | rfl <;> decide
  have hW := zW_get (B := B) (sp := sp) (cA := cA) hq
  rw [zE_R hk] at hW
  have hWv := zW_get (B := B) (sp := sp) (cA := cA) hv
  rw [zE_obj hrc] at hWv
  refine zp_astq hx hb hC.1 hR.1 zW_D hS a (k - 13) v (zrc k) hW (r := (zRn (zrc k), zTT (zrc k), (zft (zrc k)).length)) (ztys_R hk hk2) hWv (zcl_cl hrc) (zin_in hi) hd (fun H1 locs1 hz1 hP1 hS1 => ?_)
  refine kk H1 locs1 lA cells slots ⟨?_, hR.2.1, fun q => by rw [hz1]; exact hR.2.2 q⟩ hS1 hl h1 h2
  show va_P D vwCl (zW B sp cA (zsR h a i.toNatClampNeg (some v))) H1
  rw [zW_set (h' := zsR h a i.toNatClampNeg (some v)) hq rfl (fun b hb k n => zE_sR hb), zE_R hk]
  have e : (fun j => ((zsR h a i.toNatClampNeg (some v)).2.2.2.1 a j).map (zad B sp)) = va_up (fun j => (h.2.2.2.1 a j).map (zad B sp)) i.toNatClampNeg (some (B + v)) := by
    funext j
    by_cases hj : j = i.toNatClampNeg
    · subst hj
      have := zok_lt hR.2.1 hv
      simp [zsR, zup, va_up, zad, this]
    · simp [zsR, zup, va_up, hj]
  rw [e]
  exact hP1
theorem zs_alen {a : Nat} {v : Int32} {scr : Option (Nat × (Nat → Int32))} (cx : zX p s m args meth c B sp cA D mi) (hd : decode mi.1 pc = .ok (.arraylength, 1)) (hz : zlen scr h a = some v) (hscr : ∀ L xs, scr = some (L, xs) → va_X (sp 1000000) L xs s s.heap ∧ sp 1000000 < s.heap.size ∧ sp 1000000 < B)
    (kk : zK p l e R s m args below meth c Q B sp cA D mi c0 s0 (pc + 1, ls, .inl v :: st, h)) : zK p l e R s m args below meth c Q B sp cA D mi c0 s0 (pc, ls, .inr (.inr (some a)) :: st, h) := by
  intro H locs lA cells slots hR hS hl h1 h2
  have k' := kk H locs lA cells slots hR hS hl h1 h2
  obtain ⟨hx, hb, hml, hown, hts, hin, hC⟩ := cx
  show W p l e R s m args below meth c H locs cells slots Q (F0 m pc lA (zcv B sp (.inr (.inr (some a))) :: st.map (zcv B sp)))
  unfold zlen at hz
  split at hz
  · next k n hq =>
    split at hz
    · next hk =>
      cases hz
      rw [zcv_ref (zok_lt hR.2.1 hq)]
      have h20 := hR.2.1.2 a _ hq
      have hW := zW_get (B := B) (sp := sp) (cA := cA) hq
      have h3 : k = 13 ∨ k = 14 ∨ k = 15 ∨ 16 ≤ k := by omega
      rcases h3 with rfl | rfl | rfl | h3
      · exact va_alen hx hb hC.1 hR.1 a 0 hW rfl rfl hd k'
      · exact va_alen hx hb hC.1 hR.1 a 1 hW rfl rfl hd k'
      · exact va_alen hx hb hC.1 hR.1 a 2 hW rfl rfl hd k'
      · rw [zE_R h3] at hW
        exact va_alen hx hb hC.1 hR.1 a (k - 13) hW (ztys_R h3 h20) rfl hd k'
    · cases hz
  · split at hz
    · next hq =>
      subst hq
      obtain ⟨⟨L, xs⟩, hs1, hs2⟩ := Option.map_eq_some_iff.mp hz
      obtain ⟨hX, hbl, hbB⟩ := hscr L xs hs1
      have e4 : zcv B sp (.inr (.inr (some 1000000))) = .ref (sp 1000000) := rfl
      rw [e4]
      subst hs2
      exact va_slen hx hb hX hbl (Nat.not_le.mpr hbB) hS hd k'
    · cases hz
end ZS3
end
section
/-! new cells, the JDK's own, calls -/
section ZP4
variable {p : Program} {l : Launch} {e : Env} {R : Room} {s : State} {m : MethodId} {args : Array Value} {below : List Frame} {meth : Method} {c : Code} {H : Heap} {locs : List Loc} {cells slots : Nat} {Q : State → Prop}
variable {cc : ByteArray} {pc : Nat} {ls : Array Slot} {rest : List Value} {D : va_G} {cl : List vw_C} {A : Nat → Prop} {a : Nat} {tys : List (ClassId × FieldType)} {ws : va_W} {H0 : Heap}
/-- System.arraycopy of ints, which leaves the heap's size -/
theorem zp_copyi (hexec : p.tables.exec = Jvm.exec) (hb : c.code = cc) (hml : c.maxLocals = ls.size) {own : String} {index : Nat} (hown : s.vm.findClass own = some m.cls) (hlink : (Cond.methodLink own index arraycopyName).before args s = true) (hnat : (Cond.native arraycopyName).before args s = true) (hstat : (Cond.static arraycopyName).before args s = true) (hini : (Cond.initialized "java/lang/System").before args s = true)
    (hK : va_K D cl tys s) (hP : va_P D cl ws H) (hD : va_D A ws) (hS : va_S A H0 H locs) (q0 q1 t0 t1 : Nat) {a0 : Nat} {c0 c1 : ClassId} {n0 n1 : Nat} {f g : Nat → Int32} (ha0 : ws[q0]? = some (a0, .inl (c0, n0, .inl f))) (ha1 : ws[q1]? = some (a, .inl (c1, n1, .inl g))) (ht0 : tys[t0]? = some (c0, .int)) (ht1 : tys[t1]? = some (c1, .int))
    {sp dp n : Int32} (h1 : ¬ sp < 0) (h2 : ¬ dp < 0) (h3 : ¬ n < 0) (h4 : sp.toNatClampNeg + n.toNatClampNeg ≤ n0) (h5 : dp.toNatClampNeg + n.toNatClampNeg ≤ n1)
    (hframes : 1 ≤ R.frames) (hlocals : (rest.map fun v => v.category).sum + 18 ≤ R.locals) (hdg : decode cc pc = .ok (.invokestatic index, 3))
    (kk : ∀ (H1 : Heap) (locs1 : List Loc), H1.size = H.size → va_P D cl (ws.set q1 (a, .inl (c1, n1, .inl (va_cpy f g sp.toNatClampNeg dp.toNatClampNeg n.toNatClampNeg)))) H1 → va_S A H0 H1 locs1 → W p l e R s m args below meth c H1 locs1 cells slots Q (F0 m (pc + 3) ls rest)) : W p l e R s m args below meth c H locs cells slots Q (F0 m pc ls (.int n :: .int dp :: .ref a :: .int sp :: .ref a0 :: rest)) := by
  have nn : ∀ z : Int32, ¬ z < 0 → z.toInt = (z.toNatClampNeg : Int) := by
    intro z hz
    have hz0 : (0 : Int) ≤ z.toInt := by
      have := Int32.not_lt.mp hz
      simpa using Int32.le_iff_toInt_le.mp this
    show z.toInt = ((z.toInt.toNat : Nat) : Int)
    omega
  intro T hT X
  have hc0 : H[a0]? = some (vp_cell c0 (n0, .inl f)) := hP q0 _ ha0
  have hc1 : H[a]? = some (vp_cell c1 (n1, .inl g)) := hP q1 _ ha1
  obtain ⟨-, k0, hk0, cm0, hkk0⟩ := (hK.2 t0 _ ht0).1 n0 (fun j => .int (f j))
  obtain ⟨-, k1, hk1, cm1, hkk1⟩ := (hK.2 t1 _ ht1).1 n1 (fun j => .int (g j))
  obtain ⟨vm', X', step⟩ := X.arraycopy hexec hown hlink hnat hstat hini (src := a0) (dst := a) (cs := vp_cell c0 (n0, .inl f)) (cd := vp_cell c1 (n1, .inl g)) (srcPos := sp) (destPos := dp) (n := n) (by rw [hT]; exact hc0) (by rw [hT]; exact hc1)
    (fun _ h => by cases h) (fun _ h => by cases h) (fun h => by cases h) (fun h => by cases h) hk0 hk1 hkk0 hkk1 (by simp [refKind]) h1 h2 h3
    (by rw [nn sp h1, nn n h3]; show ¬ _ > ((arrV c0 n0 (fun j => .int (f j))).slots.size : Int); rw [arrV_size]; omega)
    (by rw [nn dp h2, nn n h3]; show ¬ _ > ((arrV c1 n1 (fun j => .int (g j))).slots.size : Int); rw [arrV_size]; omega)
    (fun vm₁ _ i hi => by
      have e : (vp_cell c0 (n0, .inl f)).slots.getD (sp.toNatClampNeg + i) .null = .int (f (sp.toNatClampNeg + i)) := by
        show (arrV c0 n0 (fun j => .int (f j))).slots.getD _ _ = _
        rw [Array.getD_eq_getD_getElem?, arrV_read _ _ (by omega)]
        rfl
      refine ⟨?_, ?_⟩
      · rw [e]
        rfl
      · rw [e]
        exact trivial)
    (g := F0 m pc ls (.int n :: .int dp :: .ref a :: .int sp :: .ref a0 :: rest)) rfl (by rw [hml]) (rest := rest) rfl (by rw [hb]; exact hdg) hframes (by show 2 * 0 + _ + (7 + 11) ≤ _; omega)
  have e1 : copied (vp_cell c0 (n0, .inl f)) (vp_cell c1 (n1, .inl g)) sp dp n = vp_cell c1 (n1, .inl (va_cpy f g sp.toNatClampNeg dp.toNatClampNeg n.toNatClampNeg)) := va_copied (fun z => .int z) c0 c1 f g h4
  rw [e1] at X' step
  have hl : a < H.size := (Array.getElem?_eq_some_iff.mp hc1).1
  have hheap : ((T.setVm vm').setCell a (vp_cell c1 (n1, .inl (va_cpy f g sp.toNatClampNeg dp.toNatClampNeg n.toNatClampNeg)))).heap = H.setIfInBounds a (vp_cell c1 (n1, .inl (va_cpy f g sp.toNatClampNeg dp.toNatClampNeg n.toNatClampNeg))) := by rw [← hT]; rfl
  have oq : ∀ q : Nat, q ≠ a → (H.setIfInBounds a (vp_cell c1 (n1, .inl (va_cpy f g sp.toNatClampNeg dp.toNatClampNeg n.toNatClampNeg))))[q]? = H[q]? := fun q hq => by simp [Array.getElem?_setIfInBounds, Ne.symm hq]
  obtain ⟨t, a1, b1⟩ := kk _ _ (by simp) (hP.set hD ha1 (show (H.setIfInBounds a _)[a]? = some _ by simp [Array.getElem?_setIfInBounds, hl]) oq) ⟨by simp; exact hS.1, fun q g1 g2 => by
      rw [oq q (fun e => g2 (by rw [e]; exact hD.2 q1 _ ha1))]
      exact hS.2.1 q g1 g2, fun q hq => by
      rcases List.mem_append.mp hq with h | h
      · exact hS.2.2 q h
      · obtain ⟨z, -, hz⟩ := List.mem_map.mp h
        rw [← hz]
        exact hD.2 q1 _ ha1⟩ _ hheap X'
  exact ⟨t, step t a1, b1⟩
end ZP4
section ZS4
variable {p : Program} {l : Launch} {e : Env} {R : Room} {s : State} {m : MethodId} {args : Array Value} {below : List Frame} {meth : Method} {c : Code} {Q : State → Prop} {B : Nat} {sp : Nat → Nat} {cA : Nat → ClassId} {D : va_G} {mi : zM} {c0 s0 : Nat}
variable {pc len : Nat} {ls : zL} {st : List zV} {h : zH}
theorem zok_new {k n : Nat} (hk : zok h) (h20 : k ≤ 20) (hl : h.1.1 < 900000) : zok (znew h k n) := by
  refine ⟨by show h.1.1 + 1 ≤ 900000; omega, fun a q hq => ?_⟩
  have hl := zsh_lt hq
  have he := zsh_eq hq
  simp only [znew] at hl he
  by_cases ha : a = h.1.1
  · rw [if_pos ha] at he
    subst he
    exact h20
  · rw [if_neg ha] at he
    exact hk.2 a q (by unfold zsh; rw [if_pos (by omega), he])
theorem zc_new {k n : Nat} : zc (znew h k n) = zc h + 1 := by simp [zc, znew]; omega
theorem zt_new {k n : Nat} : zt (znew h k n) = zt h + n := by simp [zt, znew]; omega
theorem zcls_get {o k ci : Nat} (hz : zcls o k = some ci) (hci : ci < 13) : Cond.classLink (zRn o) k (zRn ci) ∈ zws := by
  unfold zcls at hz
  obtain ⟨q, h1, h2⟩ := Option.map_eq_some_iff.mp hz
  have hm := zlook_mem h1
  have ho : o < 19 := zget_own hm
  have hc := List.all_eq_true.mp (List.all_eq_true.mp zclsK o (List.mem_range.mpr ho)) _ hm
  cases h2
  unfold zclsC at hc
  rw [if_pos hci] at hc
  simp only [Bool.and_eq_true, decide_eq_true_eq] at hc
  exact zws_in hc.1 hc.2
theorem zins_get {ci : Nat} (hci : ci < 13) : Cond.instantiable (zRn ci) (zft ci).length ∈ zws ∧ Cond.initialized (zRn ci) ∈ zws := by
  have hc := List.all_eq_true.mp zinsK ci (List.mem_range.mpr hci)
  simp only [Bool.and_eq_true, decide_eq_true_eq] at hc
  exact ⟨zws_in hc.1.1.1 hc.1.1.2, zws_in hc.1.2 hc.2⟩
theorem zs_new {k ci : Nat} (cx : zX p s m args meth c B sp cA D mi) (hd : decode mi.1 pc = .ok (.new k, 3)) (hz : zcls mi.2.1 k = some ci) (hci : ci < 13) (hcnt : h.2.2.2.2 = 0) (hlen : h.1.1 < 900000) (hr1 : zc (znew h ci (zft ci).length) ≤ c0 + R.cells) (hr2 : zt (znew h ci (zft ci).length) ≤ s0 + R.slots)
    (kk : zK p l e R s m args below meth c Q B sp cA D mi c0 s0 (pc + 3, ls, .inr (.inr (some h.1.1)) :: st, znew h ci (zft ci).length)) : zK p l e R s m args below meth c Q B sp cA D mi c0 s0 (pc, ls, st, h) := by
  intro H locs lA cells slots hR hS hl h1 h2
  obtain ⟨hx, hb, hml, hown, hts, hin, hC⟩ := cx
  have hsz := hR.2.2 hcnt
  dsimp only at h1 h2
  rw [zc_new] at hr1
  rw [zt_new] at hr2
  refine zp_new (fs := zfs B sp (znew h ci (zft ci).length) h.1.1 ci) hx hb hts (zcl_ws hci) (zty ci) (zcl_ty hci) hown (hts _ (zcls_get hz hci)) (hts _ (zins_get hci).1) (hts _ (zins_get hci).2) hC.1 hR.1 hS (zcl_cl hci) (fun j hj => ?_) (by omega) (by omega) hd (fun H1 hz1 hP1 hS1 => ?_)
  · have hk := (zft_get hci hj).1
    have e1 : vp_V (zfs B sp (znew h ci (zft ci).length) h.1.1 ci) j = zcv B sp (zfv (znew h ci (zft ci).length) ci h.1.1 j) := by
      simp [vp_V, List.getD, zfs_get hj]
    rw [e1]
    have e2 : (zft ci).getD j 0 = (zft ci).getD j 9 := by simp [List.getD, hj]
    unfold zfv
    rw [e2]
    unfold zftok at hk
    split at hk
    · next q =>
      rw [q, of_decide_eq_true hk]
      simp [znew, zrow, zcv, defaultValue]
    · next q =>
      rw [q, of_decide_eq_true hk]
      simp [znew, zrow, zcv, defaultValue]
    · next q =>
      rw [q]
      generalize zty ci j = ty at hk
      cases ty <;> first | (cases hk; done) | simp [znew, zrow, zcv, defaultValue, va_rf]
    · cases hk
  · have e3 : zcv B sp (.inr (.inr (some h.1.1))) = .ref H.size := by rw [zcv_ref (by omega), hsz]
    have k' := kk H1 locs lA (cells + 1) (slots + (zft ci).length) ⟨?_, zok_new hR.2.1 (by omega) hlen, fun _ => by rw [hz1, hsz]; simp [znew]; omega⟩ hS1 hl (by show c0 + (cells + 1) = zc (znew h ci (zft ci).length); rw [zc_new]; omega) (by show s0 + (slots + (zft ci).length) = zt (znew h ci (zft ci).length); rw [zt_new]; omega)
    · have k2 : W p l e R s m args below meth c H1 locs (cells + 1) (slots + (zft ci).length) Q (F0 m (pc + 3) lA (zcv B sp (.inr (.inr (some h.1.1))) :: st.map (zcv B sp))) := k'
      rw [e3] at k2
      exact k2
    · show va_P D vwCl (zW B sp cA (znew h ci (zft ci).length)) H1
      rw [zW_new (h := h) (k := ci) (n := (zft ci).length) (fun b hb k n => zE_new hb), zE_obj hci, ← hsz]
      exact hP1
theorem zs_newa {n : Int32} {t : ArrayType} {kd : Nat} (cx : zX p s m args meth c B sp cA D mi) (hd : decode mi.1 pc = .ok (.newarray t, 2)) (ht : (t = .byte ∧ kd = 13) ∨ (t = .int ∧ kd = 14) ∨ (t = .long ∧ kd = 15)) (hcnt : h.2.2.2.2 = 0) (hlen : h.1.1 < 900000) (hn : ¬ n < 0) (hN : n.toNatClampNeg ≤ 100000) (hr1 : zc (znew h kd n.toNatClampNeg) ≤ c0 + R.cells) (hr2 : zt (znew h kd n.toNatClampNeg) ≤ s0 + R.slots)
    (kk : zK p l e R s m args below meth c Q B sp cA D mi c0 s0 (pc + 2, ls, .inr (.inr (some h.1.1)) :: st, znew h kd n.toNatClampNeg)) : zK p l e R s m args below meth c Q B sp cA D mi c0 s0 (pc, ls, .inl n :: st, h) := by
  intro H locs lA cells slots hR hS hl h1 h2
  obtain ⟨hx, hb, hml, hown, hts, hin, hC⟩ := cx
  have hsz := hR.2.2 hcnt
  dsimp only at h1 h2
  rw [zc_new] at hr1
  rw [zt_new] at hr2
  have e3 : zcv B sp (.inr (.inr (some h.1.1))) = .ref H.size := by rw [zcv_ref (by omega), hsz]
  have fin : ∀ (H1 : Heap), kd ≤ 20 → H1.size = H.size + 1 → va_P D vwCl (zW B sp cA h ++ [(H.size, zE B sp cA (znew h kd n.toNatClampNeg) h.1.1 kd n.toNatClampNeg)]) H1 → va_S (zAr B) s.heap H1 locs → W p l e R s m args below meth c H1 locs (cells + 1) (slots + n.toNatClampNeg) Q (F0 m (pc + 2) lA (.ref H.size :: st.map (zcv B sp))) := by
    intro H1 h20 hz1 hP1 hS1
    have k' := kk H1 locs lA (cells + 1) (slots + n.toNatClampNeg) ⟨by
      show va_P D vwCl (zW B sp cA (znew h kd n.toNatClampNeg)) H1
      rw [zW_new (h := h) (k := kd) (n := n.toNatClampNeg) (fun b hb k n => zE_new hb), ← hsz]
      exact hP1, zok_new hR.2.1 h20 hlen, fun _ => by rw [hz1, hsz]; simp [znew]; omega⟩ hS1 hl (by show c0 + (cells + 1) = zc (znew h kd n.toNatClampNeg); rw [zc_new]; omega) (by show s0 + (slots + n.toNatClampNeg) = zt (znew h kd n.toNatClampNeg); rw [zt_new]; omega)
    have k2 : W p l e R s m args below meth c H1 locs (cells + 1) (slots + n.toNatClampNeg) Q (F0 m (pc + 2) lA (zcv B sp (.inr (.inr (some h.1.1))) :: st.map (zcv B sp))) := k'
    rw [e3] at k2
    exact k2
  have z0 : (znew h kd n.toNatClampNeg).2.1 h.1.1 = fun _ => 0 := by funext j; simp [znew, zrow]
  have z1 : (znew h kd n.toNatClampNeg).2.2.1 h.1.1 = fun _ => 0 := by funext j; simp [znew, zrow]
  rcases ht with ⟨rfl, rfl⟩ | ⟨rfl, rfl⟩ | ⟨rfl, rfl⟩
  · refine zp_newa (a0 := (n.toNatClampNeg, .inl (fun _ => 0))) (cX := cA 13) (atype := .byte) hx hb (hts _ zarrK.1) hR.1 hS (hC.1.2 0 _ rfl).2 rfl hn rfl (by show n.toNatClampNeg * 1 ≤ _; omega) (by omega) (by omega) hd (fun H1 hz1 hP1 hS1 => fin H1 (by decide) hz1 ?_ hS1)
    rw [zE_B, z0]
    exact hP1
  · refine zp_newa (a0 := (n.toNatClampNeg, .inl (fun _ => 0))) (cX := cA 14) (atype := .int) hx hb (hts _ zarrK.2.1) hR.1 hS (hC.1.2 1 _ rfl).2 rfl hn rfl (by show n.toNatClampNeg * 4 ≤ _; omega) (by omega) (by omega) hd (fun H1 hz1 hP1 hS1 => fin H1 (by decide) hz1 ?_ hS1)
    rw [zE_I, z0]
    exact hP1
  · refine zp_newa (a0 := (n.toNatClampNeg, .inr (.inl (fun _ => 0)))) (cX := cA 15) (atype := .long) hx hb (hts _ zarrK.2.2) hR.1 hS (hC.1.2 2 _ rfl).2 rfl hn rfl (by show n.toNatClampNeg * 8 ≤ _; omega) (by omega) (by omega) hd (fun H1 hz1 hP1 hS1 => fin H1 (by decide) hz1 ?_ hS1)
    rw [zE_J, z1]
    exact hP1
theorem zak_rc {ci : Nat} (h1 : 16 ≤ zak ci) (h2 : zak ci ≤ 20) : zrc (zak ci) = ci ∧ ci < 13 := by
  unfold zak at h1 h2 ⊢
  split at h1 <;> first | exact ⟨rfl, by decide⟩ | (exact absurd h1 (by decide))
theorem zs_newq {k ci : Nat} {n : Int32} (cx : zX p s m args meth c B sp cA D mi) (hd : decode mi.1 pc = .ok (.anewarray k, 3)) (hz : zcls mi.2.1 k = some ci) (hk1 : 16 ≤ zak ci) (hk2 : zak ci ≤ 20) (hcnt : h.2.2.2.2 = 0) (hlen : h.1.1 < 900000) (hn : ¬ n < 0) (hN : n.toNatClampNeg ≤ 100000) (hr1 : zc (znew h (zak ci) n.toNatClampNeg) ≤ c0 + R.cells) (hr2 : zt (znew h (zak ci) n.toNatClampNeg) ≤ s0 + R.slots)
    (kk : zK p l e R s m args below meth c Q B sp cA D mi c0 s0 (pc + 3, ls, .inr (.inr (some h.1.1)) :: st, znew h (zak ci) n.toNatClampNeg)) : zK p l e R s m args below meth c Q B sp cA D mi c0 s0 (pc, ls, .inl n :: st, h) := by
  intro H locs lA cells slots hR hS hl h1 h2
  obtain ⟨hx, hb, hml, hown, hts, hin, hC⟩ := cx
  have hsz := hR.2.2 hcnt
  dsimp only at h1 h2
  rw [zc_new] at hr1
  rw [zt_new] at hr2
  obtain ⟨hrc, hci⟩ := zak_rc hk1 hk2
  have hAO := hC.2.2.2.1 (zak ci) hk1 hk2
  rw [hrc] at hAO
  have hty := ztys_R (cA := cA) hk1 hk2
  rw [hrc] at hty
  obtain ⟨kA, comp, -, -, -, hfc⟩ := (hC.1.2 _ _ hty).2
  have e3 : zcv B sp (.inr (.inr (some h.1.1))) = .ref H.size := by rw [zcv_ref (by omega), hsz]
  have z2 : (fun j => ((znew h (zak ci) n.toNatClampNeg).2.2.2.1 h.1.1 j).map (zad B sp)) = fun _ => none := by funext j; simp [znew, zrow]
  refine zp_newq (cX := cA (zak ci)) hx hb hown (hts _ (zcls_get hz hci)) hAO hR.1 hS hfc hn rfl (by omega) (by omega) (by omega) hd (fun H1 hz1 hP1 hS1 => ?_)
  have k' := kk H1 locs lA (cells + 1) (slots + n.toNatClampNeg) ⟨by
    show va_P D vwCl (zW B sp cA (znew h (zak ci) n.toNatClampNeg)) H1
    rw [zW_new (h := h) (k := (zak ci)) (n := n.toNatClampNeg) (fun b hb k n => zE_new hb), ← hsz, zE_R hk1, z2]
    exact hP1, zok_new hR.2.1 hk2 hlen, fun _ => by rw [hz1, hsz]; simp [znew]; omega⟩ hS1 hl (by show c0 + (cells + 1) = zc (znew h (zak ci) n.toNatClampNeg); rw [zc_new]; omega) (by show s0 + (slots + n.toNatClampNeg) = zt (znew h (zak ci) n.toNatClampNeg); rw [zt_new]; omega)
  have k2 : W p l e R s m args below meth c H1 locs (cells + 1) (slots + n.toNatClampNeg) Q (F0 m (pc + 3) lA (zcv B sp (.inr (.inr (some h.1.1))) :: st.map (zcv B sp))) := k'
  rw [e3] at k2
  exact k2
end ZS4
end
section
/-! calls -/
def zPc (B : Nat) (sp : Nat → Nat) (cA : Nat → ClassId) (D : va_G) (vs : List zV) (h : zH) : Array Value → State → Prop := va_Pc (vs.map (zcv B sp)) (fun U => zCx B sp cA D U ∧ zRel B sp cA D h U.heap)
def zQc (B : Nat) (sp : Nat → Nat) (cA : Nat → ClassId) (D : va_G) (v : Option zV) (h' : zH) : Array Value → State → Outcome → State → Prop := match v with
  | none => va_Qv (S := Unit) (fun _ => True) (fun _ t => zRel B sp cA D h' t.heap) (zAr B)
  | some (.inl x) => va_Qi (S := Unit) (fun r _ => r = x) (fun _ t => zRel B sp cA D h' t.heap) (zAr B)
  | some (.inr (.inl x)) => va_Ql (S := Unit) (fun r _ => r = x) (fun _ t => zRel B sp cA D h' t.heap) (zAr B)
  | some (.inr (.inr _)) => fun _ _ _ _ => False
def zrm (d mc ms : Nat) : Room := { frames := d, cells := mc, slots := ms, locals := 60 * d }
def zMet (l : Launch) (B : Nat) (sp : Nat → Nat) (cA : Nat → ClassId) (D : va_G) (d : Nat) (cm : zM) (vs : List zV) (h : zH) (v : Option zV) (h' : zH) : Prop :=
  Met l cm.2.2.2.2.1 (zwsM cm) (zrm d (zc h' - zc h) (zt h' - zt h)) (zPc B sp cA D vs h) (zQc B sp cA D v h') (zc h' - zc h) (zt h' - zt h) (zAr B)
theorem zPc_blind {B : Nat} {sp : Nat → Nat} {cA : Nat → ClassId} {D : va_G} {vs : List zV} {h : zH} : FrameBlind (zPc B sp cA D vs h) := by
  intro a U g mk q
  obtain ⟨q0, q1, q2⟩ := q
  exact ⟨q0, ⟨va_K.moved (u := U) (U := U.calling g mk a) (Vm.Alike.refl U.vm) q1.1, fun x hx => va_Nw.same rfl rfl (q1.2.1 x hx), fun x hx => vk_R.same rfl (q1.2.2.1 x hx), fun k h1 h2 => va_AO.moved (u := U) (U := U.calling g mk a) (Vm.Alike.refl U.vm) (q1.2.2.2.1 k h1 h2), q1.2.2.2.2⟩, q2⟩
section ZS5
variable {p : Program} {l : Launch} {e : Env} {R : Room} {s : State} {m : MethodId} {args : Array Value} {below : List Frame} {meth : Method} {c : Code} {Q : State → Prop} {B : Nat} {sp : Nat → Nat} {cA : Nat → ClassId} {D : va_G} {mi : zM} {c0 s0 : Nat}
variable {pc len : Nat} {ls : zL} {st : List zV} {h : zH}
theorem zmth_get {o k kd na : Nat} {cm : zM} (hz : zmth o k = some (kd, na, cm)) : ∃ pl pi ps pn : Nat, zmthC o (k, kd, na, cm, pl, pi, ps, pn) = true ∧ (kd < 5 → zMok cm) := by
  unfold zmth at hz
  obtain ⟨q, h1, h2⟩ := Option.map_eq_some_iff.mp hz
  have hm := zlook_mem h1
  have ho : o < 19 := zget_own hm
  have hc := List.all_eq_true.mp (zmthK o ho) _ hm
  have hM := zmM o ho _ hm
  obtain ⟨a, b, cc, d1, d2, d3, d4⟩ := q
  cases h2
  exact ⟨d1, d2, d3, d4, hc, hM⟩
/-- the words that a callee needs hold whenever the tables have been warmed -/
theorem zws_pay (hts : ∀ w ∈ zws, w.before args s = true) {cm : zM} (hM : zMok cm) : ∀ w ∈ zwsM cm, ∀ (a' : Array Value) (U : State), s.WarmedH U.vm → w.before a' U = true := by
  intro w hw a' U hW
  have hw' : w ∈ zws := by
    rcases List.mem_cons.mp hw with rfl | q
    · exact hM.1
    · exact q
  exact word_at hW (zws_good w hw') (hts w hw')
theorem zs_after {v : Option zV} {h' : zH} {rest : List zV} {H : Heap} {locs : List Loc} {lA : Array Slot} {cells slots : Nat} {a : Array Value} {st0 : List Value} (hle1 : zc h ≤ zc h') (hle2 : zt h ≤ zt h') (h1 : c0 + cells = zc h) (h2 : s0 + slots = zt h) (hS : va_S (zAr B) s.heap H locs) (hl : lv_has lA mi.2.2.1 (zlv B sp ls))
    (hr : va_Run p l e R s m args below meth c H locs cells slots (zc h' - zc h) (zt h' - zt h) (F0 m pc lA st0) (rest.map (zcv B sp)) (zQc B sp cA D v h' a) (zAr B))
    (kk : zK p l e R s m args below meth c Q B sp cA D mi c0 s0 (pc + 3, ls, v.toList ++ rest, h')) : W p l e R s m args below meth c H locs cells slots Q (F0 m pc lA st0) := by
  match v, hr, kk with
  | none, hr, kk =>
    refine va_callv (a := a) hr hS (fun q _ h => h) (fun q h => h) (fun u t H1 locs1 ht hvm hw hB hz1 hk1 hS1 => ?_)
    exact kk H1 locs1 lA _ _ (by rw [← ht]; exact hB) hS1 hl (by show c0 + (cells + (zc h' - zc h)) = zc h'; omega) (by show s0 + (slots + (zt h' - zt h)) = zt h'; omega)
  | some (.inl x), hr, kk =>
    refine va_calli (a := a) hr hS (fun q _ h => h) (fun q h => h) (fun r u t H1 locs1 ht hvm hw hB hz1 hk1 hS1 => ?_)
    have hw : r = x := hw
    subst hw
    exact kk H1 locs1 lA _ _ (by rw [← ht]; exact hB) hS1 hl (by show c0 + (cells + (zc h' - zc h)) = zc h'; omega) (by show s0 + (slots + (zt h' - zt h)) = zt h'; omega)
  | some (.inr (.inl x)), hr, kk =>
    refine va_calll (a := a) hr hS (fun q _ h => h) (fun q h => h) (fun r u t H1 locs1 ht hvm hw hB hz1 hk1 hS1 => ?_)
    have hw : r = x := hw
    subst hw
    exact kk H1 locs1 lA _ _ (by rw [← ht]; exact hB) hS1 hl (by show c0 + (cells + (zc h' - zc h)) = zc h'; omega) (by show s0 + (slots + (zt h' - zt h)) = zt h'; omega)
  | some (.inr (.inr r)), hr, kk =>
    intro T hT X
    obtain ⟨v, st₀, t, T', L, h0, X', hL, e1, e2, hq, st⟩ := hr T hT X
    exact hq.elim
theorem zs_call {k kd na d' : Nat} {cm : zM} {i : Instr} {v : Option zV} {h' : zH} {g : zC} (cx : zX p s m args meth c B sp cA D mi) (hd : decode mi.1 pc = .ok (i, 3)) (hi : (i = .invokevirtual k ∧ kd = 0) ∨ (i = .invokestatic k ∧ (kd = 1 ∨ kd = 3)) ∨ (i = .invokespecial k ∧ (kd = 2 ∨ kd = 4))) (hz : zmth mi.2.1 k = some (kd, na, cm))
    (call : zM → List zV → zH → Option zR) (hc : zcall call cm kd na pc ls st h = some (.inl g)) (hcall : ∀ vs v h', call cm vs h = some (v, h') → zMet l B sp cA D d' cm vs h v h' ∧ zc h ≤ zc h' ∧ zt h ≤ zt h')
    (hr1 : zc g.2.2.2 ≤ c0 + R.cells) (hr2 : zt g.2.2.2 ≤ s0 + R.slots) (hf : d' + 1 ≤ R.frames) (hlo : 60 * (d' + 1) ≤ R.locals)
    (kk : zK p l e R s m args below meth c Q B sp cA D mi c0 s0 g) : zK p l e R s m args below meth c Q B sp cA D mi c0 s0 (pc, ls, st, h) := by
  intro H locs lA cells slots hR hS hl h1 h2
  dsimp only at h1 h2 hl hR
  obtain ⟨hx, hb, hml, hown, hts, hin, hC⟩ := cx
  obtain ⟨pl, pi, ps, pn, hcc, hMk⟩ := zmth_get hz
  have hkd : kd < 5 := by rcases hi with ⟨-, q⟩ | ⟨-, q | q⟩ | ⟨-, q | q⟩ <;> omega
  have hM := hMk hkd
  unfold zcall at hc
  split at hc
  · next hlen =>
    obtain ⟨hna, hwd⟩ := hlen
    have hst : st = (st.take na).reverse.reverse ++ st.drop na := by rw [List.reverse_reverse, List.take_append_drop]
    have hvl : (st.take na).reverse.length = na := by simp; omega
    generalize hvs : (st.take na).reverse = vs at hc hst hvl
    generalize hrs : st.drop na = rest at hc hst hwd
    have hBody : ∀ U : State, U.heap = H → s.WarmedH U.vm → zPc B sp cA D vs h (vs.map (zcv B sp)).toArray U := fun U hU hW => ⟨rfl, hC.warm hW (by rw [hU]; exact Nat.le_trans hC.2.2.2.2 hS.1), by rw [hU]; exact hR⟩
    have hroom : 2 * (F0 m pc lA (st.map (zcv B sp))).monitorRoom + ((rest.map (zcv B sp)).map fun v => v.category).sum ≤ 8 := by
      show 2 * 0 + _ ≤ 8
      rw [zwd_cv]
      omega
    have hB : ∀ {mc ms n : Nat} {rm : Room}, rm.cells = mc → rm.slots = ms → rm.frames = d' → rm.locals = 60 * d' → (Cond.methodLink (zRn mi.2.1) k cm.2.2.2.2.1).before args s = true → (Cond.initialized cm.2.2.2.2.1.cls).before args s = true → (parseMethodDescriptor cm.2.2.2.2.1.desc).map (fun d => d.parameters.length) = some n →
        CallB R s args (zRn mi.2.1) k cm.2.2.2.2.1 cm.1 cm.2.2.1 cm.2.2.2.1 (zwsM cm) rm mc ms n := by
      intro mc ms n rm e1 e2 e3 e4 hl hini hp
      refine ⟨e1, e2, by omega, by have := hM.2.2.2.2.1; omega, zws_pay hts hM, List.mem_cons_self, hts _ hM.1, hini, hM.2.2.2.1, fun sig hs => ?_, hl⟩
      rw [hs] at hp
      exact (Option.some.inj hp).symm
    have hN : ∀ {mc ms n : Nat} {rm : Room} {host : String}, rm.cells = mc → rm.slots = ms → rm.frames = d' → rm.locals = 60 * d' → (Cond.methodLinkNest (zRn mi.2.1) k cm.2.2.2.2.1 host).before args s = true → (Cond.initialized cm.2.2.2.2.1.cls).before args s = true → (parseMethodDescriptor cm.2.2.2.2.1.desc).map (fun d => d.parameters.length) = some n →
        va_CN R s args (zRn mi.2.1) k cm.2.2.2.2.1 host cm.1 cm.2.2.1 cm.2.2.2.1 (zwsM cm) rm mc ms n := by
      intro mc ms n rm host e1 e2 e3 e4 hl hini hp
      refine ⟨⟨e1, e2, by omega, by have := hM.2.2.2.2.1; omega, zws_pay hts hM, List.mem_cons_self⟩, hts _ hM.1, hini, hM.2.2.2.1, fun sig hs => ?_, hl⟩
      rw [hs] at hp
      exact (Option.some.inj hp).symm
    have hFix : CallFix p m c mi.1 mi.2.2.1 s args zws (zRn mi.2.1) := ⟨hx, hb, hml, hown, hts⟩
    have one : ∀ {x : Nat}, (parseMethodDescriptor cm.2.2.2.2.1.desc).map (fun d => d.parameters.length + 1) = some (x + 1) → (parseMethodDescriptor cm.2.2.2.2.1.desc).map (fun d => d.parameters.length) = some x := by
      intro x hx
      cases hpd : parseMethodDescriptor cm.2.2.2.2.1.desc with
      | none => rw [hpd] at hx; cases hx
      | some sig => rw [hpd] at hx; simp only [Option.map_some, Option.some.injEq] at hx ⊢; omega
    rcases hi with ⟨rfl, rfl⟩ | ⟨rfl, hk⟩ | ⟨rfl, hk⟩
    · -- virtual
      rw [if_neg (by decide)] at hc
      split at hc
      · next a vt =>
        split at hc
        · next k2 n2 hq =>
          split at hc
          · next hk2 =>
            obtain ⟨rfl, hci⟩ := hk2
            split at hc
            · next r h'' hcl =>
              cases hc
              obtain ⟨hMet, hle1, hle2⟩ := hcall _ _ _ hcl
              dsimp only at hr1 hr2
              simp only [zmthC, Bool.and_eq_true, decide_eq_true_eq] at hcc
              obtain ⟨⟨⟨⟨⟨⟨⟨⟨w1, g1⟩, w2⟩, g2⟩, w3⟩, g3⟩, w4⟩, g4⟩, w5⟩ := hcc
              have hlv : vt.length + 1 = na := by simpa using hvl
              rw [← hlv] at w5
              have hWq := zW_get (B := B) (sp := sp) (cA := cA) hq
              rw [zE_obj hci] at hWq
              refine zs_after (rest := rest) (a := (Value.ref (B + a) :: vt.map (zcv B sp)).toArray) hle1 hle2 h1 h2 hS hl ?_ kk
              exact va_runV (C := zRn cm.2.1) (b := B + a) (As := vt.map (zcv B sp)) (rest := rest.map (zcv B sp)) (g := F0 m pc lA (st.map (zcv B sp))) (n := vt.length) hFix hMet ⟨hB rfl rfl rfl rfl (hts _ (zws_in w1 g1)) (hts _ (zws_in w4 g4)) (one w5), hts _ (zws_in w2 g2), hts _ (zws_in w3 g3)⟩
                ⟨zPc_blind, va_recv hC.1 hR.1 (zcl_cl hci) hWq, fun U hU hW => by
                  have := hBody U hU hW
                  rw [List.map_cons, zcv_ref (zok_lt hR.2.1 hq)] at this
                  exact this⟩ rfl (by simp) hl.1 (by
                  show st.map (zcv B sp) = _
                  rw [hst]
                  simp [zcv_ref (zok_lt hR.2.1 hq)]) hroom hd ⟨by omega, by omega⟩
            · cases hc
          · cases hc
        · cases hc
      · cases hc
    · -- static
      rw [if_pos hk] at hc
      split at hc
      · next r h'' hcl =>
        cases hc
        obtain ⟨hMet, hle1, hle2⟩ := hcall _ _ _ hcl
        dsimp only at hr1 hr2
        refine zs_after (rest := rest) (a := (vs.map (zcv B sp)).toArray) hle1 hle2 h1 h2 hS hl ?_ kk
        have hstk : (F0 m pc lA (st.map (zcv B sp))).stack = (vs.map (zcv B sp)).reverse ++ rest.map (zcv B sp) := by
          show st.map (zcv B sp) = _
          rw [hst]
          simp
        rcases hk with rfl | rfl
        · simp only [zmthC, Bool.and_eq_true, decide_eq_true_eq] at hcc
          obtain ⟨⟨⟨⟨⟨⟨w1, g1⟩, w2⟩, g2⟩, w4⟩, g4⟩, w5⟩ := hcc
          exact va_runS (As := vs.map (zcv B sp)) (rest := rest.map (zcv B sp)) (g := F0 m pc lA (st.map (zcv B sp))) (n := na) hFix hMet ⟨hB rfl rfl rfl rfl (hts _ (zws_in w1 g1)) (hts _ (zws_in w4 g4)) w5, hts _ (zws_in w2 g2)⟩
            ⟨zPc_blind, hBody⟩ rfl (by simp; exact hvl) hl.1 hstk hroom hd ⟨by omega, by omega⟩
        · simp only [zmthC, Bool.and_eq_true, decide_eq_true_eq, List.any_eq_true] at hcc
          obtain ⟨⟨⟨⟨⟨⟨q, hq, ⟨e1, e2⟩, e3⟩, w2⟩, g2⟩, w4⟩, g4⟩, w5⟩ := hcc
          have hnw := va_Nw.use (A := args) rfl (hC.2.1 q hq)
          rw [e1, e2, e3] at hnw
          exact va_runSN (As := vs.map (zcv B sp)) (rest := rest.map (zcv B sp)) (g := F0 m pc lA (st.map (zcv B sp))) (n := na) hFix hMet ⟨hN rfl rfl rfl rfl hnw (hts _ (zws_in w4 g4)) w5, hts _ (zws_in w2 g2), trivial⟩
            ⟨zPc_blind, hBody⟩ rfl (by simp; exact hvl) hl.1 hstk hroom hd ⟨by omega, by omega⟩
      · cases hc
    · -- constructors
      rw [if_neg (by rcases hk with rfl | rfl <;> decide)] at hc
      split at hc
      · next a vt =>
        split at hc
        · next k2 n2 hq =>
          split at hc
          · next hk2 =>
            obtain ⟨rfl, hci⟩ := hk2
            split at hc
            · next r h'' hcl =>
              cases hc
              obtain ⟨hMet, hle1, hle2⟩ := hcall _ _ _ hcl
              dsimp only at hr1 hr2
              have hlv : vt.length + 1 = na := by simpa using hvl
              have hstk : (F0 m pc lA (st.map (zcv B sp))).stack = (vt.map (zcv B sp)).reverse ++ .ref (B + a) :: rest.map (zcv B sp) := by
                show st.map (zcv B sp) = _
                rw [hst]
                simp [zcv_ref (zok_lt hR.2.1 hq)]
              have hBody' : ∀ U : State, U.heap = H → s.WarmedH U.vm → zPc B sp cA D (.inr (.inr (some a)) :: vt) h (Value.ref (B + a) :: vt.map (zcv B sp)).toArray U := fun U hU hW => by
                have := hBody U hU hW
                rw [List.map_cons, zcv_ref (zok_lt hR.2.1 hq)] at this
                exact this
              refine zs_after (rest := rest) (a := (Value.ref (B + a) :: vt.map (zcv B sp)).toArray) hle1 hle2 h1 h2 hS hl ?_ kk
              rcases hk with rfl | rfl
              · simp only [zmthC, Bool.and_eq_true, decide_eq_true_eq] at hcc
                obtain ⟨⟨⟨⟨⟨⟨⟨⟨w1, g1⟩, w2⟩, g2⟩, w4⟩, g4⟩, w5⟩, w6⟩, w7⟩ := hcc
                rw [← hlv] at w5
                have hB1 := hB (mc := zc h'' - zc h) (ms := zt h'' - zt h) (rm := zrm d' (zc h'' - zc h) (zt h'' - zt h)) rfl rfl rfl rfl (hts _ (zws_in w1 g1)) (hts _ (zws_in w4 g4)) (one w5)
                rw [w7] at hB1
                exact va_runI (b := B + a) (As := vt.map (zcv B sp)) (rest := rest.map (zcv B sp)) (g := F0 m pc lA (st.map (zcv B sp))) (n := vt.length) hFix hMet ⟨hB1, w6, hts _ (zws_in w2 g2)⟩
                  ⟨zPc_blind, hBody'⟩ rfl (by simp) hl.1 hstk hroom hd ⟨by omega, by omega⟩
              · simp only [zmthC, Bool.and_eq_true, decide_eq_true_eq, List.any_eq_true] at hcc
                obtain ⟨⟨⟨⟨⟨⟨⟨⟨q, hqm, ⟨e1, e2⟩, e3⟩, w2⟩, g2⟩, w4⟩, g4⟩, w5⟩, w6⟩, w7⟩ := hcc
                have hnw := va_Nw.use (A := args) rfl (hC.2.1 q hqm)
                rw [e1, e2, e3] at hnw
                rw [← hlv] at w5
                have hN1 := hN (mc := zc h'' - zc h) (ms := zt h'' - zt h) (rm := zrm d' (zc h'' - zc h) (zt h'' - zt h)) rfl rfl rfl rfl hnw (hts _ (zws_in w4 g4)) (one w5)
                rw [w7] at hN1
                exact va_runIN (b := B + a) (As := vt.map (zcv B sp)) (rest := rest.map (zcv B sp)) (g := F0 m pc lA (st.map (zcv B sp))) (n := vt.length) hFix hMet ⟨hN1, w6, hts _ (zws_in w2 g2)⟩
                  ⟨zPc_blind, hBody'⟩ rfl (by simp) hl.1 hstk hroom hd ⟨by omega, by omega⟩
            · cases hc
          · cases hc
        · cases hc
      · cases hc
  · cases hc
end ZS5
end
section
/-! one step -/
section ZS6
variable {p : Program} {l : Launch} {e : Env} {R : Room} {s : State} {m : MethodId} {args : Array Value} {below : List Frame} {meth : Method} {c : Code} {Q : State → Prop} {B : Nat} {sp : Nat → Nat} {cA : Nat → ClassId} {D : va_G} {mi : zM} {c0 s0 : Nat}
variable {pc len : Nat} {ls : zL} {st : List zV} {h : zH}
theorem zs_arith {i : Instr} {g : zC} (cx : zX p s m args meth c B sp cA D mi) (hd : decode mi.1 pc = .ok (i, 1)) (hz : zarith i 1 pc ls st h = some (.inl g)) (k : zK p l e R s m args below meth c Q B sp cA D mi c0 s0 g) : zK p l e R s m args below meth c Q B sp cA D mi c0 s0 (pc, ls, st, h) := by
  unfold zarith at hz
  split at hz
  · split at hz
    · next v hv => cases hz; exact zs_bin cx hd hv k
    · split at hz
      · next v hv => cases hz; exact zs_un cx hd hv k
      · cases hz
  · split at hz
    · next v hv => cases hz; exact zs_un cx hd hv k
    · cases hz
  · split at hz
    · next v hv => cases hz; exact zs_lbin cx hd hv k
    · cases hz
  · cases hz
theorem zs_prim {k kd na : Nat} {cm : zM} {i : Instr} {g : zC} (cx : zX p s m args meth c B sp cA D mi) (hd : decode mi.1 pc = .ok (i, 3)) (hi : (i = .invokespecial k ∧ kd = 10) ∨ (i = .invokestatic k ∧ kd ≠ 10)) (hz : zmth mi.2.1 k = some (kd, na, cm)) (hp : zprim true kd pc ls st h = some (.inl g))
    (hf : 1 ≤ R.frames) (hlo : 60 ≤ R.locals) (hr1 : zc h ≤ c0 + R.cells) (hr2 : zt h ≤ s0 + R.slots)
    (kk : zK p l e R s m args below meth c Q B sp cA D mi c0 s0 g) : zK p l e R s m args below meth c Q B sp cA D mi c0 s0 (pc, ls, st, h) := by
  intro H locs lA cells slots hR hS hl h1 h2
  dsimp only at h1 h2 hl hR
  obtain ⟨hx, hb, hml, hown, hts, hin, hC⟩ := cx
  obtain ⟨pl, pi, ps, pn, hcc, -⟩ := zmth_get hz
  have hsz : c.maxLocals = lA.size := by rw [hml]; exact hl.1.symm
  unfold zprim at hp
  rw [if_pos rfl] at hp
  split at hp
  · next hk =>
    subst hk
    split at hp
    · next a st' =>
      split at hp
      · next hw =>
        cases hp
        obtain ⟨rfl, -⟩ := hi.resolve_right (fun q => q.2 rfl)
        simp only [zmthC, Bool.and_eq_true, decide_eq_true_eq] at hcc
        refine W.objInit hx hb hown (hts _ (zws_in hcc.1 hcc.2)) (hts _ zobjK.1) (hts _ zobjK.2) rfl hsz.symm (a := zad B sp a) (rest := st'.map (zcv B sp)) rfl hd hf (by show 2 * 0 + _ + 12 ≤ _; rw [zwd_cv]; omega) ?_
        exact kk H locs lA cells slots hR hS hl h1 h2
      · cases hp
    · cases hp
  · next hk10 =>
    have hi' : i = .invokestatic k := by
      rcases hi with ⟨-, q⟩ | ⟨q, -⟩
      · exact absurd q hk10
      · exact q
    subst hi'
    split at hp
    · next hk =>
      subst hk
      split at hp
      · next y x st' =>
        split at hp
        · next hw =>
          cases hp
          simp only [zmthC, Bool.and_eq_true, decide_eq_true_eq] at hcc
          exact va_mmax hx hb hsz hown (hts _ (zws_in hcc.1 hcc.2)) (hts _ zmaxK.1) (hts _ zmaxK.2.1) (hts _ zmaxK.2.2) hf (by rw [zwd_cv]; omega) (by omega) (by omega) hd (kk H locs lA cells slots hR hS hl h1 h2)
        · cases hp
      · cases hp
    · split at hp
      · next hk =>
        subst hk
        split at hp
        · next y x st' =>
          split at hp
          · next hw =>
            cases hp
            simp only [zmthC, Bool.and_eq_true, decide_eq_true_eq] at hcc
            exact va_mmin hx hb hsz hown (hts _ (zws_in hcc.1 hcc.2)) (hts _ zminK.1) (hts _ zminK.2.1) (hts _ zminK.2.2) hf (by rw [zwd_cv]; omega) (by omega) (by omega) hd (kk H locs lA cells slots hR hS hl h1 h2)
          · cases hp
        · cases hp
      · split at hp
        · next hk =>
          subst hk
          split at hp
          · next x st' =>
            split at hp
            · next hw =>
              cases hp
              simp only [zmthC, Bool.and_eq_true, decide_eq_true_eq] at hcc
              exact va_mabs hx hb hsz hown (hts _ (zws_in hcc.1 hcc.2)) (hts _ zabsK.1) (hts _ zabsK.2.1) (hts _ zabsK.2.2) hf (by rw [zwd_cv]; omega) (by omega) (by omega) hd (kk H locs lA cells slots hR hS hl h1 h2)
            · cases hp
          · cases hp
        · split at hp
          · next hk =>
            subst hk
            simp only [zmthC, Bool.and_eq_true, decide_eq_true_eq] at hcc
            unfold zcopy at hp
            split at hp
            · next n dp a spp b st' =>
              split at hp
              · next k0 n0 k1 n1 hq0 hq1 =>
                split at hp
                · next hw =>
                  cases hp
                  obtain ⟨rfl, rfl, q1, q2, q3, q4, q5, q6⟩ := hw
                  show W p l e R s m args below meth c H locs cells slots Q (F0 m pc lA (.int n :: .int dp :: zcv B sp (.inr (.inr (some a))) :: .int spp :: zcv B sp (.inr (.inr (some b))) :: st'.map (zcv B sp)))
                  rw [zcv_ref (zok_lt hR.2.1 hq0), zcv_ref (zok_lt hR.2.1 hq1)]
                  refine zp_copyi hx hb hsz hown (hts _ (zws_in hcc.1 hcc.2)) (hts _ zcpyK.1) (hts _ zcpyK.2.1) (hts _ zcpyK.2.2) hC.1 hR.1 zW_D hS b a 1 1 (zW_get hq0) (zW_get hq1) rfl rfl q1 q2 q3 q4 q5 hf (by rw [zwd_cv]; omega) hd (fun H1 locs1 hz1 hP1 hS1 => ?_)
                  refine kk H1 locs1 lA cells slots ⟨?_, hR.2.1, fun q => by rw [hz1]; exact hR.2.2 q⟩ hS1 hl h1 h2
                  show va_P D vwCl (zW B sp cA (zsRow h a (va_cpy (h.2.1 b) (h.2.1 a) spp.toNatClampNeg dp.toNatClampNeg n.toNatClampNeg))) H1
                  rw [zW_set (h' := zsRow h a (va_cpy (h.2.1 b) (h.2.1 a) spp.toNatClampNeg dp.toNatClampNeg n.toNatClampNeg)) hq1 rfl (fun b hb k n => zE_sRow hb), zE_I]
                  have e : (zsRow h a (va_cpy (h.2.1 b) (h.2.1 a) spp.toNatClampNeg dp.toNatClampNeg n.toNatClampNeg)).2.1 a = va_cpy (h.2.1 b) (h.2.1 a) spp.toNatClampNeg dp.toNatClampNeg n.toNatClampNeg := by
                    funext j
                    simp [zsRow, zrow]
                  rw [e]
                  exact hP1
                · cases hp
              · cases hp
            · cases hp
          · cases hp
theorem zcall_some {call : zM → List zV → zH → Option zR} {cm : zM} {kd na : Nat} {x : zC ⊕ zR} (hc : zcall call cm kd na pc ls st h = some x) : ∃ vs v h', call cm vs h = some (v, h') := by
  unfold zcall at hc
  split at hc
  · split at hc
    · split at hc
      · next r h' q => exact ⟨_, _, _, q⟩
      · cases hc
    · split at hc
      · split at hc
        · split at hc
          · split at hc
            · next r h' q => exact ⟨_, _, _, q⟩
            · cases hc
          · cases hc
        · cases hc
      · cases hc
  · cases hc
theorem zsim_call {call : zM → List zV → zH → Option zR} {k kd na d : Nat} {cm : zM} {i : Instr} {g : zC} (cx : zX p s m args meth c B sp cA D mi) (hd : decode mi.1 pc = .ok (i, 3)) (hi : (i = .invokevirtual k ∧ kd = 0) ∨ (i = .invokestatic k ∧ (kd = 1 ∨ kd = 3)) ∨ (i = .invokespecial k ∧ (kd = 2 ∨ kd = 4))) (hz : zmth mi.2.1 k = some (kd, na, cm)) (hs : zcall call cm kd na pc ls st h = some (.inl g))
    (hcall : ∀ cm, zMok cm → ∀ vs hh v hh', call cm vs hh = some (v, hh') → (∃ d', d = d' + 1 ∧ zMet l B sp cA D d' cm vs hh v hh') ∧ zc hh ≤ zc hh' ∧ zt hh ≤ zt hh')
    (hr1 : zc g.2.2.2 ≤ c0 + R.cells) (hr2 : zt g.2.2.2 ≤ s0 + R.slots) (hf : d ≤ R.frames) (hlo : 60 * d ≤ R.locals)
    (kk : zK p l e R s m args below meth c Q B sp cA D mi c0 s0 g) : zK p l e R s m args below meth c Q B sp cA D mi c0 s0 (pc, ls, st, h) := by
  obtain ⟨pl, pi, ps, pn, -, hMk⟩ := zmth_get hz
  have hM := hMk (by rcases hi with ⟨-, q⟩ | ⟨-, q | q⟩ | ⟨-, q | q⟩ <;> omega)
  obtain ⟨vs, v, h', hc⟩ := zcall_some hs
  obtain ⟨⟨d', rfl, -⟩, -⟩ := hcall cm hM vs h v h' hc
  refine zs_call (d' := d') (v := v) (h' := h') cx hd hi hz call hs (fun vs v h' hc => ?_) hr1 hr2 hf hlo kk
  obtain ⟨⟨d2, q, q2⟩, q3⟩ := hcall cm hM vs h v h' hc
  obtain rfl : d' = d2 := by omega
  exact ⟨q2, q3⟩
theorem zl_len {a b n : Nat} (h : b = 0 ∨ a = b) (hb : b = n + 1) : a = n + 1 := by omega
theorem zsim_exec {scr : Option (Nat × (Nat → Int32))} {call : zM → List zV → zH → Option zR} {i : Instr} {d : Nat} {g : zC} (cx : zX p s m args meth c B sp cA D mi) (hd : decode mi.1 pc = .ok (i, len)) (hlen : zilen i = 0 ∨ len = zilen i) (hs : zexec scr call (decide (0 < d)) mi i len pc ls st h = some (.inl g))
    (hscr : ∀ L xs, scr = some (L, xs) → va_X (sp 1000000) L xs s s.heap ∧ sp 1000000 < s.heap.size ∧ sp 1000000 < B)
    (hcall : ∀ cm, zMok cm → ∀ vs hh v hh', call cm vs hh = some (v, hh') → (∃ d', d = d' + 1 ∧ zMet l B sp cA D d' cm vs hh v hh') ∧ zc hh ≤ zc hh' ∧ zt hh ≤ zt hh')
    (hled : ∀ (k na : Nat) (cm : zM), zmth mi.2.1 k = some (16, na, cm) → decode mi.1 pc = .ok (.invokestatic k, 3) → scr.isSome = true → 0 < d → zled call pc ls st h = some (.inl g) → zK p l e R s m args below meth c Q B sp cA D mi c0 s0 (pc, ls, st, h))
    (hf : d ≤ R.frames) (hlo : 60 * d ≤ R.locals) (hr0 : zc h ≤ c0 + R.cells ∧ zt h ≤ s0 + R.slots) (hr : zc g.2.2.2 ≤ c0 + R.cells ∧ zt g.2.2.2 ≤ s0 + R.slots)
    (kk : zK p l e R s m args below meth c Q B sp cA D mi c0 s0 g) : zK p l e R s m args below meth c Q B sp cA D mi c0 s0 (pc, ls, st, h) := by
  cases i with
  | iconst n => obtain rfl := zl_len hlen rfl; cases hs; exact zs_iconst cx hd kk
  | bipush n => obtain rfl := zl_len hlen rfl; cases hs; exact zs_bipush cx hd kk
  | sipush n => obtain rfl := zl_len hlen rfl; cases hs; exact zs_sipush cx hd kk
  | lconst n => obtain rfl := zl_len hlen rfl; cases hs; exact zs_lconst cx hd kk
  | ldc k =>
    obtain rfl := zl_len hlen rfl
    have hs : zldv mi 1 k 2 pc ls st h = some (.inl g) := hs
    unfold zldv at hs
    split at hs
    · next v hv =>
      split at hs
      · next hc => cases hs; exact zs_ldv cx (Or.inl ⟨rfl, rfl⟩) hd hv ⟨fun q => (by cases q), fun q => (by omega)⟩ kk
      · cases hs
    · cases hs
  | ldc_w k =>
    obtain rfl := zl_len hlen rfl
    have hs : zldv mi 1 k 3 pc ls st h = some (.inl g) := hs
    unfold zldv at hs
    split at hs
    · next v hv =>
      split at hs
      · next hc => cases hs; exact zs_ldv cx (Or.inr (Or.inl ⟨rfl, rfl⟩)) hd hv ⟨fun q => (by cases q), fun q => (by omega)⟩ kk
      · cases hs
    · cases hs
  | ldc2_w k =>
    obtain rfl := zl_len hlen rfl
    have hs : zldv mi 2 k 3 pc ls st h = some (.inl g) := hs
    unfold zldv at hs
    split at hs
    · next v hv =>
      split at hs
      · next hc => cases hs; exact zs_ldv cx (Or.inr (Or.inr ⟨rfl, rfl⟩)) hd hv ⟨fun _ => hc, fun _ => rfl⟩ kk
      · cases hs
    · cases hs
  | iload k => obtain rfl := zl_len hlen rfl; exact zs_load cx hd (Or.inl ⟨rfl, rfl, rfl⟩) hs kk
  | iload_n k => obtain rfl := zl_len hlen rfl; exact zs_load cx hd (Or.inr (Or.inl ⟨k, rfl, rfl, rfl, rfl⟩)) hs kk
  | lload k => obtain rfl := zl_len hlen rfl; exact zs_load cx hd (Or.inr (Or.inr (Or.inl ⟨rfl, rfl, rfl⟩))) hs kk
  | lload_n k => obtain rfl := zl_len hlen rfl; exact zs_load cx hd (Or.inr (Or.inr (Or.inr (Or.inl ⟨k, rfl, rfl, rfl, rfl⟩)))) hs kk
  | aload k => obtain rfl := zl_len hlen rfl; exact zs_load cx hd (Or.inr (Or.inr (Or.inr (Or.inr (Or.inl ⟨rfl, rfl, rfl⟩))))) hs kk
  | aload_n k => obtain rfl := zl_len hlen rfl; exact zs_load cx hd (Or.inr (Or.inr (Or.inr (Or.inr (Or.inr ⟨k, rfl, rfl, rfl, rfl⟩))))) hs kk
  | istore k => obtain rfl := zl_len hlen rfl; exact zs_store cx hd (Or.inl ⟨rfl, rfl, rfl⟩) hs kk
  | istore_n k => obtain rfl := zl_len hlen rfl; exact zs_store cx hd (Or.inr (Or.inl ⟨k, rfl, rfl, rfl, rfl⟩)) hs kk
  | lstore k => obtain rfl := zl_len hlen rfl; exact zs_store cx hd (Or.inr (Or.inr (Or.inl ⟨rfl, rfl, rfl⟩))) hs kk
  | lstore_n k => obtain rfl := zl_len hlen rfl; exact zs_store cx hd (Or.inr (Or.inr (Or.inr (Or.inl ⟨k, rfl, rfl, rfl, rfl⟩)))) hs kk
  | astore k => obtain rfl := zl_len hlen rfl; exact zs_store cx hd (Or.inr (Or.inr (Or.inr (Or.inr (Or.inl ⟨rfl, rfl, rfl⟩))))) hs kk
  | astore_n k => obtain rfl := zl_len hlen rfl; exact zs_store cx hd (Or.inr (Or.inr (Or.inr (Or.inr (Or.inr ⟨k, rfl, rfl, rfl, rfl⟩))))) hs kk
  | iinc k n =>
    obtain rfl := zl_len hlen rfl
    simp only [zexec] at hs
    split at hs
    · next x hg =>
      split at hs
      · next hj => cases hs; exact zs_iinc cx hd hg hj kk
      · cases hs
    · cases hs
  | lshl =>
    obtain rfl := zl_len hlen rfl
    simp only [zexec] at hs
    split at hs
    · cases hs; exact zs_lshl cx hd kk
    · cases hs
  | ifCond cd off =>
    obtain rfl := zl_len hlen rfl
    simp only [zexec] at hs
    split at hs
    · exact zs_if cx hd hs kk
    · cases hs
  | if_icmp cd off =>
    obtain rfl := zl_len hlen rfl
    simp only [zexec] at hs
    split at hs
    · exact zs_icmp cx hd hs kk
    · cases hs
  | goto off => obtain rfl := zl_len hlen rfl; exact zs_goto cx hd hs kk
  | tableswitch df lo hi offs =>
    simp only [zexec] at hs
    split at hs
    · exact zs_switch cx hd hs kk
    · cases hs
  | getfield k =>
    obtain rfl := zl_len hlen rfl
    simp only [zexec] at hs
    split at hs
    · split at hs
      · next ci f kd n hz hq =>
        split at hs
        · next hk => subst hk; cases hs; exact zs_get cx hd hz hq kk
        · cases hs
      · cases hs
    · cases hs
  | putfield k =>
    obtain rfl := zl_len hlen rfl
    simp only [zexec] at hs
    split at hs
    · split at hs
      · next ci f kd n hz hq =>
        split at hs
        · next hk =>
          obtain ⟨rfl, hfi⟩ := hk
          split at hs
          · next h' hp => cases hs; exact zs_put cx hd hz hq hfi hp kk
          · cases hs
        · cases hs
      · cases hs
    · cases hs
  | iaload =>
    obtain rfl := zl_len hlen rfl
    simp only [zexec] at hs
    split at hs
    · split at hs
      · next v hv => cases hs; exact zs_iald cx hd hv hscr kk
      · cases hs
    · cases hs
  | baload =>
    obtain rfl := zl_len hlen rfl
    simp only [zexec] at hs
    split at hs
    · split at hs
      · next v hv => cases hs; exact zs_bald cx hd hv kk
      · cases hs
    · cases hs
  | laload =>
    obtain rfl := zl_len hlen rfl
    simp only [zexec] at hs
    split at hs
    · split at hs
      · next k n hq =>
        split at hs
        · next hk => obtain ⟨rfl, hi⟩ := hk; cases hs; exact zs_lald cx hd hq hi kk
        · cases hs
      · cases hs
    · cases hs
  | aaload =>
    obtain rfl := zl_len hlen rfl
    simp only [zexec] at hs
    split at hs
    · split at hs
      · next k n hq =>
        split at hs
        · next hk => obtain ⟨k1, k2, hi⟩ := hk; cases hs; exact zs_aald cx hd hq k1 k2 hi kk
        · cases hs
      · cases hs
    · cases hs
  | iastore =>
    obtain rfl := zl_len hlen rfl
    simp only [zexec] at hs
    split at hs
    · split at hs
      · next h' hv => cases hs; exact zs_iast cx hd hv kk
      · cases hs
    · cases hs
  | bastore =>
    obtain rfl := zl_len hlen rfl
    simp only [zexec] at hs
    split at hs
    · split at hs
      · next h' hv => cases hs; exact zs_bast cx hd hv kk
      · cases hs
    · cases hs
  | lastore =>
    obtain rfl := zl_len hlen rfl
    simp only [zexec] at hs
    split at hs
    · split at hs
      · next k n hq =>
        split at hs
        · next hk => obtain ⟨rfl, hi⟩ := hk; cases hs; exact zs_last cx hd hq hi kk
        · cases hs
      · cases hs
    · cases hs
  | aastore =>
    obtain rfl := zl_len hlen rfl
    simp only [zexec] at hs
    split at hs
    · split at hs
      · next k n kv nv hq hv =>
        split at hs
        · next hk => obtain ⟨k1, k2, hi, rfl⟩ := hk; cases hs; exact zs_aast cx hd hq hv k1 k2 hi kk
        · cases hs
      · cases hs
    · cases hs
  | arraylength =>
    obtain rfl := zl_len hlen rfl
    simp only [zexec] at hs
    split at hs
    · split at hs
      · next v hv => cases hs; exact zs_alen cx hd hv hscr kk
      · cases hs
    · cases hs
  | new k =>
    obtain rfl := zl_len hlen rfl
    simp only [zexec] at hs
    split at hs
    · next ci hz =>
      split at hs
      · next hci =>
        split at hs
        · next hk => cases hs; exact zs_new cx hd hz hci hk.1 hk.2 hr.1 hr.2 kk
        · cases hs
      · split at hs <;> cases hs
    · cases hs
  | newarray t =>
    obtain rfl := zl_len hlen rfl
    simp only [zexec] at hs
    split at hs
    · split at hs
      · next hk =>
        obtain ⟨k1, k2, k3, k4⟩ := hk
        split at hs
        · cases hs; exact zs_newa cx hd (Or.inl ⟨rfl, rfl⟩) k1 k2 k3 k4 hr.1 hr.2 kk
        · cases hs; exact zs_newa cx hd (Or.inr (Or.inl ⟨rfl, rfl⟩)) k1 k2 k3 k4 hr.1 hr.2 kk
        · cases hs; exact zs_newa cx hd (Or.inr (Or.inr ⟨rfl, rfl⟩)) k1 k2 k3 k4 hr.1 hr.2 kk
        · cases hs
      · cases hs
    · cases hs
  | anewarray k =>
    obtain rfl := zl_len hlen rfl
    simp only [zexec] at hs
    split at hs
    · split at hs
      · next hk =>
        obtain ⟨k1, k2, k3, k4⟩ := hk
        split at hs
        · next ci hz =>
          split at hs
          · next ha => cases hs; exact zs_newq cx hd hz ha.1 ha.2 k1 k2 k3 k4 hr.1 hr.2 kk
          · cases hs
        · cases hs
      · cases hs
    · cases hs
  | dup =>
    obtain rfl := zl_len hlen rfl
    simp only [zexec] at hs
    split at hs
    · split at hs
      · next hv => cases hs; exact zs_dup cx hd hv kk
      · cases hs
    · cases hs
  | dup2 =>
    obtain rfl := zl_len hlen rfl
    simp only [zexec] at hs
    split at hs
    · split at hs
      · next hv => cases hs; exact zs_dup2 cx hd hv.1 hv.2 kk
      · cases hs
    · cases hs
  | pop =>
    obtain rfl := zl_len hlen rfl
    simp only [zexec] at hs
    split at hs
    · split at hs
      · next hv => cases hs; exact zs_pop cx hd hv kk
      · cases hs
    · cases hs
  | pop2 =>
    obtain rfl := zl_len hlen rfl
    simp only [zexec] at hs
    split at hs
    · split at hs
      · next hv => cases hs; exact zs_pop2 cx hd hv kk
      · cases hs
    · cases hs
  | invokevirtual k =>
    obtain rfl := zl_len hlen rfl
    simp only [zexec] at hs
    split at hs
    · next kd na cm hz =>
      split at hs
      · next hk =>
        subst hk
        exact zsim_call cx hd (Or.inl ⟨rfl, rfl⟩) hz hs hcall hr.1 hr.2 hf hlo kk
      · cases hs
    · cases hs
  | invokestatic k =>
    obtain rfl := zl_len hlen rfl
    simp only [zexec] at hs
    split at hs
    · next kd na cm hz =>
      split at hs
      · next hk => exact zsim_call cx hd (Or.inr (Or.inl ⟨rfl, hk⟩)) hz hs hcall hr.1 hr.2 hf hlo kk
      · split at hs
        · next hk =>
          subst hk
          split at hs
          · next hq => exact hled k na cm hz hd hq.1 (of_decide_eq_true hq.2) hs
          · cases hs
        · split at hs
          · cases hs
          · next hk10 =>
            cases hdp : decide (0 < d) with
            | true =>
              rw [hdp] at hs
              have hd0 : 0 < d := of_decide_eq_true hdp
              exact zs_prim cx hd (Or.inr ⟨rfl, hk10⟩) hz hs (by omega) (by omega) hr0.1 hr0.2 kk
            | false =>
              rw [hdp] at hs
              unfold zprim at hs
              rw [if_neg (by decide)] at hs
              cases hs
    · cases hs
  | invokespecial k =>
    obtain rfl := zl_len hlen rfl
    simp only [zexec] at hs
    split at hs
    · next kd na cm hz =>
      split at hs
      · next hk => exact zsim_call cx hd (Or.inr (Or.inr ⟨rfl, hk⟩)) hz hs hcall hr.1 hr.2 hf hlo kk
      · split at hs
        · next hk10 =>
          subst hk10
          cases hdp : decide (0 < d) with
          | true =>
            rw [hdp] at hs
            have hd0 : 0 < d := of_decide_eq_true hdp
            exact zs_prim cx hd (Or.inl ⟨rfl, rfl⟩) hz hs (by omega) (by omega) hr0.1 hr0.2 kk
          | false =>
            rw [hdp] at hs
            unfold zprim at hs
            rw [if_neg (by decide)] at hs
            cases hs
        · cases hs
    · cases hs
  | ireturn =>
    simp only [zexec] at hs
    split at hs
    · split at hs
      · split at hs <;> cases hs
      · cases hs
    · cases hs
  | lreturn =>
    simp only [zexec] at hs
    split at hs
    · split at hs <;> cases hs
    · cases hs
  | return_ =>
    simp only [zexec] at hs
    split at hs
    · split at hs <;> cases hs
    · cases hs
  | _ => obtain rfl := zl_len hlen rfl; exact zs_arith cx hd hs kk
end ZS6
end
section
/-! runs -/
def zhp (x : zC ⊕ zR) : zH := match x with
  | .inl g => g.2.2.2
  | .inr r => r.2
section ZM
variable {pc len : Nat} {ls : zL} {st : List zV} {h : zH} {x : zC ⊕ zR}
def zle (h h' : zH) : Prop := zc h ≤ zc h' ∧ zt h ≤ zt h'
theorem zle.rf : zle h h := ⟨Nat.le_refl _, Nat.le_refl _⟩
theorem zle.tr {a b c : zH} (h1 : zle a b) (h2 : zle b c) : zle a c := ⟨Nat.le_trans h1.1 h2.1, Nat.le_trans h1.2 h2.2⟩
theorem zle.of {a b : zH} (h1 : b.1 = a.1) (h2 : b.2.2.2.2 = a.2.2.2.2) : zle a b := by
  unfold zle zc zt
  rw [h1, h2]
  exact ⟨Nat.le_refl _, Nat.le_refl _⟩
theorem zle_new {k n : Nat} : zle h (znew h k n) := ⟨by rw [zc_new]; omega, by rw [zt_new]; omega⟩
theorem zle_thr : zle h (zthr h) := by
  refine ⟨?_, ?_⟩
  · show h.1.1 + h.2.2.2.2 ≤ h.1.1 + (h.2.2.2.2 + 1)
    omega
  · show h.1.2.2 + 6 * h.2.2.2.2 ≤ h.1.2.2 + 6 * (h.2.2.2.2 + 1)
    omega
theorem zldv_h {m : zM} {ca k : Nat} (hz : zldv m ca k len pc ls st h = some x) : zle h (zhp x) := by
  unfold zldv at hz
  split at hz
  · split at hz
    · cases hz; exact zle.rf
    · cases hz
  · cases hz
theorem zload_h {so k : Nat} (hz : zload so k len pc ls st h = some x) : zle h (zhp x) := by
  unfold zload at hz
  split at hz
  · split at hz
    · cases hz; exact zle.rf
    · cases hz
  · split at hz
    · cases hz; exact zle.rf
    · cases hz
  · split at hz
    · cases hz; exact zle.rf
    · cases hz
  · cases hz
theorem zstore_h {m : zM} {so k : Nat} (hz : zstore m so k len pc ls st h = some x) : zle h (zhp x) := by
  unfold zstore at hz
  split at hz
  · split at hz
    · cases hz; exact zle.rf
    · cases hz
  · split at hz
    · cases hz; exact zle.rf
    · cases hz
  · split at hz
    · cases hz; exact zle.rf
    · cases hz
  · cases hz
theorem zarith_h {i : Instr} (hz : zarith i len pc ls st h = some x) : zle h (zhp x) := by
  unfold zarith at hz
  split at hz
  · split at hz
    · cases hz; exact zle.rf
    · split at hz
      · cases hz; exact zle.rf
      · cases hz
  · split at hz
    · cases hz; exact zle.rf
    · cases hz
  · split at hz
    · cases hz; exact zle.rf
    · cases hz
  · cases hz
theorem zjump_h {off : Int} (hz : zjump pc off ls st h = some x) : zle h (zhp x) := by
  unfold zjump at hz
  split at hz
  · cases hz; exact zle.rf
  · cases hz
theorem zbr_h {b : Bool} {off : Int} (hz : zbr b pc len off ls st h = some x) : zle h (zhp x) := by
  unfold zbr at hz
  split at hz
  · split at hz
    · cases hz; exact zle.rf
    · cases hz; exact zle.rf
  · cases hz
theorem zput_h {ci a f : Nat} {v : zV} {h' : zH} (hz : zput h ci a f v = some h') : zle h h' := by
  unfold zput at hz
  split at hz
  · split at hz
    · cases hz; exact zle.of rfl rfl
    · cases hz
  · split at hz
    · cases hz; exact zle.of rfl rfl
    · cases hz
  · cases hz
theorem zst_h {kd a : Nat} {i v : Int32} {h' : zH} (hz : zst h kd a i v = some h') : zle h h' := by
  unfold zst at hz
  split at hz
  · split at hz
    · split at hz
      · cases hz; exact zle.of rfl rfl
      · cases hz
    · cases hz
  · cases hz
theorem zprim_h {deep : Bool} {kd : Nat} (hz : zprim deep kd pc ls st h = some x) : zle h (zhp x) := by
  unfold zprim at hz
  split at hz
  · split at hz
    · split at hz
      · split at hz
        · cases hz; exact zle.rf
        · cases hz
      · cases hz
    · split at hz
      · split at hz
        · split at hz
          · cases hz; exact zle.rf
          · cases hz
        · cases hz
      · split at hz
        · split at hz
          · split at hz
            · cases hz; exact zle.rf
            · cases hz
          · cases hz
        · split at hz
          · split at hz
            · split at hz
              · cases hz; exact zle.rf
              · cases hz
            · cases hz
          · split at hz
            · unfold zcopy at hz
              split at hz
              · split at hz
                · split at hz
                  · cases hz; exact zle.of rfl rfl
                  · cases hz
                · cases hz
              · cases hz
            · cases hz
  · cases hz
variable {call : zM → List zV → zH → Option zR}
theorem zcall_h {cm : zM} {kd na : Nat} (hcall : ∀ cm vs hh v hh', call cm vs hh = some (v, hh') → zle hh hh') (hz : zcall call cm kd na pc ls st h = some x) : zle h (zhp x) := by
  unfold zcall at hz
  split at hz
  · split at hz
    · split at hz
      · next r h' q => cases hz; exact hcall _ _ _ _ _ q
      · cases hz
    · split at hz
      · split at hz
        · split at hz
          · split at hz
            · next r h' q => cases hz; exact hcall _ _ _ _ _ q
            · cases hz
          · cases hz
        · cases hz
      · cases hz
  · cases hz
theorem zled_h (hcall : ∀ cm vs hh v hh', call cm vs hh = some (v, hh') → zle hh hh') (hz : zled call pc ls st h = some x) : zle h (zhp x) := by
  unfold zled at hz
  split at hz
  · split at hz
    · split at hz
      · next b h' q => cases hz; exact (hcall _ _ _ _ _ q).tr (zle.of rfl rfl)
      · next b h' q => cases hz; exact hcall _ _ _ _ _ q
      · cases hz
    · cases hz
  · cases hz
theorem zexec_h {scr : Option (Nat × (Nat → Int32))} {deep : Bool} {m : zM} {i : Instr} (hcall : ∀ cm vs hh v hh', call cm vs hh = some (v, hh') → zle hh hh') (hs : zexec scr call deep m i len pc ls st h = some x) : zle h (zhp x) := by
  cases i with
  | iconst n => cases hs; exact zle.rf
  | bipush n => cases hs; exact zle.rf
  | sipush n => cases hs; exact zle.rf
  | lconst n => cases hs; exact zle.rf
  | ldc k => exact zldv_h hs
  | ldc_w k => exact zldv_h hs
  | ldc2_w k => exact zldv_h hs
  | iload k => exact zload_h hs
  | iload_n k => exact zload_h hs
  | lload k => exact zload_h hs
  | lload_n k => exact zload_h hs
  | aload k => exact zload_h hs
  | aload_n k => exact zload_h hs
  | istore k => exact zstore_h hs
  | istore_n k => exact zstore_h hs
  | lstore k => exact zstore_h hs
  | lstore_n k => exact zstore_h hs
  | astore k => exact zstore_h hs
  | astore_n k => exact zstore_h hs
  | iinc k n =>
    simp only [zexec] at hs
    split at hs
    · split at hs
      · cases hs; exact zle.rf
      · cases hs
    · cases hs
  | lshl =>
    simp only [zexec] at hs
    split at hs
    · cases hs; exact zle.rf
    · cases hs
  | ifCond cd off =>
    simp only [zexec] at hs
    split at hs
    · exact zbr_h hs
    · cases hs
  | if_icmp cd off =>
    simp only [zexec] at hs
    split at hs
    · exact zbr_h hs
    · cases hs
  | goto off => exact zjump_h hs
  | tableswitch df lo hi offs =>
    simp only [zexec] at hs
    split at hs
    · split at hs
      · exact zjump_h hs
      · split at hs
        · exact zjump_h hs
        · cases hs
    · cases hs
  | getfield k =>
    simp only [zexec] at hs
    split at hs
    · split at hs
      · split at hs
        · cases hs; exact zle.rf
        · cases hs
      · cases hs
    · cases hs
  | putfield k =>
    simp only [zexec] at hs
    split at hs
    · split at hs
      · split at hs
        · split at hs
          · next h' hp => cases hs; exact zput_h hp
          · cases hs
        · cases hs
      · cases hs
    · cases hs
  | iaload =>
    simp only [zexec] at hs
    split at hs
    · split at hs
      · cases hs; exact zle.rf
      · cases hs
    · cases hs
  | baload =>
    simp only [zexec] at hs
    split at hs
    · split at hs
      · cases hs; exact zle.rf
      · cases hs
    · cases hs
  | laload =>
    simp only [zexec] at hs
    split at hs
    · split at hs
      · split at hs
        · cases hs; exact zle.rf
        · cases hs
      · cases hs
    · cases hs
  | aaload =>
    simp only [zexec] at hs
    split at hs
    · split at hs
      · split at hs
        · cases hs; exact zle.rf
        · cases hs
      · cases hs
    · cases hs
  | iastore =>
    simp only [zexec] at hs
    split at hs
    · split at hs
      · next h' hv => cases hs; exact zst_h hv
      · cases hs
    · cases hs
  | bastore =>
    simp only [zexec] at hs
    split at hs
    · split at hs
      · next h' hv => cases hs; exact zst_h hv
      · cases hs
    · cases hs
  | lastore =>
    simp only [zexec] at hs
    split at hs
    · split at hs
      · split at hs
        · cases hs; exact zle.of rfl rfl
        · cases hs
      · cases hs
    · cases hs
  | aastore =>
    simp only [zexec] at hs
    split at hs
    · split at hs
      · split at hs
        · cases hs; exact zle.of rfl rfl
        · cases hs
      · cases hs
    · cases hs
  | arraylength =>
    simp only [zexec] at hs
    split at hs
    · split at hs
      · cases hs; exact zle.rf
      · cases hs
    · cases hs
  | new k =>
    simp only [zexec] at hs
    split at hs
    · split at hs
      · split at hs
        · cases hs; exact zle_new
        · cases hs
      · split at hs
        · cases hs; exact zle_thr
        · cases hs
    · cases hs
  | newarray t =>
    simp only [zexec] at hs
    split at hs
    · split at hs
      · split at hs
        · cases hs; exact zle_new
        · cases hs; exact zle_new
        · cases hs; exact zle_new
        · cases hs
      · cases hs
    · cases hs
  | anewarray k =>
    simp only [zexec] at hs
    split at hs
    · split at hs
      · split at hs
        · split at hs
          · cases hs; exact zle_new
          · cases hs
        · cases hs
      · cases hs
    · cases hs
  | dup =>
    simp only [zexec] at hs
    split at hs
    · split at hs
      · cases hs; exact zle.rf
      · cases hs
    · cases hs
  | dup2 =>
    simp only [zexec] at hs
    split at hs
    · split at hs
      · cases hs; exact zle.rf
      · cases hs
    · cases hs
  | pop =>
    simp only [zexec] at hs
    split at hs
    · split at hs
      · cases hs; exact zle.rf
      · cases hs
    · cases hs
  | pop2 =>
    simp only [zexec] at hs
    split at hs
    · split at hs
      · cases hs; exact zle.rf
      · cases hs
    · cases hs
  | invokevirtual k =>
    simp only [zexec] at hs
    split at hs
    · split at hs
      · exact zcall_h hcall hs
      · cases hs
    · cases hs
  | invokestatic k =>
    simp only [zexec] at hs
    split at hs
    · split at hs
      · exact zcall_h hcall hs
      · split at hs
        · split at hs
          · exact zled_h hcall hs
          · cases hs
        · split at hs
          · cases hs
          · exact zprim_h hs
    · cases hs
  | invokespecial k =>
    simp only [zexec] at hs
    split at hs
    · split at hs
      · exact zcall_h hcall hs
      · split at hs
        · exact zprim_h hs
        · cases hs
    · cases hs
  | ireturn =>
    simp only [zexec] at hs
    split at hs
    · split at hs
      · split at hs
        · cases hs; exact zle.rf
        · cases hs
      · cases hs
    · cases hs
  | lreturn =>
    simp only [zexec] at hs
    split at hs
    · split at hs
      · cases hs; exact zle.rf
      · cases hs
    · cases hs
  | return_ =>
    simp only [zexec] at hs
    split at hs
    · split at hs
      · cases hs; exact zle.rf
      · cases hs
    · cases hs
  | _ => simp only [zexec] at hs; exact zarith_h hs
end ZM
theorem zrun_h : ∀ (n : Nat) (scr : Option (Nat × (Nat → Int32))) (d : Nat) (m : zM) (g : zC) (v : Option zV) (h' : zH), zrun n scr d m g = some (v, h') → zle g.2.2.2 h' := by
  intro n
  induction n with
  | zero => intro scr d m g v h' hz; cases hz
  | succ n ih =>
    intro scr d m g v h' hz
    unfold zrun at hz
    have hcall : ∀ cm vs hh v hh', (fun (k : zM) (vs : List zV) (h : zH) => (match d with
      | 0 => none
      | d' + 1 => if zwd vs ≤ k.2.2.1 then zrun n none d' k (0, zargs 0 vs, [], h) else none : Option zR)) cm vs hh = some (v, hh') → zle hh hh' := by
      intro cm vs hh v hh' hq
      dsimp only at hq
      split at hq
      · cases hq
      · split at hq
        · exact ih _ _ _ _ _ _ hq
        · cases hq
    split at hz
    · next g' hs =>
      unfold zstep at hs
      split at hs
      · split at hs
        · exact (zexec_h hcall hs).tr (ih _ _ _ _ _ _ hz)
        · cases hs
      · cases hs
    · next r hs =>
      cases hz
      unfold zstep at hs
      split at hs
      · split at hs
        · exact zexec_h hcall hs
        · cases hs
      · cases hs
    · cases hz
section ZI
variable {pc len : Nat} {ls : zL} {st : List zV} {h : zH} {x : zC ⊕ zR}
theorem zldv_i {m : zM} {ca k : Nat} (hz : zldv m ca k len pc ls st h = some x) : ∃ g, x = .inl g := by
  unfold zldv at hz
  split at hz
  · split at hz
    · cases hz; exact ⟨_, rfl⟩
    · cases hz
  · cases hz
theorem zload_i {so k : Nat} (hz : zload so k len pc ls st h = some x) : ∃ g, x = .inl g := by
  unfold zload at hz
  split at hz
  · split at hz
    · cases hz; exact ⟨_, rfl⟩
    · cases hz
  · split at hz
    · cases hz; exact ⟨_, rfl⟩
    · cases hz
  · split at hz
    · cases hz; exact ⟨_, rfl⟩
    · cases hz
  · cases hz
theorem zstore_i {m : zM} {so k : Nat} (hz : zstore m so k len pc ls st h = some x) : ∃ g, x = .inl g := by
  unfold zstore at hz
  split at hz
  · split at hz
    · cases hz; exact ⟨_, rfl⟩
    · cases hz
  · split at hz
    · cases hz; exact ⟨_, rfl⟩
    · cases hz
  · split at hz
    · cases hz; exact ⟨_, rfl⟩
    · cases hz
  · cases hz
theorem zarith_i {i : Instr} (hz : zarith i len pc ls st h = some x) : ∃ g, x = .inl g := by
  unfold zarith at hz
  split at hz
  · split at hz
    · cases hz; exact ⟨_, rfl⟩
    · split at hz
      · cases hz; exact ⟨_, rfl⟩
      · cases hz
  · split at hz
    · cases hz; exact ⟨_, rfl⟩
    · cases hz
  · split at hz
    · cases hz; exact ⟨_, rfl⟩
    · cases hz
  · cases hz
theorem zjump_i {off : Int} (hz : zjump pc off ls st h = some x) : ∃ g, x = .inl g := by
  unfold zjump at hz
  split at hz
  · cases hz; exact ⟨_, rfl⟩
  · cases hz
theorem zbr_i {b : Bool} {off : Int} (hz : zbr b pc len off ls st h = some x) : ∃ g, x = .inl g := by
  unfold zbr at hz
  split at hz
  · split at hz
    · cases hz; exact ⟨_, rfl⟩
    · cases hz; exact ⟨_, rfl⟩
  · cases hz
theorem zprim_i {deep : Bool} {kd : Nat} (hz : zprim deep kd pc ls st h = some x) : ∃ g, x = .inl g := by
  unfold zprim at hz
  split at hz
  · split at hz
    · split at hz
      · split at hz
        · cases hz; exact ⟨_, rfl⟩
        · cases hz
      · cases hz
    · split at hz
      · split at hz
        · split at hz
          · cases hz; exact ⟨_, rfl⟩
          · cases hz
        · cases hz
      · split at hz
        · split at hz
          · split at hz
            · cases hz; exact ⟨_, rfl⟩
            · cases hz
          · cases hz
        · split at hz
          · split at hz
            · split at hz
              · cases hz; exact ⟨_, rfl⟩
              · cases hz
            · cases hz
          · split at hz
            · unfold zcopy at hz
              split at hz
              · split at hz
                · split at hz
                  · cases hz; exact ⟨_, rfl⟩
                  · cases hz
                · cases hz
              · cases hz
            · cases hz
  · cases hz
variable {call : zM → List zV → zH → Option zR}
theorem zcall_i {cm : zM} {kd na : Nat} (hz : zcall call cm kd na pc ls st h = some x) : ∃ g, x = .inl g := by
  unfold zcall at hz
  split at hz
  · split at hz
    · split at hz
      · next r h' q => cases hz; exact ⟨_, rfl⟩
      · cases hz
    · split at hz
      · split at hz
        · split at hz
          · split at hz
            · next r h' q => cases hz; exact ⟨_, rfl⟩
            · cases hz
          · cases hz
        · cases hz
      · cases hz
  · cases hz
theorem zled_i (hz : zled call pc ls st h = some x) : ∃ g, x = .inl g := by
  unfold zled at hz
  split at hz
  · split at hz
    · split at hz
      · next b h' q => cases hz; exact ⟨_, rfl⟩
      · next b h' q => cases hz; exact ⟨_, rfl⟩
      · cases hz
    · cases hz
  · cases hz
theorem zexec_i {scr : Option (Nat × (Nat → Int32))} {deep : Bool} {m : zM} {i : Instr} (hy : m.2.2.2.2.1 ≠ yX11_led) (h1 : i ≠ .ireturn) (h2 : i ≠ .lreturn) (h3 : i ≠ .return_) (hs : zexec scr call deep m i len pc ls st h = some x) : ∃ g, x = .inl g := by
  cases i with
  | iconst n => cases hs; exact ⟨_, rfl⟩
  | bipush n => cases hs; exact ⟨_, rfl⟩
  | sipush n => cases hs; exact ⟨_, rfl⟩
  | lconst n => cases hs; exact ⟨_, rfl⟩
  | ldc k => exact zldv_i hs
  | ldc_w k => exact zldv_i hs
  | ldc2_w k => exact zldv_i hs
  | iload k => exact zload_i hs
  | iload_n k => exact zload_i hs
  | lload k => exact zload_i hs
  | lload_n k => exact zload_i hs
  | aload k => exact zload_i hs
  | aload_n k => exact zload_i hs
  | istore k => exact zstore_i hs
  | istore_n k => exact zstore_i hs
  | lstore k => exact zstore_i hs
  | lstore_n k => exact zstore_i hs
  | astore k => exact zstore_i hs
  | astore_n k => exact zstore_i hs
  | iinc k n =>
    simp only [zexec] at hs
    split at hs
    · split at hs
      · cases hs; exact ⟨_, rfl⟩
      · cases hs
    · cases hs
  | lshl =>
    simp only [zexec] at hs
    split at hs
    · cases hs; exact ⟨_, rfl⟩
    · cases hs
  | ifCond cd off =>
    simp only [zexec] at hs
    split at hs
    · exact zbr_i hs
    · cases hs
  | if_icmp cd off =>
    simp only [zexec] at hs
    split at hs
    · exact zbr_i hs
    · cases hs
  | goto off => exact zjump_i hs
  | tableswitch df lo hi offs =>
    simp only [zexec] at hs
    split at hs
    · split at hs
      · exact zjump_i hs
      · split at hs
        · exact zjump_i hs
        · cases hs
    · cases hs
  | getfield k =>
    simp only [zexec] at hs
    split at hs
    · split at hs
      · split at hs
        · cases hs; exact ⟨_, rfl⟩
        · cases hs
      · cases hs
    · cases hs
  | putfield k =>
    simp only [zexec] at hs
    split at hs
    · split at hs
      · split at hs
        · split at hs
          · next h' hp => cases hs; exact ⟨_, rfl⟩
          · cases hs
        · cases hs
      · cases hs
    · cases hs
  | iaload =>
    simp only [zexec] at hs
    split at hs
    · split at hs
      · cases hs; exact ⟨_, rfl⟩
      · cases hs
    · cases hs
  | baload =>
    simp only [zexec] at hs
    split at hs
    · split at hs
      · cases hs; exact ⟨_, rfl⟩
      · cases hs
    · cases hs
  | laload =>
    simp only [zexec] at hs
    split at hs
    · split at hs
      · split at hs
        · cases hs; exact ⟨_, rfl⟩
        · cases hs
      · cases hs
    · cases hs
  | aaload =>
    simp only [zexec] at hs
    split at hs
    · split at hs
      · split at hs
        · cases hs; exact ⟨_, rfl⟩
        · cases hs
      · cases hs
    · cases hs
  | iastore =>
    simp only [zexec] at hs
    split at hs
    · split at hs
      · next h' hv => cases hs; exact ⟨_, rfl⟩
      · cases hs
    · cases hs
  | bastore =>
    simp only [zexec] at hs
    split at hs
    · split at hs
      · next h' hv => cases hs; exact ⟨_, rfl⟩
      · cases hs
    · cases hs
  | lastore =>
    simp only [zexec] at hs
    split at hs
    · split at hs
      · split at hs
        · cases hs; exact ⟨_, rfl⟩
        · cases hs
      · cases hs
    · cases hs
  | aastore =>
    simp only [zexec] at hs
    split at hs
    · split at hs
      · split at hs
        · cases hs; exact ⟨_, rfl⟩
        · cases hs
      · cases hs
    · cases hs
  | arraylength =>
    simp only [zexec] at hs
    split at hs
    · split at hs
      · cases hs; exact ⟨_, rfl⟩
      · cases hs
    · cases hs
  | new k =>
    simp only [zexec] at hs
    split at hs
    · split at hs
      · split at hs
        · cases hs; exact ⟨_, rfl⟩
        · cases hs
      · split at hs
        · next hq => exact absurd hq.2.1 hy
        · cases hs
    · cases hs
  | newarray t =>
    simp only [zexec] at hs
    split at hs
    · split at hs
      · split at hs
        · cases hs; exact ⟨_, rfl⟩
        · cases hs; exact ⟨_, rfl⟩
        · cases hs; exact ⟨_, rfl⟩
        · cases hs
      · cases hs
    · cases hs
  | anewarray k =>
    simp only [zexec] at hs
    split at hs
    · split at hs
      · split at hs
        · split at hs
          · cases hs; exact ⟨_, rfl⟩
          · cases hs
        · cases hs
      · cases hs
    · cases hs
  | dup =>
    simp only [zexec] at hs
    split at hs
    · split at hs
      · cases hs; exact ⟨_, rfl⟩
      · cases hs
    · cases hs
  | dup2 =>
    simp only [zexec] at hs
    split at hs
    · split at hs
      · cases hs; exact ⟨_, rfl⟩
      · cases hs
    · cases hs
  | pop =>
    simp only [zexec] at hs
    split at hs
    · split at hs
      · cases hs; exact ⟨_, rfl⟩
      · cases hs
    · cases hs
  | pop2 =>
    simp only [zexec] at hs
    split at hs
    · split at hs
      · cases hs; exact ⟨_, rfl⟩
      · cases hs
    · cases hs
  | invokevirtual k =>
    simp only [zexec] at hs
    split at hs
    · split at hs
      · exact zcall_i hs
      · cases hs
    · cases hs
  | invokestatic k =>
    simp only [zexec] at hs
    split at hs
    · split at hs
      · exact zcall_i hs
      · split at hs
        · split at hs
          · exact zled_i hs
          · cases hs
        · split at hs
          · cases hs
          · exact zprim_i hs
    · cases hs
  | invokespecial k =>
    simp only [zexec] at hs
    split at hs
    · split at hs
      · exact zcall_i hs
      · split at hs
        · exact zprim_i hs
        · cases hs
    · cases hs
  | ireturn => exact absurd rfl h1
  | lreturn => exact absurd rfl h2
  | return_ => exact absurd rfl h3
  | _ => simp only [zexec] at hs; exact zarith_i hs
end ZI
end
section
/-! whole runs of a method -/
def zcf (n d : Nat) : zM → List zV → zH → Option zR := fun k vs h => match d with
  | 0 => none
  | d' + 1 => if zwd vs ≤ k.2.2.1 then zrun n none d' k (0, zargs 0 vs, [], h) else none
theorem zrun_succ (n : Nat) (scr : Option (Nat × (Nat → Int32))) (d : Nat) (m : zM) (g : zC) : zrun (n + 1) scr d m g = (match zstep scr (zcf n d) (decide (0 < d)) m g with
    | some (.inl c') => zrun n scr d m c'
    | some (.inr r) => some r
    | none => none) := rfl
def zMetAll (l : Launch) (B : Nat) (sp : Nat → Nat) (cA : Nat → ClassId) (D : va_G) (n : Nat) : Prop := ∀ (d : Nat) (cm : zM) (vs : List zV) (h : zH) (v : Option zV) (h' : zH), zMok cm → zwd vs ≤ cm.2.2.1 → zrun n none d cm (0, zargs 0 vs, [], h) = some (v, h') → zMet l B sp cA D d cm vs h v h'
section ZS8
variable {p : Program} {l : Launch} {e : Env} {R : Room} {s : State} {m : MethodId} {args : Array Value} {below : List Frame} {meth : Method} {c : Code} {Q : State → Prop} {B : Nat} {sp : Nat → Nat} {cA : Nat → ClassId} {D : va_G} {mi : zM} {c0 s0 : Nat}
theorem zcf_met {n d : Nat} (IH : zMetAll l B sp cA D n) : ∀ cm, zMok cm → ∀ vs hh v hh', zcf n d cm vs hh = some (v, hh') → (∃ d', d = d' + 1 ∧ zMet l B sp cA D d' cm vs hh v hh') ∧ zc hh ≤ zc hh' ∧ zt hh ≤ zt hh' := by
  intro cm hM vs hh v hh' hq
  unfold zcf at hq
  split at hq
  · cases hq
  · next d' =>
    split at hq
    · next hw => exact ⟨⟨d', rfl, IH d' cm vs hh v hh' hM hw hq⟩, zrun_h _ _ _ _ _ _ _ hq⟩
    · cases hq
theorem zsim_run {scr : Option (Nat × (Nat → Int32))} {d : Nat} {v : Option zV} {h' : zH} (cx : zX p s m args meth c B sp cA D mi)
    (hscr : ∀ L xs, scr = some (L, xs) → va_X (sp 1000000) L xs s s.heap ∧ sp 1000000 < s.heap.size ∧ sp 1000000 < B)
    (hf : d ≤ R.frames) (hlo : 60 * d ≤ R.locals) (hr : zc h' ≤ c0 + R.cells ∧ zt h' ≤ s0 + R.slots) (N : Nat) (IH : ∀ k, k < N → zMetAll l B sp cA D k)
    (hled : ∀ (n k na : Nat) (cm : zM) (pc : Nat) (ls : zL) (st : List zV) (h : zH) (g : zC), n < N → zmth mi.2.1 k = some (16, na, cm) → decode mi.1 pc = .ok (.invokestatic k, 3) → scr.isSome = true → 0 < d → zled (zcf n d) pc ls st h = some (.inl g) → zc g.2.2.2 ≤ c0 + R.cells ∧ zt g.2.2.2 ≤ s0 + R.slots → zK p l e R s m args below meth c Q B sp cA D mi c0 s0 g → zK p l e R s m args below meth c Q B sp cA D mi c0 s0 (pc, ls, st, h))
    (hfin : ∀ (n : Nat) (g : zC), n < N → zstep scr (zcf n d) (decide (0 < d)) mi g = some (.inr (v, h')) → zK p l e R s m args below meth c Q B sp cA D mi c0 s0 g) :
    ∀ (n : Nat) (g : zC), n ≤ N → zrun n scr d mi g = some (v, h') → zK p l e R s m args below meth c Q B sp cA D mi c0 s0 g := by
  intro n
  induction n with
  | zero => intro g _ hz; cases hz
  | succ n ih =>
    intro g hn hz
    have hz0 := hz
    rw [zrun_succ] at hz
    split at hz
    · next g' hs =>
      have hk := ih g' (by omega) hz
      have hle := zrun_h _ _ _ _ _ _ _ hz
      have hle0 := zrun_h _ _ _ _ _ _ _ hz0
      have hr' : zc g'.2.2.2 ≤ c0 + R.cells ∧ zt g'.2.2.2 ≤ s0 + R.slots := ⟨Nat.le_trans hle.1 hr.1, Nat.le_trans hle.2 hr.2⟩
      have hr0 : zc g.2.2.2 ≤ c0 + R.cells ∧ zt g.2.2.2 ≤ s0 + R.slots := ⟨Nat.le_trans hle0.1 hr.1, Nat.le_trans hle0.2 hr.2⟩
      unfold zstep at hs
      split at hs
      · next i len hd =>
        split at hs
        · next hl =>
          obtain ⟨pc, ls, st, h⟩ := g
          exact zsim_exec cx hd hl hs hscr (zcf_met (IH n (by omega))) (fun k na cm h1 h2 h3 h4 h5 => hled n k na cm pc ls st h g' (by omega) h1 h2 h3 h4 h5 hr' hk) hf hlo hr0 hr' hk
        · cases hs
      · cases hs
    · next r hs =>
      cases hz
      exact hfin n g (by omega) hs
    · cases hz
/-- the last step of a method that isn't led -/
theorem zs_fin {scr : Option (Nat × (Nat → Int32))} {call : zM → List zV → zH → Option zR} {deep : Bool} {g : zC} {v : Option zV} {h' : zH} (hs : zstep scr call deep mi g = some (.inr (v, h'))) (hy : mi.2.2.2.2.1 ≠ yX11_led) :
    g.2.2.2 = h' ∧ ((∃ (x : Int32) (ty : FieldType), v = some (.inl x) ∧ g.2.2.1 = [.inl x] ∧ mi.2.2.2.1 = some ty ∧ narrow ty (.int x) = .int x ∧ decode mi.1 g.1 = .ok (.ireturn, 1)) ∨ (∃ x : Int64, v = some (.inr (.inl x)) ∧ g.2.2.1 = [.inr (.inl x)] ∧ mi.2.2.2.1 = some .long ∧ decode mi.1 g.1 = .ok (.lreturn, 1)) ∨ (v = none ∧ g.2.2.1 = [] ∧ mi.2.2.2.1 = none ∧ decode mi.1 g.1 = .ok (.return_, 1))) := by
  obtain ⟨pc, ls, st, h⟩ := g
  unfold zstep at hs
  split at hs
  · next i len hd =>
    split at hs
    · next hl =>
      by_cases i1 : i = .ireturn
      · subst i1
        obtain rfl := zl_len hl rfl
        simp only [zexec] at hs
        split at hs
        · next x =>
          split at hs
          · next ty h2 =>
            split at hs
            · next hn => cases hs; exact ⟨rfl, Or.inl ⟨x, ty, rfl, rfl, h2, hn, hd⟩⟩
            · cases hs
          · cases hs
        · cases hs
      · by_cases i2 : i = .lreturn
        · subst i2
          obtain rfl := zl_len hl rfl
          simp only [zexec] at hs
          split at hs
          · next x =>
            split at hs
            · next h2 => cases hs; exact ⟨rfl, Or.inr (Or.inl ⟨x, rfl, rfl, h2, hd⟩)⟩
            · cases hs
          · cases hs
        · by_cases i3 : i = .return_
          · subst i3
            obtain rfl := zl_len hl rfl
            simp only [zexec] at hs
            split at hs
            · split at hs
              · next h2 => cases hs; exact ⟨rfl, Or.inr (Or.inr ⟨rfl, rfl, h2, hd⟩)⟩
              · cases hs
            · cases hs
          · obtain ⟨g, hg⟩ := zexec_i hy i1 i2 i3 hs
            cases hg
    · cases hs
  · cases hs
/-- every run of a method, but led, is its contract -/
theorem zmet_all (l : Launch) (B : Nat) (sp : Nat → Nat) (cA : Nat → ClassId) (D : va_G) : ∀ n, zMetAll l B sp cA D n := by
  intro n
  induction n using Nat.strongRecOn with
  | ind n IH =>
    intro d cm vs h v h' hM hw hz
    have hle := zrun_h _ _ _ _ _ _ _ hz
    unfold zMet
    refine Met.ofW (cc := cm.1) (maxL := cm.2.2.1) (ret := cm.2.2.2.1) hM.2.2.1 rfl ?_
    intro p e s m args below meth c s₁ B' hml hv
    obtain ⟨rfl, hC, hR⟩ := hv
    have hts := atoms_spec (ws := zwsM cm) B'.pre
    have hown : s.vm.findClass cm.2.2.2.2.1.cls = some m.cls := findClass_of_methodNamed B'.named
    have hnm : meth.name = cm.2.2.2.2.1.name := (name_of_methodNamed B'.named B'.method).1
    have hlocks := B'.notSynchronized
    have cx : zX p s m (vs.map (zcv B sp)).toArray meth c B sp cA D cm := ⟨B'.exec, B'.bytes, hml, by rw [hM.2.1]; exact hown, fun w hw => hts w (List.mem_cons_of_mem _ hw), fun q => by rw [hnm]; exact hM.2.2.2.2.2.1 q, hC⟩
    have hl := lv_entry (vs.map (zcv B sp)) (n := cm.2.2.1) (by
      have e : ∀ us : List zV, (lg_sl (us.map (zcv B sp))).length = zwd us := by
        intro us
        induction us with
        | nil => rfl
        | cons u us ih =>
          have e1 : lg_sl ((u :: us).map (zcv B sp)) = (if (zcv B sp u).category = 2 then [.val (zcv B sp u), .second] else [.val (zcv B sp u)]) ++ lg_sl (us.map (zcv B sp)) := by simp [lg_sl]
          have e2 : zwd (u :: us) = zcat u + zwd us := by simp [zwd]
          rw [e1, e2, List.length_append, ih, zcat_cv]
          have : zcat u = 1 ∨ zcat u = 2 := by
            match u with
            | .inl _ => exact Or.inl rfl
            | .inr (.inl _) => exact Or.inr rfl
            | .inr (.inr _) => exact Or.inl rfl
          rcases this with q | q <;> rw [q] <;> simp
      rw [e]
      exact hw)
    rw [zargs_lv] at hl
    rw [lg_entry_eq]
    generalize (lg_sl (vs.map (zcv B sp)) ++ List.replicate (cm.2.2.1 - (lg_sl (vs.map (zcv B sp))).length) Slot.unset).toArray = lA at hl ⊢
    have hS : va_S (zAr B) s.heap s.heap [] := va_S.rf
    refine zsim_run (R := (headSpec (zwsM cm) (zrm d (zc h' - zc h) (zt h' - zt h))).room) (scr := none) (d := d) (v := v) (h' := h') (c0 := zc h) (s0 := zt h) (mi := cm) cx (fun L xs q => by cases q) (Nat.le_refl d) (Nat.le_refl (60 * d)) ⟨by show zc h' ≤ zc h + (zc h' - zc h); omega, by show zt h' ≤ zt h + (zt h' - zt h); omega⟩ n IH (fun n k na cm pc ls st h g _ _ _ q => by cases q) ?_ n (0, zargs 0 vs, [], h) (Nat.le_refl n) hz s.heap [] lA 0 0 hR hS hl (by show zc h + 0 = zc h; omega) (by show zt h + 0 = zt h; omega)
    intro k g _ hs H locs lA' cells slots hR' hS' hl' h1 h2
    obtain ⟨e0, hcase⟩ := zs_fin hs hM.2.2.2.2.2.2
    rw [e0] at hR' h1 h2
    have hcl : cells = zc h' - zc h := by omega
    have hsl : slots = zt h' - zt h := by omega
    subst hcl
    subst hsl
    rcases hcase with ⟨x, ty, rfl, e1, e2, hn, hd⟩ | ⟨x, rfl, e1, e2, hd⟩ | ⟨rfl, e1, e2, hd⟩
    · rw [e1]
      exact W.zret (v := x) (ty := ty) cx.1 cx.2.1 (by rw [B'.returns]; exact e2) hn (fun t ht hW => ⟨⟨x, (), rfl, rfl, by show zRel B sp cA D h' t.heap; rw [ht]; exact hR'⟩, hS'.F ht⟩) hS'.2.2 hd
    · rw [e1]
      exact W.lret (v := x) cx.1 cx.2.1 (by rw [B'.returns]; exact e2) (fun t ht hW => ⟨⟨x, (), rfl, rfl, by show zRel B sp cA D h' t.heap; rw [ht]; exact hR'⟩, hS'.F ht⟩) hS'.2.2 hd
    · rw [e1]
      exact W.vret cx.1 cx.2.1 (by rw [B'.returns]; exact e2) (fun t ht hW => ⟨⟨(), rfl, trivial, by show zRel B sp cA D h' t.heap; rw [ht]; exact hR'⟩, hS'.F ht⟩) hS'.2.2 hd
end ZS8
end
section
/-! the small machine's own judgement: a run that ends, and what holds then -/
def zEx (scr : Option (Nat × (Nat → Int32))) (d : Nat) (m : zM) (g : zC) (Q : Option zV → zH → Prop) : Prop := ∃ (n : Nat) (v : Option zV) (h' : zH), zrun n scr d m g = some (v, h') ∧ Q v h'
/-- a contract of a method -/
def zCt (d : Nat) (m : zM) (vs : List zV) (h : zH) (Q : Option zV → zH → Prop) : Prop := zEx none d m (0, zargs 0 vs, [], h) Q
section ZF
variable {pc len : Nat} {ls : zL} {st : List zV} {h : zH} {x : zC ⊕ zR} {call call' : zM → List zV → zH → Option zR}
theorem zcall_m {cm : zM} {kd na : Nat} (hc : ∀ k vs h r, call k vs h = some r → call' k vs h = some r) (hz : zcall call cm kd na pc ls st h = some x) : zcall call' cm kd na pc ls st h = some x := by
  unfold zcall at hz ⊢
  split at hz
  · next q =>
    rw [if_pos q]
    split at hz
    · next q2 =>
      rw [if_pos q2]
      split at hz
      · next r h' q3 => rw [hc _ _ _ _ q3]; exact hz
      · cases hz
    · next q2 =>
      rw [if_neg q2]
      split at hz
      · next a vs q3 =>
        split at hz
        · next k n q4 =>
          split at hz
          · next q5 =>
            rw [if_pos q5]
            split at hz
            · next r h' q6 => rw [hc _ _ _ _ q6]; exact hz
            · cases hz
          · cases hz
        · cases hz
      · cases hz
  · cases hz
theorem zled_m (hc : ∀ k vs h r, call k vs h = some r → call' k vs h = some r) (hz : zled call pc ls st h = some x) : zled call' pc ls st h = some x := by
  unfold zled at hz ⊢
  split at hz
  · next o p0 a st' =>
    split at hz
    · next q =>
      rw [if_pos q]
      split at hz
      · next b h' q3 => rw [hc _ _ _ _ q3]; exact hz
      · next b h' q3 => rw [hc _ _ _ _ q3]; exact hz
      · cases hz
    · cases hz
  · cases hz
theorem zexec_m {scr : Option (Nat × (Nat → Int32))} {deep : Bool} {m : zM} {i : Instr} (hc : ∀ k vs h r, call k vs h = some r → call' k vs h = some r) (hs : zexec scr call deep m i len pc ls st h = some x) : zexec scr call' deep m i len pc ls st h = some x := by
  cases i with
  | invokevirtual k =>
    simp only [zexec] at hs ⊢
    split at hs
    · next q =>
      split at hs
      · next q2 => rw [if_pos q2]; exact zcall_m hc hs
      · cases hs
    · cases hs
  | invokestatic k =>
    simp only [zexec] at hs ⊢
    split at hs
    · next q =>
      split at hs
      · next q2 => rw [if_pos q2]; exact zcall_m hc hs
      · next q2 =>
        rw [if_neg q2]
        split at hs
        · next q3 =>
          rw [if_pos q3]
          split at hs
          · next q4 => rw [if_pos q4]; exact zled_m hc hs
          · cases hs
        · next q3 => rw [if_neg q3]; exact hs
    · cases hs
  | invokespecial k =>
    simp only [zexec] at hs ⊢
    split at hs
    · next q =>
      split at hs
      · next q2 => rw [if_pos q2]; exact zcall_m hc hs
      · next q2 => rw [if_neg q2]; exact hs
    · cases hs
  | _ => exact hs
end ZF
theorem zrun_m : ∀ (n : Nat) (scr : Option (Nat × (Nat → Int32))) (d : Nat) (m : zM) (g : zC) (r : zR), zrun n scr d m g = some r → zrun (n + 1) scr d m g = some r := by
  intro n
  induction n with
  | zero => intro scr d m g r hz; cases hz
  | succ n ih =>
    intro scr d m g r hz
    rw [zrun_succ] at hz ⊢
    have hc : ∀ k vs h r, zcf n d k vs h = some r → zcf (n + 1) d k vs h = some r := by
      intro k vs h r hq
      unfold zcf at hq ⊢
      split at hq
      · cases hq
      · split at hq
        · next q => rw [if_pos q]; exact ih _ _ _ _ _ hq
        · cases hq
    have step : ∀ x, zstep scr (zcf n d) (decide (0 < d)) m g = some x → zstep scr (zcf (n + 1) d) (decide (0 < d)) m g = some x := by
      intro x hs
      unfold zstep at hs ⊢
      split at hs
      · next i len hd =>
        split at hs
        · next q => rw [if_pos q]; exact zexec_m hc hs
        · cases hs
      · cases hs
    split at hz
    · next g' hs => rw [step _ hs]; exact ih _ _ _ _ _ hz
    · next r' hs => rw [step _ hs]; exact hz
    · cases hz
theorem zrun_le {n n' : Nat} {scr : Option (Nat × (Nat → Int32))} {d : Nat} {m : zM} {g : zC} {r : zR} (hn : n ≤ n') (hz : zrun n scr d m g = some r) : zrun n' scr d m g = some r := by
  obtain ⟨k, rfl⟩ := Nat.exists_eq_add_of_le hn
  clear hn
  induction k with
  | zero => exact hz
  | succ k ih => exact zrun_m _ _ _ _ _ _ ih
section ZX
variable {scr : Option (Nat × (Nat → Int32))} {d : Nat} {m : zM} {pc pc' len : Nat} {ls : zL} {st : List zV} {h : zH} {Q : Option zV → zH → Prop} {i : Instr}
theorem ex_go {g' : zC} (hd : decode m.1 pc = .ok (i, len)) (hl : zilen i = 0 ∨ len = zilen i) (hx : ∀ call, zexec scr call (decide (0 < d)) m i len pc ls st h = some (.inl g')) (k : zEx scr d m g' Q) : zEx scr d m (pc, ls, st, h) Q := by
  obtain ⟨n, v, h', h1, h2⟩ := k
  refine ⟨n + 1, v, h', ?_, h2⟩
  rw [zrun_succ]
  have hs : zstep scr (zcf n d) (decide (0 < d)) m (pc, ls, st, h) = some (.inl g') := by
    unfold zstep
    rw [hd]
    dsimp only
    rw [if_pos hl]
    exact hx _
  rw [hs]
  exact h1
theorem ex_end {v : Option zV} {h' : zH} (hd : decode m.1 pc = .ok (i, len)) (hl : zilen i = 0 ∨ len = zilen i) (hx : ∀ call, zexec scr call (decide (0 < d)) m i len pc ls st h = some (.inr (v, h'))) (hq : Q v h') : zEx scr d m (pc, ls, st, h) Q := by
  refine ⟨1, v, h', ?_, hq⟩
  rw [zrun_succ]
  have hs : zstep scr (zcf 0 d) (decide (0 < d)) m (pc, ls, st, h) = some (.inr (v, h')) := by
    unfold zstep
    rw [hd]
    dsimp only
    rw [if_pos hl]
    exact hx _
  rw [hs]
theorem ex_call {cm : zM} {vs rest : List zV} {Qc : Option zV → zH → Prop} (hd : decode m.1 pc = .ok (i, len)) (hl : zilen i = 0 ∨ len = zilen i) (hx : ∀ call r h', call cm vs h = some (r, h') → zexec scr call true m i len pc ls st h = some (.inl (pc', ls, r.toList ++ rest, h'))) (hw : zwd vs ≤ cm.2.2.1) (hc : zCt d cm vs h Qc) (k : ∀ r h', Qc r h' → zEx scr (d + 1) m (pc', ls, r.toList ++ rest, h') Q) : zEx scr (d + 1) m (pc, ls, st, h) Q := by
  obtain ⟨n1, r, h1, a1, a2⟩ := hc
  obtain ⟨n2, v, h', b1, b2⟩ := k r h1 a2
  refine ⟨max n1 n2 + 1, v, h', ?_, b2⟩
  rw [zrun_succ]
  have hs : zstep scr (zcf (max n1 n2) (d + 1)) (decide (0 < d + 1)) m (pc, ls, st, h) = some (.inl (pc', ls, r.toList ++ rest, h1)) := by
    unfold zstep
    rw [hd]
    dsimp only
    rw [if_pos hl]
    have e : decide (0 < d + 1) = true := by simp
    rw [e]
    refine hx _ _ _ ?_
    unfold zcf
    dsimp only
    rw [if_pos hw]
    exact zrun_le (Nat.le_max_left _ _) a1
  rw [hs]
  exact zrun_le (Nat.le_max_right _ _) b1
theorem zEx.mono {Q' : Option zV → zH → Prop} {g : zC} (k : zEx scr d m g Q) (hq : ∀ v h', Q v h' → Q' v h') : zEx scr d m g Q' := by
  obtain ⟨n, v, h', a, b⟩ := k
  exact ⟨n, v, h', a, hq v h' b⟩
theorem ex_iconst {n : Int} {v : Int32} (hd : decode m.1 pc = .ok (.iconst n, 1)) (hv : Int32.ofInt n = v) (hp : pc + 1 = pc') (k : zEx scr d m (pc', ls, .inl v :: st, h) Q) : zEx scr d m (pc, ls, st, h) Q := by
  subst hp; subst hv; exact ex_go hd (Or.inr rfl) (fun _ => rfl) k
theorem ex_bipush {n : Int} {v : Int32} (hd : decode m.1 pc = .ok (.bipush n, 2)) (hv : (Int8.ofInt n).toInt32 = v) (hp : pc + 2 = pc') (k : zEx scr d m (pc', ls, .inl v :: st, h) Q) : zEx scr d m (pc, ls, st, h) Q := by
  subst hp; subst hv; exact ex_go hd (Or.inr rfl) (fun _ => rfl) k
theorem ex_sipush {n : Int} {v : Int32} (hd : decode m.1 pc = .ok (.sipush n, 3)) (hv : (Int16.ofInt n).toInt32 = v) (hp : pc + 3 = pc') (k : zEx scr d m (pc', ls, .inl v :: st, h) Q) : zEx scr d m (pc, ls, st, h) Q := by
  subst hp; subst hv; exact ex_go hd (Or.inr rfl) (fun _ => rfl) k
theorem ex_lconst {n : Fin 2} {v : Int64} (hd : decode m.1 pc = .ok (.lconst n, 1)) (hv : Int64.ofNat (n : Nat) = v) (hp : pc + 1 = pc') (k : zEx scr d m (pc', ls, .inr (.inl v) :: st, h) Q) : zEx scr d m (pc, ls, st, h) Q := by
  subst hp; subst hv; exact ex_go hd (Or.inr rfl) (fun _ => rfl) k
theorem ex_ldc {k : Nat} {v : zV} (hd : decode m.1 pc = .ok (.ldc k, 2)) (hv : zcst m.2.1 k = some v) (hc : zcat v = 1) (hp : pc + 2 = pc') (kk : zEx scr d m (pc', ls, v :: st, h) Q) : zEx scr d m (pc, ls, st, h) Q := by
  subst hp; exact ex_go hd (Or.inr rfl) (fun _ => by simp only [zexec, zldv, hv]; rw [if_pos hc]) kk
theorem ex_ldcw {k : Nat} {v : zV} (hd : decode m.1 pc = .ok (.ldc_w k, 3)) (hv : zcst m.2.1 k = some v) (hc : zcat v = 1) (hp : pc + 3 = pc') (kk : zEx scr d m (pc', ls, v :: st, h) Q) : zEx scr d m (pc, ls, st, h) Q := by
  subst hp; exact ex_go hd (Or.inr rfl) (fun _ => by simp only [zexec, zldv, hv]; rw [if_pos hc]) kk
theorem ex_ldc2 {k : Nat} {v : zV} (hd : decode m.1 pc = .ok (.ldc2_w k, 3)) (hv : zcst m.2.1 k = some v) (hc : zcat v = 2) (hp : pc + 3 = pc') (kk : zEx scr d m (pc', ls, v :: st, h) Q) : zEx scr d m (pc, ls, st, h) Q := by
  subst hp; exact ex_go hd (Or.inr rfl) (fun _ => by simp only [zexec, zldv, hv]; rw [if_pos hc]) kk
theorem ex_iload {j : Nat} {v : Int32} (hd : decode m.1 pc = .ok (.iload j, 2)) (hv : zget ls j = some (.inl v)) (hp : pc + 2 = pc') (k : zEx scr d m (pc', ls, .inl v :: st, h) Q) : zEx scr d m (pc, ls, st, h) Q := by
  subst hp; exact ex_go hd (Or.inr rfl) (fun _ => by simp only [zexec, zload, hv]; rfl) k
theorem ex_iload_n {j : Fin 4} {v : Int32} (hd : decode m.1 pc = .ok (.iload_n j, 1)) (hv : zget ls (j : Nat) = some (.inl v)) (hp : pc + 1 = pc') (k : zEx scr d m (pc', ls, .inl v :: st, h) Q) : zEx scr d m (pc, ls, st, h) Q := by
  subst hp; exact ex_go hd (Or.inr rfl) (fun _ => by simp only [zexec, zload, hv]; rfl) k
theorem ex_lload {j : Nat} {v : Int64} (hd : decode m.1 pc = .ok (.lload j, 2)) (hv : zget ls j = some (.inr (.inl v))) (hp : pc + 2 = pc') (k : zEx scr d m (pc', ls, .inr (.inl v) :: st, h) Q) : zEx scr d m (pc, ls, st, h) Q := by
  subst hp; exact ex_go hd (Or.inr rfl) (fun _ => by simp only [zexec, zload, hv]; rfl) k
theorem ex_lload_n {j : Fin 4} {v : Int64} (hd : decode m.1 pc = .ok (.lload_n j, 1)) (hv : zget ls (j : Nat) = some (.inr (.inl v))) (hp : pc + 1 = pc') (k : zEx scr d m (pc', ls, .inr (.inl v) :: st, h) Q) : zEx scr d m (pc, ls, st, h) Q := by
  subst hp; exact ex_go hd (Or.inr rfl) (fun _ => by simp only [zexec, zload, hv]; rfl) k
theorem ex_aload {j : Nat} {v : Nat} (hd : decode m.1 pc = .ok (.aload j, 2)) (hv : zget ls j = some (.inr (.inr (some v)))) (hp : pc + 2 = pc') (k : zEx scr d m (pc', ls, .inr (.inr (some v)) :: st, h) Q) : zEx scr d m (pc, ls, st, h) Q := by
  subst hp; exact ex_go hd (Or.inr rfl) (fun _ => by simp only [zexec, zload, hv]; rfl) k
theorem ex_aload_n {j : Fin 4} {v : Nat} (hd : decode m.1 pc = .ok (.aload_n j, 1)) (hv : zget ls (j : Nat) = some (.inr (.inr (some v)))) (hp : pc + 1 = pc') (k : zEx scr d m (pc', ls, .inr (.inr (some v)) :: st, h) Q) : zEx scr d m (pc, ls, st, h) Q := by
  subst hp; exact ex_go hd (Or.inr rfl) (fun _ => by simp only [zexec, zload, hv]; rfl) k
theorem ex_istore {j : Nat} {v : Int32} {ls' : zL} (hd : decode m.1 pc = .ok (.istore j, 2)) (hj : j < m.2.2.1) (hl : zset1 ls j (.inl v) = ls') (hp : pc + 2 = pc') (k : zEx scr d m (pc', ls', st, h) Q) : zEx scr d m (pc, ls, .inl v :: st, h) Q := by
  subst hp; subst hl; exact ex_go hd (Or.inr rfl) (fun _ => by simp only [zexec, zstore]; rw [if_pos ⟨trivial, hj⟩]) k
theorem ex_istore_n {j : Fin 4} {v : Int32} {ls' : zL} (hd : decode m.1 pc = .ok (.istore_n j, 1)) (hj : (j : Nat) < m.2.2.1) (hl : zset1 ls (j : Nat) (.inl v) = ls') (hp : pc + 1 = pc') (k : zEx scr d m (pc', ls', st, h) Q) : zEx scr d m (pc, ls, .inl v :: st, h) Q := by
  subst hp; subst hl; exact ex_go hd (Or.inr rfl) (fun _ => by simp only [zexec, zstore]; rw [if_pos ⟨trivial, hj⟩]) k
theorem ex_lstore {j : Nat} {v : Int64} {ls' : zL} (hd : decode m.1 pc = .ok (.lstore j, 2)) (hj : j + 1 < m.2.2.1) (hl : zset2 ls j (.inr (.inl v)) = ls') (hp : pc + 2 = pc') (k : zEx scr d m (pc', ls', st, h) Q) : zEx scr d m (pc, ls, .inr (.inl v) :: st, h) Q := by
  subst hp; subst hl; exact ex_go hd (Or.inr rfl) (fun _ => by simp only [zexec, zstore]; rw [if_pos ⟨trivial, hj⟩]) k
theorem ex_lstore_n {j : Fin 4} {v : Int64} {ls' : zL} (hd : decode m.1 pc = .ok (.lstore_n j, 1)) (hj : (j : Nat) + 1 < m.2.2.1) (hl : zset2 ls (j : Nat) (.inr (.inl v)) = ls') (hp : pc + 1 = pc') (k : zEx scr d m (pc', ls', st, h) Q) : zEx scr d m (pc, ls, .inr (.inl v) :: st, h) Q := by
  subst hp; subst hl; exact ex_go hd (Or.inr rfl) (fun _ => by simp only [zexec, zstore]; rw [if_pos ⟨trivial, hj⟩]) k
theorem ex_astore {j : Nat} {v : Nat} {ls' : zL} (hd : decode m.1 pc = .ok (.astore j, 2)) (hj : j < m.2.2.1) (hl : zset1 ls j (.inr (.inr (some v))) = ls') (hp : pc + 2 = pc') (k : zEx scr d m (pc', ls', st, h) Q) : zEx scr d m (pc, ls, .inr (.inr (some v)) :: st, h) Q := by
  subst hp; subst hl; exact ex_go hd (Or.inr rfl) (fun _ => by simp only [zexec, zstore]; rw [if_pos ⟨trivial, hj⟩]) k
theorem ex_astore_n {j : Fin 4} {v : Nat} {ls' : zL} (hd : decode m.1 pc = .ok (.astore_n j, 1)) (hj : (j : Nat) < m.2.2.1) (hl : zset1 ls (j : Nat) (.inr (.inr (some v))) = ls') (hp : pc + 1 = pc') (k : zEx scr d m (pc', ls', st, h) Q) : zEx scr d m (pc, ls, .inr (.inr (some v)) :: st, h) Q := by
  subst hp; subst hl; exact ex_go hd (Or.inr rfl) (fun _ => by simp only [zexec, zstore]; rw [if_pos ⟨trivial, hj⟩]) k
theorem ex_iinc {j : Nat} {n : Int} {x v : Int32} {ls' : zL} (hd : decode m.1 pc = .ok (.iinc j n, 3)) (hg : zget ls j = some (.inl x)) (hj : j < m.2.2.1) (hv : x + Int32.ofInt n = v) (hl : zset1 ls j (.inl v) = ls') (hp : pc + 3 = pc') (k : zEx scr d m (pc', ls', st, h) Q) : zEx scr d m (pc, ls, st, h) Q := by
  subst hp; subst hl; subst hv; exact ex_go hd (Or.inr rfl) (fun _ => by simp only [zexec, hg]; rw [if_pos hj]) k
theorem ex_bin {x y v : Int32} (hd : decode m.1 pc = .ok (i, 1)) (hi : zilen i = 1) (hx : ∀ (call : zM → List zV → zH → Option zR) (deep : Bool) st, zexec scr call deep m i 1 pc ls st h = zarith i 1 pc ls st h) (hz : zbin i x y = some v) (hp : pc + 1 = pc') (k : zEx scr d m (pc', ls, .inl v :: st, h) Q) : zEx scr d m (pc, ls, .inl y :: .inl x :: st, h) Q := by
  subst hp; exact ex_go hd (Or.inr hi.symm) (fun _ => by rw [hx]; simp only [zarith, hz]) k
theorem ex_iadd {x y v : Int32} (hd : decode m.1 pc = .ok (.iadd, 1)) (hv : x + y = v) (hp : pc + 1 = pc') (k : zEx scr d m (pc', ls, .inl v :: st, h) Q) : zEx scr d m (pc, ls, .inl y :: .inl x :: st, h) Q := by
  subst hv; exact ex_bin hd rfl (fun _ _ _ => rfl) rfl hp k
theorem ex_isub {x y v : Int32} (hd : decode m.1 pc = .ok (.isub, 1)) (hv : x - y = v) (hp : pc + 1 = pc') (k : zEx scr d m (pc', ls, .inl v :: st, h) Q) : zEx scr d m (pc, ls, .inl y :: .inl x :: st, h) Q := by
  subst hv; exact ex_bin hd rfl (fun _ _ _ => rfl) rfl hp k
theorem ex_imul {x y v : Int32} (hd : decode m.1 pc = .ok (.imul, 1)) (hv : x * y = v) (hp : pc + 1 = pc') (k : zEx scr d m (pc', ls, .inl v :: st, h) Q) : zEx scr d m (pc, ls, .inl y :: .inl x :: st, h) Q := by
  subst hv; exact ex_bin hd rfl (fun _ _ _ => rfl) rfl hp k
theorem ex_iand {x y v : Int32} (hd : decode m.1 pc = .ok (.iand, 1)) (hv : x &&& y = v) (hp : pc + 1 = pc') (k : zEx scr d m (pc', ls, .inl v :: st, h) Q) : zEx scr d m (pc, ls, .inl y :: .inl x :: st, h) Q := by
  subst hv; exact ex_bin hd rfl (fun _ _ _ => rfl) rfl hp k
theorem ex_ior {x y v : Int32} (hd : decode m.1 pc = .ok (.ior, 1)) (hv : x ||| y = v) (hp : pc + 1 = pc') (k : zEx scr d m (pc', ls, .inl v :: st, h) Q) : zEx scr d m (pc, ls, .inl y :: .inl x :: st, h) Q := by
  subst hv; exact ex_bin hd rfl (fun _ _ _ => rfl) rfl hp k
theorem ex_ixor {x y v : Int32} (hd : decode m.1 pc = .ok (.ixor, 1)) (hv : x ^^^ y = v) (hp : pc + 1 = pc') (k : zEx scr d m (pc', ls, .inl v :: st, h) Q) : zEx scr d m (pc, ls, .inl y :: .inl x :: st, h) Q := by
  subst hv; exact ex_bin hd rfl (fun _ _ _ => rfl) rfl hp k
theorem ex_ishl {x y v : Int32} (hd : decode m.1 pc = .ok (.ishl, 1)) (hv : x <<< (y &&& 31) = v) (hp : pc + 1 = pc') (k : zEx scr d m (pc', ls, .inl v :: st, h) Q) : zEx scr d m (pc, ls, .inl y :: .inl x :: st, h) Q := by
  subst hv; exact ex_bin hd rfl (fun _ _ _ => rfl) rfl hp k
theorem ex_ishr {x y v : Int32} (hd : decode m.1 pc = .ok (.ishr, 1)) (hv : x >>> (y &&& 31) = v) (hp : pc + 1 = pc') (k : zEx scr d m (pc', ls, .inl v :: st, h) Q) : zEx scr d m (pc, ls, .inl y :: .inl x :: st, h) Q := by
  subst hv; exact ex_bin hd rfl (fun _ _ _ => rfl) rfl hp k
theorem ex_iushr {x y v : Int32} (hd : decode m.1 pc = .ok (.iushr, 1)) (hv : (x.toUInt32 >>> (y.toUInt32 &&& Int32.toUInt32 31)).toInt32 = v) (hp : pc + 1 = pc') (k : zEx scr d m (pc', ls, .inl v :: st, h) Q) : zEx scr d m (pc, ls, .inl y :: .inl x :: st, h) Q := by
  subst hv; exact ex_bin hd rfl (fun _ _ _ => rfl) rfl hp k
theorem ex_idiv {x y v : Int32} (hd : decode m.1 pc = .ok (.idiv, 1)) (hy : ¬ y = 0) (hv : x / y = v) (hp : pc + 1 = pc') (k : zEx scr d m (pc', ls, .inl v :: st, h) Q) : zEx scr d m (pc, ls, .inl y :: .inl x :: st, h) Q := by
  subst hv; exact ex_bin hd rfl (fun _ _ _ => rfl) (by simp only [zbin]; rw [if_neg hy]) hp k
theorem ex_irem {x y v : Int32} (hd : decode m.1 pc = .ok (.irem, 1)) (hy : ¬ y = 0) (hv : x - x / y * y = v) (hp : pc + 1 = pc') (k : zEx scr d m (pc', ls, .inl v :: st, h) Q) : zEx scr d m (pc, ls, .inl y :: .inl x :: st, h) Q := by
  subst hv; exact ex_bin hd rfl (fun _ _ _ => rfl) (by simp only [zbin]; rw [if_neg hy]) hp k
theorem ex_un {x : Int32} {v : zV} (hd : decode m.1 pc = .ok (i, 1)) (hi : zilen i = 1) (hx : ∀ (call : zM → List zV → zH → Option zR) (deep : Bool) st, zexec scr call deep m i 1 pc ls st h = zarith i 1 pc ls st h) (hb : ∀ a b, zbin i a b = none) (hz : zun i x = some v) (hp : pc + 1 = pc') (k : zEx scr d m (pc', ls, v :: st, h) Q) : zEx scr d m (pc, ls, .inl x :: st, h) Q := by
  subst hp
  refine ex_go hd (Or.inr hi.symm) (fun _ => ?_) k
  rw [hx]
  unfold zarith
  split
  · next y x' st' e =>
    cases e
    rw [hb, hz]
  · next x' st' h0 e =>
    cases e
    rw [hz]
  · next e => cases e
  · next h1 h2 h3 => exact absurd rfl (h2 x st)
theorem ex_i2l {x : Int32} {v : Int64} (hd : decode m.1 pc = .ok (.i2l, 1)) (hv : x.toInt64 = v) (hp : pc + 1 = pc') (k : zEx scr d m (pc', ls, .inr (.inl v) :: st, h) Q) : zEx scr d m (pc, ls, .inl x :: st, h) Q := by
  subst hv; exact ex_un hd rfl (fun _ _ _ => rfl) (fun _ _ => rfl) rfl hp k
theorem ex_i2b {x : Int32} {v : Int32} (hd : decode m.1 pc = .ok (.i2b, 1)) (hv : x.toInt8.toInt32 = v) (hp : pc + 1 = pc') (k : zEx scr d m (pc', ls, .inl v :: st, h) Q) : zEx scr d m (pc, ls, .inl x :: st, h) Q := by
  subst hv; exact ex_un hd rfl (fun _ _ _ => rfl) (fun _ _ => rfl) rfl hp k
theorem ex_i2c {x : Int32} {v : Int32} (hd : decode m.1 pc = .ok (.i2c, 1)) (hv : (x.toUInt32 % 65536).toInt32 = v) (hp : pc + 1 = pc') (k : zEx scr d m (pc', ls, .inl v :: st, h) Q) : zEx scr d m (pc, ls, .inl x :: st, h) Q := by
  subst hv; exact ex_un hd rfl (fun _ _ _ => rfl) (fun _ _ => rfl) rfl hp k
theorem ex_lcmp {x y : Int64} {v : Int32} (hd : decode m.1 pc = .ok (.lcmp, 1)) (hv : lg_cmp x y = v) (hp : pc + 1 = pc') (k : zEx scr d m (pc', ls, .inl v :: st, h) Q) : zEx scr d m (pc, ls, .inr (.inl y) :: .inr (.inl x) :: st, h) Q := by
  subst hv; subst hp; exact ex_go hd (Or.inr rfl) (fun _ => rfl) k
theorem ex_lor {x y v : Int64} (hd : decode m.1 pc = .ok (.lor, 1)) (hv : x ||| y = v) (hp : pc + 1 = pc') (k : zEx scr d m (pc', ls, .inr (.inl v) :: st, h) Q) : zEx scr d m (pc, ls, .inr (.inl y) :: .inr (.inl x) :: st, h) Q := by
  subst hv; subst hp; exact ex_go hd (Or.inr rfl) (fun _ => rfl) k
theorem ex_lrem {x y v : Int64} (hd : decode m.1 pc = .ok (.lrem, 1)) (hy : ¬ y = 0) (hv : x - x / y * y = v) (hp : pc + 1 = pc') (k : zEx scr d m (pc', ls, .inr (.inl v) :: st, h) Q) : zEx scr d m (pc, ls, .inr (.inl y) :: .inr (.inl x) :: st, h) Q := by
  subst hv; subst hp; exact ex_go hd (Or.inr rfl) (fun _ => by simp only [zexec, zarith, zlbin]; rw [if_neg hy]) k
theorem ex_ldiv {x y v : Int64} (hd : decode m.1 pc = .ok (.ldiv, 1)) (hy : ¬ y = 0) (hv : x / y = v) (hp : pc + 1 = pc') (k : zEx scr d m (pc', ls, .inr (.inl v) :: st, h) Q) : zEx scr d m (pc, ls, .inr (.inl y) :: .inr (.inl x) :: st, h) Q := by
  subst hv; subst hp; exact ex_go hd (Or.inr rfl) (fun _ => by simp only [zexec, zarith, zlbin]; rw [if_neg hy]) k
theorem ex_lshl {x v : Int64} {y : Int32} (hd : decode m.1 pc = .ok (.lshl, 1)) (hv : x <<< (y.toInt64 &&& 63) = v) (hp : pc + 1 = pc') (k : zEx scr d m (pc', ls, .inr (.inl v) :: st, h) Q) : zEx scr d m (pc, ls, .inl y :: .inr (.inl x) :: st, h) Q := by
  subst hv; subst hp; exact ex_go hd (Or.inr rfl) (fun _ => rfl) k
theorem ex_goto {off : Int} (hd : decode m.1 pc = .ok (.goto off, 3)) (hp : (pc : Int) + off = (pc' : Int)) (k : zEx scr d m (pc', ls, st, h) Q) : zEx scr d m (pc, ls, st, h) Q :=
  ex_go hd (Or.inr rfl) (fun _ => by simp only [zexec, zjump, hp]; rfl) k
theorem ex_br {b : Bool} {off : Int} {g' : zC} (hp : (pc : Int) + off = (pc' : Int)) (hb : (b = true ∧ g' = (pc', ls, st, h)) ∨ (b = false ∧ g' = (pc + 3, ls, st, h))) : zbr b pc 3 off ls st h = some (.inl g') := by
  unfold zbr
  rw [hp, if_pos (Int.natCast_nonneg _)]
  rcases hb with ⟨rfl, rfl⟩ | ⟨rfl, rfl⟩
  · simp
  · simp
/-- branches: both roads, the taken one, the other one -/
theorem ex_if {cd : ClassFile.Cond} {off : Int} {x : Int32} {pc2 : Nat} (hd : decode m.1 pc = .ok (.ifCond cd off, 3)) (hp : (pc : Int) + off = (pc' : Int)) (hp2 : pc + 3 = pc2) (kt : zcond cd x 0 = true → zEx scr d m (pc', ls, st, h) Q) (kf : zcond cd x 0 = false → zEx scr d m (pc2, ls, st, h) Q) : zEx scr d m (pc, ls, .inl x :: st, h) Q := by
  subst hp2
  cases hc : zcond cd x 0 with
  | true => exact ex_go hd (Or.inr rfl) (fun _ => by simp only [zexec]; exact ex_br hp (Or.inl ⟨hc, rfl⟩)) (kt hc)
  | false => exact ex_go hd (Or.inr rfl) (fun _ => by simp only [zexec]; exact ex_br hp (Or.inr ⟨hc, rfl⟩)) (kf hc)
theorem ex_icmp {cd : ClassFile.Cond} {off : Int} {x y : Int32} {pc2 : Nat} (hd : decode m.1 pc = .ok (.if_icmp cd off, 3)) (hp : (pc : Int) + off = (pc' : Int)) (hp2 : pc + 3 = pc2) (kt : zcond cd x y = true → zEx scr d m (pc', ls, st, h) Q) (kf : zcond cd x y = false → zEx scr d m (pc2, ls, st, h) Q) : zEx scr d m (pc, ls, .inl y :: .inl x :: st, h) Q := by
  subst hp2
  cases hc : zcond cd x y with
  | true => exact ex_go hd (Or.inr rfl) (fun _ => by simp only [zexec]; exact ex_br hp (Or.inl ⟨hc, rfl⟩)) (kt hc)
  | false => exact ex_go hd (Or.inr rfl) (fun _ => by simp only [zexec]; exact ex_br hp (Or.inr ⟨hc, rfl⟩)) (kf hc)
theorem ex_if_t {cd : ClassFile.Cond} {off : Int} {x : Int32} (hd : decode m.1 pc = .ok (.ifCond cd off, 3)) (hc : zcond cd x 0 = true) (hp : (pc : Int) + off = (pc' : Int)) (k : zEx scr d m (pc', ls, st, h) Q) : zEx scr d m (pc, ls, .inl x :: st, h) Q :=
  ex_if hd hp rfl (fun _ => k) (fun q => absurd (hc.symm.trans q) (by decide))
theorem ex_if_f {cd : ClassFile.Cond} {off : Int} {x : Int32} (hd : decode m.1 pc = .ok (.ifCond cd off, 3)) (hc : zcond cd x 0 = false) (ho : 0 ≤ (pc : Int) + off) (hp : pc + 3 = pc') (k : zEx scr d m (pc', ls, st, h) Q) : zEx scr d m (pc, ls, .inl x :: st, h) Q :=
  ex_if (pc' := ((pc : Int) + off).toNat) hd (Int.toNat_of_nonneg ho).symm hp (fun q => absurd (hc.symm.trans q) (by decide)) (fun _ => k)
theorem ex_icmp_t {cd : ClassFile.Cond} {off : Int} {x y : Int32} (hd : decode m.1 pc = .ok (.if_icmp cd off, 3)) (hc : zcond cd x y = true) (hp : (pc : Int) + off = (pc' : Int)) (k : zEx scr d m (pc', ls, st, h) Q) : zEx scr d m (pc, ls, .inl y :: .inl x :: st, h) Q :=
  ex_icmp hd hp rfl (fun _ => k) (fun q => absurd (hc.symm.trans q) (by decide))
theorem ex_icmp_f {cd : ClassFile.Cond} {off : Int} {x y : Int32} (hd : decode m.1 pc = .ok (.if_icmp cd off, 3)) (hc : zcond cd x y = false) (ho : 0 ≤ (pc : Int) + off) (hp : pc + 3 = pc') (k : zEx scr d m (pc', ls, st, h) Q) : zEx scr d m (pc, ls, .inl y :: .inl x :: st, h) Q :=
  ex_icmp (pc' := ((pc : Int) + off).toNat) hd (Int.toNat_of_nonneg ho).symm hp (fun q => absurd (hc.symm.trans q) (by decide)) (fun _ => k)
theorem ex_switch {df lo hi : Int} {offs : Array Int} {x : Int32} (hd : decode m.1 pc = .ok (.tableswitch df lo hi offs, len)) (hc : (x.toInt < lo ∨ hi < x.toInt) → (pc : Int) + df = (pc' : Int)) (hc2 : ¬ (x.toInt < lo ∨ hi < x.toInt) → ∃ off, offs[(x.toInt - lo).toNat]? = some off ∧ (pc : Int) + off = (pc' : Int)) (k : zEx scr d m (pc', ls, st, h) Q) : zEx scr d m (pc, ls, .inl x :: st, h) Q := by
  refine ex_go hd (Or.inl rfl) (fun _ => ?_) k
  simp only [zexec]
  by_cases hb : x.toInt < lo ∨ hi < x.toInt
  · rw [if_pos hb]
    simp only [zjump, hc hb]
    rfl
  · rw [if_neg hb]
    obtain ⟨off, h1, h2⟩ := hc2 hb
    rw [h1]
    simp only [zjump, h2]
    rfl
theorem ex_getI {k a ci f n : Nat} {v : Int32} (hd : decode m.1 pc = .ok (.getfield k, 3)) (hz : zfld m.2.1 k = some (ci, f)) (hs : zsh h a = some (ci, n)) (hc : (zft ci).getD f 0 ≠ 3) (hv : h.2.1 a f = v) (hp : pc + 3 = pc') (kk : zEx scr d m (pc', ls, .inl v :: st, h) Q) : zEx scr d m (pc, ls, .inr (.inr (some a)) :: st, h) Q := by
  subst hp; exact ex_go hd (Or.inr rfl) (fun _ => by simp only [zexec, hz, hs, zfv, if_neg hc, hv]; rfl) kk
theorem ex_getR {k a ci f n r : Nat} (hd : decode m.1 pc = .ok (.getfield k, 3)) (hz : zfld m.2.1 k = some (ci, f)) (hs : zsh h a = some (ci, n)) (hc : (zft ci).getD f 0 = 3) (hv : h.2.2.2.1 a f = some r) (hp : pc + 3 = pc') (kk : zEx scr d m (pc', ls, .inr (.inr (some r)) :: st, h) Q) : zEx scr d m (pc, ls, .inr (.inr (some a)) :: st, h) Q := by
  subst hp; exact ex_go hd (Or.inr rfl) (fun _ => by simp only [zexec, hz, hs, zfv, if_pos hc, hv]; rfl) kk
theorem ex_putI {k a ci f n : Nat} {v : Int32} (hd : decode m.1 pc = .ok (.putfield k, 3)) (hz : zfld m.2.1 k = some (ci, f)) (hs : zsh h a = some (ci, n)) (hfi : zfin ci f = false ∨ (m.2.2.2.2.2 = true ∧ m.2.1 = ci)) (hc : (zft ci).getD f 9 = 0 ∨ ((zft ci).getD f 9 = 1 ∧ (v = 0 ∨ v = 1))) (hp : pc + 3 = pc') (kk : zEx scr d m (pc', ls, st, zsI h a f v) Q) : zEx scr d m (pc, ls, .inl v :: .inr (.inr (some a)) :: st, h) Q := by
  subst hp; exact ex_go hd (Or.inr rfl) (fun _ => by simp only [zexec, hz, hs]; rw [if_pos ⟨trivial, hfi⟩]; simp only [zput]; rw [if_pos hc]) kk
theorem ex_putR {k a ci f n : Nat} {v : Option Nat} (hd : decode m.1 pc = .ok (.putfield k, 3)) (hz : zfld m.2.1 k = some (ci, f)) (hs : zsh h a = some (ci, n)) (hfi : zfin ci f = false ∨ (m.2.2.2.2.2 = true ∧ m.2.1 = ci)) (hc : (zft ci).getD f 9 = 3) (hp : pc + 3 = pc') (kk : zEx scr d m (pc', ls, st, zsR h a f v) Q) : zEx scr d m (pc, ls, .inr (.inr v) :: .inr (.inr (some a)) :: st, h) Q := by
  subst hp; exact ex_go hd (Or.inr rfl) (fun _ => by simp only [zexec, hz, hs]; rw [if_pos ⟨trivial, hfi⟩]; simp only [zput]; rw [if_pos hc]) kk
theorem ex_iald {a n : Nat} {j v : Int32} (hd : decode m.1 pc = .ok (.iaload, 1)) (hs : zsh h a = some (14, n)) (hj : zin j n = true) (hv : h.2.1 a j.toNatClampNeg = v) (hp : pc + 1 = pc') (kk : zEx scr d m (pc', ls, .inl v :: st, h) Q) : zEx scr d m (pc, ls, .inl j :: .inr (.inr (some a)) :: st, h) Q := by
  subst hp; subst hv; exact ex_go hd (Or.inr rfl) (fun _ => by simp only [zexec, zld, hs, hj]; rfl) kk
theorem ex_sald {n : Nat} {xs : Nat → Int32} {j v : Int32} (hd : decode m.1 pc = .ok (.iaload, 1)) (hs : zsh h 1000000 = none) (hsc : scr = some (n, xs)) (hj : zin j n = true) (hv : xs j.toNatClampNeg = v) (hp : pc + 1 = pc') (kk : zEx scr d m (pc', ls, .inl v :: st, h) Q) : zEx scr d m (pc, ls, .inl j :: .inr (.inr (some 1000000)) :: st, h) Q := by
  subst hp; subst hv; subst hsc; exact ex_go hd (Or.inr rfl) (fun _ => by simp only [zexec, zld, hs, hj]; rfl) kk
theorem ex_bald {a n : Nat} {j v : Int32} (hd : decode m.1 pc = .ok (.baload, 1)) (hs : zsh h a = some (13, n)) (hj : zin j n = true) (hv : h.2.1 a j.toNatClampNeg = v) (hp : pc + 1 = pc') (kk : zEx scr d m (pc', ls, .inl v :: st, h) Q) : zEx scr d m (pc, ls, .inl j :: .inr (.inr (some a)) :: st, h) Q := by
  subst hp; subst hv; exact ex_go hd (Or.inr rfl) (fun _ => by simp only [zexec, zld, hs, hj]; rfl) kk
theorem ex_lald {a n : Nat} {j : Int32} {v : Int64} (hd : decode m.1 pc = .ok (.laload, 1)) (hs : zsh h a = some (15, n)) (hj : zin j n = true) (hv : h.2.2.1 a j.toNatClampNeg = v) (hp : pc + 1 = pc') (kk : zEx scr d m (pc', ls, .inr (.inl v) :: st, h) Q) : zEx scr d m (pc, ls, .inl j :: .inr (.inr (some a)) :: st, h) Q := by
  subst hp; subst hv; exact ex_go hd (Or.inr rfl) (fun _ => by simp only [zexec, hs]; rw [if_pos ⟨trivial, hj⟩]) kk
theorem ex_aald {a kd n r : Nat} {j : Int32} (hd : decode m.1 pc = .ok (.aaload, 1)) (hs : zsh h a = some (kd, n)) (hk : 16 ≤ kd ∧ kd ≤ 20) (hj : zin j n = true) (hv : h.2.2.2.1 a j.toNatClampNeg = some r) (hp : pc + 1 = pc') (kk : zEx scr d m (pc', ls, .inr (.inr (some r)) :: st, h) Q) : zEx scr d m (pc, ls, .inl j :: .inr (.inr (some a)) :: st, h) Q := by
  subst hp; exact ex_go hd (Or.inr rfl) (fun _ => by simp only [zexec, hs]; rw [if_pos ⟨hk.1, hk.2, hj⟩, hv]) kk
theorem ex_iast {a n : Nat} {j v : Int32} (hd : decode m.1 pc = .ok (.iastore, 1)) (hs : zsh h a = some (14, n)) (hj : zin j n = true) (hp : pc + 1 = pc') (kk : zEx scr d m (pc', ls, st, zsI h a j.toNatClampNeg v) Q) : zEx scr d m (pc, ls, .inl v :: .inl j :: .inr (.inr (some a)) :: st, h) Q := by
  subst hp; exact ex_go hd (Or.inr rfl) (fun _ => by simp only [zexec, zst, hs, hj]; rfl) kk
theorem ex_bast {a n : Nat} {j v : Int32} (hd : decode m.1 pc = .ok (.bastore, 1)) (hs : zsh h a = some (13, n)) (hj : zin j n = true) (hp : pc + 1 = pc') (kk : zEx scr d m (pc', ls, st, zsI h a j.toNatClampNeg (vp_nar .byte v)) Q) : zEx scr d m (pc, ls, .inl v :: .inl j :: .inr (.inr (some a)) :: st, h) Q := by
  subst hp; exact ex_go hd (Or.inr rfl) (fun _ => by simp only [zexec, zst, hs, hj]; rfl) kk
theorem ex_last {a n : Nat} {j : Int32} {v : Int64} (hd : decode m.1 pc = .ok (.lastore, 1)) (hs : zsh h a = some (15, n)) (hj : zin j n = true) (hp : pc + 1 = pc') (kk : zEx scr d m (pc', ls, st, zsL h a j.toNatClampNeg v) Q) : zEx scr d m (pc, ls, .inr (.inl v) :: .inl j :: .inr (.inr (some a)) :: st, h) Q := by
  subst hp; exact ex_go hd (Or.inr rfl) (fun _ => by simp only [zexec, hs]; rw [if_pos ⟨trivial, hj⟩]) kk
theorem ex_aast {a kd n v nv : Nat} {j : Int32} (hd : decode m.1 pc = .ok (.aastore, 1)) (hs : zsh h a = some (kd, n)) (hv : zsh h v = some (zrc kd, nv)) (hk : 16 ≤ kd ∧ kd ≤ 20) (hj : zin j n = true) (hp : pc + 1 = pc') (kk : zEx scr d m (pc', ls, st, zsR h a j.toNatClampNeg (some v)) Q) : zEx scr d m (pc, ls, .inr (.inr (some v)) :: .inl j :: .inr (.inr (some a)) :: st, h) Q := by
  subst hp; exact ex_go hd (Or.inr rfl) (fun _ => by simp only [zexec, hs, hv]; rw [if_pos ⟨hk.1, hk.2, hj, trivial⟩]) kk
theorem ex_alen {a kd n : Nat} {v : Int32} (hd : decode m.1 pc = .ok (.arraylength, 1)) (hs : zsh h a = some (kd, n)) (hk : 13 ≤ kd) (hv : Int32.ofNat n = v) (hp : pc + 1 = pc') (kk : zEx scr d m (pc', ls, .inl v :: st, h) Q) : zEx scr d m (pc, ls, .inr (.inr (some a)) :: st, h) Q := by
  subst hp; subst hv; exact ex_go hd (Or.inr rfl) (fun _ => by simp only [zexec, zlen, hs]; rw [if_pos hk]) kk
theorem ex_slen {n : Nat} {xs : Nat → Int32} {v : Int32} (hd : decode m.1 pc = .ok (.arraylength, 1)) (hs : zsh h 1000000 = none) (hsc : scr = some (n, xs)) (hv : Int32.ofNat n = v) (hp : pc + 1 = pc') (kk : zEx scr d m (pc', ls, .inl v :: st, h) Q) : zEx scr d m (pc, ls, .inr (.inr (some 1000000)) :: st, h) Q := by
  subst hp; subst hv; subst hsc; exact ex_go hd (Or.inr rfl) (fun _ => by simp only [zexec, zlen, hs]; rfl) kk
theorem ex_new {k ci : Nat} (hd : decode m.1 pc = .ok (.new k, 3)) (hz : zcls m.2.1 k = some ci) (hc : ci < 13) (h0 : h.2.2.2.2 = 0 ∧ h.1.1 < 900000) (hp : pc + 3 = pc') (kk : zEx scr d m (pc', ls, .inr (.inr (some h.1.1)) :: st, znew h ci (zft ci).length) Q) : zEx scr d m (pc, ls, st, h) Q := by
  subst hp; exact ex_go hd (Or.inr rfl) (fun _ => by simp only [zexec, hz]; rw [if_pos hc, if_pos h0]) kk
theorem ex_dup {v : zV} (hd : decode m.1 pc = .ok (.dup, 1)) (hc : zcat v = 1) (hp : pc + 1 = pc') (kk : zEx scr d m (pc', ls, v :: v :: st, h) Q) : zEx scr d m (pc, ls, v :: st, h) Q := by
  subst hp; exact ex_go hd (Or.inr rfl) (fun _ => by simp only [zexec]; rw [if_pos hc]) kk
theorem ex_dup2 {v w : zV} (hd : decode m.1 pc = .ok (.dup2, 1)) (hc : zcat v = 1 ∧ zcat w = 1) (hp : pc + 1 = pc') (kk : zEx scr d m (pc', ls, v :: w :: v :: w :: st, h) Q) : zEx scr d m (pc, ls, v :: w :: st, h) Q := by
  subst hp; exact ex_go hd (Or.inr rfl) (fun _ => by simp only [zexec]; rw [if_pos hc]) kk
theorem ex_pop {v : zV} (hd : decode m.1 pc = .ok (.pop, 1)) (hc : zcat v = 1) (hp : pc + 1 = pc') (kk : zEx scr d m (pc', ls, st, h) Q) : zEx scr d m (pc, ls, v :: st, h) Q := by
  subst hp; exact ex_go hd (Or.inr rfl) (fun _ => by simp only [zexec]; rw [if_pos hc]) kk
theorem ex_pop2 {v : zV} (hd : decode m.1 pc = .ok (.pop2, 1)) (hc : zcat v = 2) (hp : pc + 1 = pc') (kk : zEx scr d m (pc', ls, st, h) Q) : zEx scr d m (pc, ls, v :: st, h) Q := by
  subst hp; exact ex_go hd (Or.inr rfl) (fun _ => by simp only [zexec]; rw [if_pos hc]) kk
theorem ex_topi {x : Int32} (k : ∀ y : Int32, y = x → zEx scr d m (pc, ls, .inl y :: st, h) Q) : zEx scr d m (pc, ls, .inl x :: st, h) Q := k x rfl
theorem ex_hp (k : ∀ z : zH, z = h → zEx scr d m (pc, ls, st, z) Q) : zEx scr d m (pc, ls, st, h) Q := k h rfl
theorem ex_iret {x : Int32} {ty : FieldType} (hd : decode m.1 pc = .ok (.ireturn, 1)) (ht : m.2.2.2.1 = some ty) (hn : narrow ty (.int x) = .int x) (hq : Q (some (.inl x)) h) : zEx scr d m (pc, ls, [.inl x], h) Q :=
  ex_end hd (Or.inr rfl) (fun _ => by simp only [zexec, ht]; rw [if_pos hn]) hq
theorem ex_lret {x : Int64} (hd : decode m.1 pc = .ok (.lreturn, 1)) (ht : m.2.2.2.1 = some .long) (hq : Q (some (.inr (.inl x))) h) : zEx scr d m (pc, ls, [.inr (.inl x)], h) Q :=
  ex_end hd (Or.inr rfl) (fun _ => by simp only [zexec]; rw [if_pos ht]) hq
theorem ex_vret (hd : decode m.1 pc = .ok (.return_, 1)) (ht : m.2.2.2.1 = none) (hq : Q none h) : zEx scr d m (pc, ls, [], h) Q :=
  ex_end hd (Or.inr rfl) (fun _ => by simp only [zexec]; rw [if_pos ht]) hq
/-- calls: the arguments lie on the stack, the last on top -/
theorem ex_callv {k na a n : Nat} {cm : zM} {vs rest : List zV} {Qc : Option zV → zH → Prop} (hd : decode m.1 pc = .ok (.invokevirtual k, 3)) (hz : zmth m.2.1 k = some (0, na, cm)) (hst : na ≤ st.length ∧ zwd (st.drop na) ≤ 8) (hv : (st.take na).reverse = .inr (.inr (some a)) :: vs) (hr : st.drop na = rest) (hs : zsh h a = some (cm.2.1, n)) (hci : cm.2.1 < 13) (hw : zwd (.inr (.inr (some a)) :: vs) ≤ cm.2.2.1) (hp : pc + 3 = pc')
    (hc : zCt d cm (.inr (.inr (some a)) :: vs) h Qc) (kk : ∀ r h', Qc r h' → zEx scr (d + 1) m (pc', ls, r.toList ++ rest, h') Q) : zEx scr (d + 1) m (pc, ls, st, h) Q := by
  subst hp; subst hr
  refine ex_call hd (Or.inr rfl) (fun call r h' hq => ?_) hw hc kk
  simp only [zexec, hz]
  rw [if_pos trivial]
  unfold zcall
  rw [if_pos hst, if_neg (by decide), hv]
  simp only [hs]
  rw [if_pos ⟨trivial, hci⟩, hq]
theorem ex_calls {k kd na : Nat} {cm : zM} {vs rest : List zV} {Qc : Option zV → zH → Prop} (hd : decode m.1 pc = .ok (.invokestatic k, 3)) (hz : zmth m.2.1 k = some (kd, na, cm)) (hkd : kd = 1 ∨ kd = 3) (hst : na ≤ st.length ∧ zwd (st.drop na) ≤ 8) (hv : (st.take na).reverse = vs) (hr : st.drop na = rest) (hw : zwd vs ≤ cm.2.2.1) (hp : pc + 3 = pc')
    (hc : zCt d cm vs h Qc) (kk : ∀ r h', Qc r h' → zEx scr (d + 1) m (pc', ls, r.toList ++ rest, h') Q) : zEx scr (d + 1) m (pc, ls, st, h) Q := by
  subst hp; subst hr; subst hv
  refine ex_call hd (Or.inr rfl) (fun call r h' hq => ?_) hw hc kk
  simp only [zexec, hz]
  rw [if_pos hkd]
  unfold zcall
  rw [if_pos hst, if_pos hkd, hq]
theorem ex_calli {k kd na a n : Nat} {cm : zM} {vs rest : List zV} {Qc : Option zV → zH → Prop} (hd : decode m.1 pc = .ok (.invokespecial k, 3)) (hz : zmth m.2.1 k = some (kd, na, cm)) (hkd : kd = 2 ∨ kd = 4) (hst : na ≤ st.length ∧ zwd (st.drop na) ≤ 8) (hv : (st.take na).reverse = .inr (.inr (some a)) :: vs) (hr : st.drop na = rest) (hs : zsh h a = some (cm.2.1, n)) (hci : cm.2.1 < 13) (hw : zwd (.inr (.inr (some a)) :: vs) ≤ cm.2.2.1) (hp : pc + 3 = pc')
    (hc : zCt d cm (.inr (.inr (some a)) :: vs) h Qc) (kk : ∀ r h', Qc r h' → zEx scr (d + 1) m (pc', ls, r.toList ++ rest, h') Q) : zEx scr (d + 1) m (pc, ls, st, h) Q := by
  subst hp; subst hr
  refine ex_call hd (Or.inr rfl) (fun call r h' hq => ?_) hw hc kk
  simp only [zexec, hz]
  rw [if_pos hkd]
  unfold zcall
  rw [if_pos hst, if_neg (by rcases hkd with rfl | rfl <;> decide), hv]
  simp only [hs]
  rw [if_pos ⟨trivial, hci⟩, hq]
theorem ex_obj {k na a : Nat} {cm : zM} (hd : decode m.1 pc = .ok (.invokespecial k, 3)) (hz : zmth m.2.1 k = some (10, na, cm)) (hw : zwd st ≤ 8) (hp : pc + 3 = pc') (kk : zEx scr (d + 1) m (pc', ls, st, h) Q) : zEx scr (d + 1) m (pc, ls, .inr (.inr (some a)) :: st, h) Q := by
  subst hp
  refine ex_go hd (Or.inr rfl) (fun _ => ?_) kk
  simp only [zexec, hz]
  rw [if_neg (by decide), if_pos trivial]
  have e : decide (0 < d + 1) = true := by simp
  rw [e]
  unfold zprim
  rw [if_pos rfl, if_pos rfl]
  simp only
  rw [if_pos hw]
theorem ex_min {k na : Nat} {cm : zM} {x y v : Int32} (hd : decode m.1 pc = .ok (.invokestatic k, 3)) (hz : zmth m.2.1 k = some (12, na, cm)) (hw : zwd st ≤ 8) (hv : (if y < x then y else x) = v) (hp : pc + 3 = pc') (kk : zEx scr (d + 1) m (pc', ls, .inl v :: st, h) Q) : zEx scr (d + 1) m (pc, ls, .inl y :: .inl x :: st, h) Q := by
  subst hp; subst hv
  refine ex_go hd (Or.inr rfl) (fun _ => ?_) kk
  simp only [zexec, hz]
  rw [if_neg (by decide), if_neg (by decide), if_neg (by decide)]
  have e : decide (0 < d + 1) = true := by simp
  rw [e]
  unfold zprim
  rw [if_pos rfl, if_neg (by decide), if_neg (by decide), if_pos rfl]
  simp only
  rw [if_pos hw]
end ZX
end
