section Pk0
-- ===== PART A: goes FIRST, ahead of the names: the tables' words, and 'selects' of the private methods out of them =====
/-- a private method of a class that the tables say can be made, by its rows of tables_1 -/
def lw_okq (q : MethodName × Nat) : Prop := (q.1.cls ≠ "java/lang/invoke/MethodHandle" ∧ q.1.cls ≠ "java/lang/invoke/VarHandle") ∧ Cond.instantiable q.1.cls q.2 ∈ tables_1 ∧ Cond.privateMethod q.1 ∈ tables_1 ∧ Cond.instanceMethod q.1 ∈ tables_1
def lw_gap : List (Nat × Cond) → Nat
  | [] => 0
  | x :: _ => x.1
noncomputable def lw_wk : List Cond → Nat → List (Nat × Cond) → Bool
  | _, _, [] => true
  | [], _, _ :: _ => false
  | c :: t, 0, x :: xs => decide (c = x.2) && lw_wk t (lw_gap xs) xs
  | _ :: t, n + 1, x :: xs => lw_wk t n (x :: xs)
theorem lw_wk_mem : ∀ (t : List Cond) (n : Nat) (xs : List (Nat × Cond)), lw_wk t n xs = true → ∀ x ∈ xs, x.2 ∈ t
  | _, _, [], _, x, hx => absurd hx List.not_mem_nil
  | [], n, y :: ys, h, x, hx => by
    cases n with
    | zero => exact absurd (show false = true from h) (by decide)
    | succ n => exact absurd (show false = true from h) (by decide)
  | c :: t, 0, y :: ys, h, x, hx => by
    have h : (decide (c = y.2) && lw_wk t (lw_gap ys) ys) = true := h
    rw [Bool.and_eq_true] at h
    rcases List.mem_cons.mp hx with e | hx
    · exact List.mem_cons.mpr (.inl (by rw [e]; exact (of_decide_eq_true h.1).symm))
    · exact List.mem_cons_of_mem _ (lw_wk_mem t (lw_gap ys) ys h.2 x hx)
  | c :: t, n + 1, y :: ys, h, x, hx => List.mem_cons_of_mem _ (lw_wk_mem t n (y :: ys) h x hx)
def lw_cl : List ((String × Nat) × Nat) := [(("WhalePost", 16), 27), (("WhalePost$Reader", 13), 222), (("WhalePost$Songs", 6), 87), (("WhalePost$Sea", 7), 29), (("WhalePost$Paths", 4), 29), (("WhalePost$Matching", 5), 20), (("java/lang/Throwable", 6), 802), (("WhalePostModel", 39), 28)]
def lw_ms_0 : List ((MethodName × Nat) × Nat × Nat) := [((⟨"WhalePost", "appendBytes", "(I)V"⟩, 16), 499, 0), ((⟨"WhalePost", "refused", "(I)I"⟩, 16), 6, 0), ((⟨"WhalePost$Reader", "readLine", "()Z"⟩, 13), 13, 1), ((⟨"WhalePost$Reader", "nextToken", "()V"⟩, 13), 2, 1), ((⟨"WhalePost$Reader", "passAll", "(CC)Z"⟩, 13), 2, 1), ((⟨"WhalePost$Reader", "sortOfLine", "()I"⟩, 13), 2, 1), ((⟨"WhalePost$Reader", "isToken", "(Ljava/lang/String;)Z"⟩, 13), 3, 1), ((⟨"WhalePost$Reader", "faulty", "(I)Z"⟩, 13), 55, 1), ((⟨"WhalePost$Reader", "readHead", "()Z"⟩, 13), 2, 1), ((⟨"WhalePost$Reader", "word", "(Ljava/lang/String;)Z"⟩, 13), 3, 1), ((⟨"WhalePost$Reader", "whole", "(II)Z"⟩, 13), 2, 1), ((⟨"WhalePost$Reader", "readIsland", "()Z"⟩, 13), 5, 1), ((⟨"WhalePost$Reader", "newName", "(II)Z"⟩, 13), 2, 1), ((⟨"WhalePost$Reader", "nameOfToken", "()I"⟩, 13), 2, 1), ((⟨"WhalePost$Reader", "letters", "()J"⟩, 13), 2, 1), ((⟨"WhalePost$Reader", "songOfToken", "()I"⟩, 13), 2, 1), ((⟨"WhalePost$Reader", "readWay", "(LWhalePost$Way;)Z"⟩, 13), 6, 1), ((⟨"WhalePost$Reader", "toldName", "(I)Z"⟩, 13), 2, 1), ((⟨"WhalePost$Reader", "readWhale", "(LWhalePost$Whale;)Z"⟩, 13), 8, 1), ((⟨"WhalePost$Reader", "kindOfToken", "()I"⟩, 13), 2, 1), ((⟨"WhalePost$Reader", "readBox", "(LWhalePost$Box;)Z"⟩, 13), 9, 1), ((⟨"WhalePost$Reader", "readSpout", "(LWhalePost$Spout;)Z"⟩, 13), 6, 1), ((⟨"WhalePost", "takeDraft", "()V"⟩, 16), 6, 0), ((⟨"WhalePost", "granted", "(I)I"⟩, 16), 6, 0), ((⟨"WhalePost", "isWhale", "(I)Z"⟩, 16), 14, 0), ((⟨"WhalePost", "isBox", "(I)Z"⟩, 16), 6, 0), ((⟨"WhalePost", "isIsland", "(I)Z"⟩, 16), 6, 0), ((⟨"WhalePost$Songs", "fallIn", "(I)I"⟩, 6), 10, 2), ((⟨"WhalePost$Songs", "raised", "(III)I"⟩, 6), 2, 2), ((⟨"WhalePost", "isNoteOfBox", "(II)Z"⟩, 16), 10, 0)]
def lw_ms_1 : List ((MethodName × Nat) × Nat × Nat) := [((⟨"WhalePost", "hearerIn", "(II)I"⟩, 16), 10, 0), ((⟨"WhalePost", "areTwoIslands", "(II)Z"⟩, 16), 19, 0), ((⟨"WhalePost", "hasPost", "()Z"⟩, 16), 11, 0), ((⟨"WhalePost", "isWay", "(I)Z"⟩, 16), 10, 0), ((⟨"WhalePost", "sentPart", "(II)I"⟩, 16), 14, 0), ((⟨"WhalePost", "refusalOfNewSong", "(II)I"⟩, 16), 31, 0), ((⟨"WhalePost$Songs", "keepSongsOf", "(II)I"⟩, 6), 6, 2), ((⟨"WhalePost$Songs", "isOfNotes", "(II)Z"⟩, 6), 3, 2), ((⟨"WhalePost$Songs", "isFarFromKept", "(III)Z"⟩, 6), 2, 2), ((⟨"WhalePost$Sea", "findFirstDays", "(III)V"⟩, 7), 30, 3), ((⟨"WhalePost$Sea", "goes", "(ILWhalePost$Way;II)Z"⟩, 7), 7, 3), ((⟨"WhalePost", "solveMatch", "()V"⟩, 16), 57, 0), ((⟨"WhalePost$Matching", "worth", "(III)I"⟩, 5), 7, 5), ((⟨"WhalePost$Matching", "choose", "(II)V"⟩, 5), 4, 5), ((⟨"WhalePost$Matching", "firstBest", "(III)I"⟩, 5), 2, 5), ((⟨"WhalePost$Sea", "isFitting", "(I)Z"⟩, 7), 27, 3), ((⟨"WhalePost$Sea", "whalesReaching", "(II)I"⟩, 7), 21, 3), ((⟨"WhalePost$Paths", "waysOutOf", "(I)I"⟩, 4), 14, 4), ((⟨"WhalePost$Paths", "findShortest", "(I)V"⟩, 4), 11, 4), ((⟨"WhalePost$Paths", "findRests", "()V"⟩, 4), 5, 4), ((⟨"WhalePost$Paths", "daysOver", "(III)I"⟩, 4), 2, 4), ((⟨"WhalePost$Paths", "nextOf", "(II)I"⟩, 4), 2, 4), ((⟨"WhalePost", "heardWithSlips", "(I)I"⟩, 16), 11, 0), ((⟨"WhalePost$Songs", "draw", "()I"⟩, 6), 6, 2), ((⟨"WhalePost", "keepForUndo", "()V"⟩, 16), 10, 0), ((⟨"WhalePost", "hasRefused", "(I)Z"⟩, 16), 14, 0), ((⟨"WhalePost", "hasGranted", "()Z"⟩, 16), 3, 0), ((⟨"java/lang/Throwable", "fillInStackTrace", "(I)Ljava/lang/Throwable;"⟩, 6), 72, 6), ((⟨"WhalePostModel", "good", "()V"⟩, 39), 161, 7), ((⟨"WhalePostModel", "no", "(I)I"⟩, 39), 5, 7)]
def lw_ms_2 : List ((MethodName × Nat) × Nat × Nat) := [((⟨"WhalePostModel", "next", "()V"⟩, 39), 2, 7), ((⟨"WhalePostModel", "look", "(I)I"⟩, 39), 2, 7), ((⟨"WhalePostModel", "readLine", "()V"⟩, 39), 8, 7), ((⟨"WhalePostModel", "isWord", "(Ljava/lang/String;)Z"⟩, 39), 3, 7), ((⟨"WhalePostModel", "postLine", "()V"⟩, 39), 4, 7), ((⟨"WhalePostModel", "wrong", "(II)V"⟩, 39), 2, 7), ((⟨"WhalePostModel", "after", "(Ljava/lang/String;II)I"⟩, 39), 3, 7), ((⟨"WhalePostModel", "must", "(Ljava/lang/String;)V"⟩, 39), 2, 7), ((⟨"WhalePostModel", "takesWord", "(Ljava/lang/String;)Z"⟩, 39), 2, 7), ((⟨"WhalePostModel", "number", "(II)I"⟩, 39), 2, 7), ((⟨"WhalePostModel", "begins", "(Ljava/lang/String;Z)Z"⟩, 39), 6, 7), ((⟨"WhalePostModel", "islandLine", "()V"⟩, 39), 2, 7), ((⟨"WhalePostModel", "newName", "(I)V"⟩, 39), 2, 7), ((⟨"WhalePostModel", "mustName", "()V"⟩, 39), 2, 7), ((⟨"WhalePostModel", "find", "()I"⟩, 39), 6, 7), ((⟨"WhalePostModel", "isSong", "(I)Z"⟩, 39), 2, 7), ((⟨"WhalePostModel", "wayLine", "()V"⟩, 39), 2, 7), ((⟨"WhalePostModel", "islandPassed", "()I"⟩, 39), 2, 7), ((⟨"WhalePostModel", "named", "(II)I"⟩, 39), 2, 7), ((⟨"WhalePostModel", "whaleLine", "()V"⟩, 39), 7, 7), ((⟨"WhalePostModel", "islandBehind", "(Ljava/lang/String;)I"⟩, 39), 7, 7), ((⟨"WhalePostModel", "boxLine", "()V"⟩, 39), 4, 7), ((⟨"WhalePostModel", "spoutLine", "()V"⟩, 39), 6, 7), ((⟨"WhalePostModel", "isWhale", "(I)Z"⟩, 39), 17, 7), ((⟨"WhalePostModel", "ofWhale", "(II)I"⟩, 39), 2, 7), ((⟨"WhalePostModel", "isBox", "(I)Z"⟩, 39), 6, 7), ((⟨"WhalePostModel", "ofBox", "(II)I"⟩, 39), 2, 7), ((⟨"WhalePostModel", "isIsland", "(I)Z"⟩, 39), 6, 7), ((⟨"WhalePostModel", "songLong", "(I)I"⟩, 39), 2, 7), ((⟨"WhalePostModel", "noteIn", "(III)I"⟩, 39), 6, 7)]
def lw_ms_3 : List ((MethodName × Nat) × Nat × Nat) := [((⟨"WhalePostModel", "boxLong", "(I)I"⟩, 39), 6, 7), ((⟨"WhalePostModel", "heardNow", "(I)I"⟩, 39), 6, 7), ((⟨"WhalePostModel", "hearsIn", "(IIII)I"⟩, 39), 2, 7), ((⟨"WhalePostModel", "unlike", "(IIIII)I"⟩, 39), 2, 7), ((⟨"WhalePostModel", "wayOf", "(II)I"⟩, 39), 6, 7), ((⟨"WhalePostModel", "isClosed", "(I)Z"⟩, 39), 2, 7), ((⟨"WhalePostModel", "nearOf", "(IZ)I"⟩, 39), 9, 7), ((⟨"WhalePostModel", "apartOf", "(II)I"⟩, 39), 14, 7), ((⟨"WhalePostModel", "songWhy", "(II)I"⟩, 39), 14, 7), ((⟨"WhalePostModel", "newSongs", "(IIZ)I"⟩, 39), 2, 7), ((⟨"WhalePostModel", "power", "(I)I"⟩, 39), 2, 7), ((⟨"WhalePostModel", "digitsApart", "(III)I"⟩, 39), 2, 7), ((⟨"WhalePostModel", "hearsItself", "(II)Z"⟩, 39), 14, 7), ((⟨"WhalePostModel", "setsOut", "(III)I"⟩, 39), 14, 7), ((⟨"WhalePostModel", "arrivalOf", "(IIII)I"⟩, 39), 6, 7), ((⟨"WhalePostModel", "layDays", "(III)V"⟩, 39), 2, 7), ((⟨"WhalePostModel", "goesBy", "(III)V"⟩, 39), 3, 7), ((⟨"WhalePostModel", "dayBy", "(III)I"⟩, 39), 2, 7), ((⟨"WhalePostModel", "bringsOf", "(II)I"⟩, 39), 6, 7), ((⟨"WhalePostModel", "lays", "(II)Z"⟩, 39), 2, 7), ((⟨"WhalePostModel", "surestBut", "(II)I"⟩, 39), 13, 7), ((⟨"WhalePostModel", "seekMatch", "()V"⟩, 39), 18, 7), ((⟨"WhalePostModel", "tryMatch", "(IIII)V"⟩, 39), 2, 7), ((⟨"WhalePostModel", "fitsAll", "(I)Z"⟩, 39), 18, 7), ((⟨"WhalePostModel", "reachOf", "(II)I"⟩, 39), 6, 7), ((⟨"WhalePostModel", "doLead", "(III)Z"⟩, 39), 13, 7), ((⟨"WhalePostModel", "seekRound", "(I)I"⟩, 39), 6, 7), ((⟨"WhalePostModel", "layFar", "()V"⟩, 39), 2, 7), ((⟨"WhalePostModel", "tryRound", "(III)V"⟩, 39), 2, 7), ((⟨"WhalePostModel", "note1", "()V"⟩, 39), 16, 7)]
def lw_ms_4 : List ((MethodName × Nat) × Nat × Nat) := [((⟨"WhalePostModel", "isNot", "(I)Z"⟩, 39), 6, 7)]
def lw_ms : List ((MethodName × Nat) × Nat × Nat) := lw_ms_0 ++ (lw_ms_1 ++ (lw_ms_2 ++ (lw_ms_3 ++ (lw_ms_4))))
def lw_cx : List (Nat × Cond) := lw_cl.map (fun c => (c.2, Cond.instantiable c.1.1 c.1.2))
def lw_mx : List (Nat × Cond) := lw_ms.flatMap (fun m => [(m.2.1, Cond.privateMethod m.1.1), (0, Cond.instanceMethod m.1.1)])
theorem lw_k1 : lw_wk tables_1 (lw_gap lw_cx) lw_cx = true := by decide +kernel
theorem lw_k2 : lw_cl.all (fun c => decide (c.1.1 ≠ "java/lang/invoke/MethodHandle") && decide (c.1.1 ≠ "java/lang/invoke/VarHandle")) = true := by decide +kernel
theorem lw_k3 : lw_wk tables_1 (lw_gap lw_mx) lw_mx = true := by decide +kernel
theorem lw_k4 : lw_ms.all (fun m => decide ((lw_cl.map (fun c => c.1))[m.2.2]? = some (m.1.1.cls, m.1.2))) = true := by decide +kernel
def lw_privs : List (MethodName × Nat) := lw_ms.map (fun m => m.1)
def lw_tbl : List Cond := k2_sels lw_privs ++ tables_1
theorem lw_privs_ok : ∀ q ∈ lw_privs, lw_okq q := by
  intro q hq
  obtain ⟨m, hm, rfl⟩ := List.mem_map.mp hq
  have h4 := of_decide_eq_true (List.all_eq_true.mp lw_k4 m hm)
  obtain ⟨c, hc, e⟩ := List.mem_map.mp (List.mem_of_getElem? h4)
  have h2 := List.all_eq_true.mp lw_k2 c hc
  rw [Bool.and_eq_true] at h2
  have e1 : c.1.1 = m.1.1.cls := congrArg Prod.fst e
  have e2 : c.1.2 = m.1.2 := congrArg Prod.snd e
  have h1 : Cond.instantiable c.1.1 c.1.2 ∈ tables_1 := lw_wk_mem _ _ _ lw_k1 (c.2, Cond.instantiable c.1.1 c.1.2) (List.mem_map.mpr ⟨c, hc, rfl⟩)
  have a1 := of_decide_eq_true h2.1
  have a2 := of_decide_eq_true h2.2
  rw [e1] at a1 a2
  rw [e1, e2] at h1
  have hp : Cond.privateMethod m.1.1 ∈ tables_1 := lw_wk_mem _ _ _ lw_k3 (m.2.1, Cond.privateMethod m.1.1) (List.mem_flatMap.mpr ⟨m, hm, List.mem_cons.mpr (.inl rfl)⟩)
  have hi : Cond.instanceMethod m.1.1 ∈ tables_1 := lw_wk_mem _ _ _ lw_k3 (0, Cond.instanceMethod m.1.1) (List.mem_flatMap.mpr ⟨m, hm, List.mem_cons.mpr (.inr (List.mem_cons.mpr (.inl rfl)))⟩)
  exact ⟨⟨a1, a2⟩, h1, hp, hi⟩
end Pk0
section Pk1
def RX0 : String := "WhalePost$Box"
def TX0 : u_T := fun k => match k with
  | 0 => ("WhalePost$Box", "from", "I", false)
  | 1 => ("WhalePost$Box", "to", "I", false)
  | 2 => ("WhalePost$Box", "weighs", "I", false)
  | _ => ("WhalePost$Box", "day", "I", false)
def tyX0 : Nat → FieldType := fun k => match k with
  | 0 => .int
  | 1 => .int
  | 2 => .int
  | _ => .int
theorem nmX0 : ∀ a, a < 4 → ∀ b, b < 4 → a ≠ b → (TX0 a).2.1 ≠ (TX0 b).2.1 := by decide +kernel
theorem tyX0_ok : ∀ k, k < 4 → parseFieldDescriptor (TX0 k).2.2.1 = some (tyX0 k) := by decide +kernel
abbrev cX0_init : ByteArray := prog_2_method_1_code
def yX0_init : MethodName := ⟨RX0, "<init>", "()V"⟩
def RX1 : String := "WhalePost$Matching"
def TX1 : u_T := fun k => match k with
  | 0 => ("WhalePost$Matching", "days", "[I", true)
  | 1 => ("WhalePost$Matching", "whaleOf", "[I", true)
  | 2 => ("WhalePost$Matching", "count", "I", false)
  | 3 => ("WhalePost$Matching", "sumOfDays", "I", false)
  | _ => ("WhalePost$Matching", "best", "[I", true)
def tyX1 : Nat → FieldType := fun k => match k with
  | 0 => .array .int
  | 1 => .array .int
  | 2 => .int
  | 3 => .int
  | _ => .array .int
theorem nmX1 : ∀ a, a < 5 → ∀ b, b < 5 → a ≠ b → (TX1 a).2.1 ≠ (TX1 b).2.1 := by decide +kernel
theorem tyX1_ok : ∀ k, k < 5 → parseFieldDescriptor (TX1 k).2.2.1 = some (tyX1 k) := by decide +kernel
abbrev cX1_init : ByteArray := prog_3_method_1_code
def yX1_init : MethodName := ⟨RX1, "<init>", "()V"⟩
abbrev cX1_solve : ByteArray := prog_3_method_2_code
def yX1_solve : MethodName := ⟨RX1, "solve", "(II)V"⟩
abbrev cX1_worth : ByteArray := prog_3_method_3_code
def yX1_worth : MethodName := ⟨RX1, "worth", "(III)I"⟩
abbrev cX1_choose : ByteArray := prog_3_method_4_code
def yX1_choose : MethodName := ⟨RX1, "choose", "(II)V"⟩
abbrev cX1_firstBest : ByteArray := prog_3_method_5_code
def yX1_firstBest : MethodName := ⟨RX1, "firstBest", "(III)I"⟩
def RX2 : String := "WhalePost$Now"
def TX2 : u_T := fun k => match k with
  | 0 => ("WhalePost$Now", "year", "I", false)
  | 1 => ("WhalePost$Now", "closed", "I", false)
  | 2 => ("WhalePost$Now", "whaleAt", "[I", true)
  | 3 => ("WhalePost$Now", "whaleFree", "[I", true)
  | 4 => ("WhalePost$Now", "boxCame", "[I", true)
  | 5 => ("WhalePost$Now", "boxGot", "[I", true)
  | _ => ("WhalePost$Now", "boxSong", "[I", true)
def tyX2 : Nat → FieldType := fun k => match k with
  | 0 => .int
  | 1 => .int
  | 2 => .array .int
  | 3 => .array .int
  | 4 => .array .int
  | 5 => .array .int
  | _ => .array .int
theorem nmX2 : ∀ a, a < 7 → ∀ b, b < 7 → a ≠ b → (TX2 a).2.1 ≠ (TX2 b).2.1 := by decide +kernel
theorem tyX2_ok : ∀ k, k < 7 → parseFieldDescriptor (TX2 k).2.2.1 = some (tyX2 k) := by decide +kernel
abbrev cX2_init : ByteArray := prog_4_method_1_code
def yX2_init : MethodName := ⟨RX2, "<init>", "()V"⟩
abbrev cX2_begin : ByteArray := prog_4_method_2_code
def yX2_begin : MethodName := ⟨RX2, "begin", "(LWhalePost$Post;)V"⟩
abbrev cX2_copyFrom : ByteArray := prog_4_method_3_code
def yX2_copyFrom : MethodName := ⟨RX2, "copyFrom", "(LWhalePost$Now;)V"⟩
abbrev cX2_isClosed : ByteArray := prog_4_method_4_code
def yX2_isClosed : MethodName := ⟨RX2, "isClosed", "(I)Z"⟩
abbrev cX2_isSent : ByteArray := prog_4_method_5_code
def yX2_isSent : MethodName := ⟨RX2, "isSent", "(I)Z"⟩
def RX3 : String := "WhalePost$Paths"
def TX3 : u_T := fun k => match k with
  | 0 => ("WhalePost$Paths", "post", "LWhalePost$Post;", false)
  | 1 => ("WhalePost$Paths", "order", "[I", true)
  | 2 => ("WhalePost$Paths", "between", "[I", true)
  | _ => ("WhalePost$Paths", "rest", "[I", true)
def tyX3 : Nat → FieldType := fun k => match k with
  | 0 => .object "WhalePost$Post"
  | 1 => .array .int
  | 2 => .array .int
  | _ => .array .int
theorem nmX3 : ∀ a, a < 4 → ∀ b, b < 4 → a ≠ b → (TX3 a).2.1 ≠ (TX3 b).2.1 := by decide +kernel
theorem tyX3_ok : ∀ k, k < 4 → parseFieldDescriptor (TX3 k).2.2.1 = some (tyX3 k) := by decide +kernel
abbrev cX3_init : ByteArray := prog_5_method_1_code
def yX3_init : MethodName := ⟨RX3, "<init>", "(LWhalePost$Post;)V"⟩
abbrev cX3_fewestToWatch : ByteArray := prog_5_method_2_code
def yX3_fewestToWatch : MethodName := ⟨RX3, "fewestToWatch", "(III)I"⟩
abbrev cX3_waysOutOf : ByteArray := prog_5_method_3_code
def yX3_waysOutOf : MethodName := ⟨RX3, "waysOutOf", "(I)I"⟩
abbrev cX3_findRound : ByteArray := prog_5_method_4_code
def yX3_findRound : MethodName := ⟨RX3, "findRound", "(II)I"⟩
abbrev cX3_findShortest : ByteArray := prog_5_method_5_code
def yX3_findShortest : MethodName := ⟨RX3, "findShortest", "(I)V"⟩
abbrev cX3_findRests : ByteArray := prog_5_method_6_code
def yX3_findRests : MethodName := ⟨RX3, "findRests", "()V"⟩
abbrev cX3_daysOver : ByteArray := prog_5_method_7_code
def yX3_daysOver : MethodName := ⟨RX3, "daysOver", "(III)I"⟩
abbrev cX3_nextOf : ByteArray := prog_5_method_8_code
def yX3_nextOf : MethodName := ⟨RX3, "nextOf", "(II)I"⟩
def RX4 : String := "WhalePost$Post"
def TX4 : u_T := fun k => match k with
  | 0 => ("WhalePost$Post", "notes", "I", false)
  | 1 => ("WhalePost$Post", "errors", "I", false)
  | 2 => ("WhalePost$Post", "drift", "I", false)
  | 3 => ("WhalePost$Post", "slip", "I", false)
  | 4 => ("WhalePost$Post", "islands", "I", false)
  | 5 => ("WhalePost$Post", "ways", "I", false)
  | 6 => ("WhalePost$Post", "whales", "I", false)
  | 7 => ("WhalePost$Post", "boxes", "I", false)
  | 8 => ("WhalePost$Post", "spouts", "I", false)
  | 9 => ("WhalePost$Post", "song", "[I", true)
  | 10 => ("WhalePost$Post", "songLength", "[I", true)
  | 11 => ("WhalePost$Post", "way", "[LWhalePost$Way;", true)
  | 12 => ("WhalePost$Post", "whale", "[LWhalePost$Whale;", true)
  | 13 => ("WhalePost$Post", "box", "[LWhalePost$Box;", true)
  | _ => ("WhalePost$Post", "spout", "[LWhalePost$Spout;", true)
def tyX4 : Nat → FieldType := fun k => match k with
  | 0 => .int
  | 1 => .int
  | 2 => .int
  | 3 => .int
  | 4 => .int
  | 5 => .int
  | 6 => .int
  | 7 => .int
  | 8 => .int
  | 9 => .array .int
  | 10 => .array .int
  | 11 => .array (.object "WhalePost$Way")
  | 12 => .array (.object "WhalePost$Whale")
  | 13 => .array (.object "WhalePost$Box")
  | _ => .array (.object "WhalePost$Spout")
theorem nmX4 : ∀ a, a < 15 → ∀ b, b < 15 → a ≠ b → (TX4 a).2.1 ≠ (TX4 b).2.1 := by decide +kernel
theorem tyX4_ok : ∀ k, k < 15 → parseFieldDescriptor (TX4 k).2.2.1 = some (tyX4 k) := by decide +kernel
abbrev cX4_init : ByteArray := prog_6_method_1_code
def yX4_init : MethodName := ⟨RX4, "<init>", "()V"⟩
abbrev cX4_clear : ByteArray := prog_6_method_2_code
def yX4_clear : MethodName := ⟨RX4, "clear", "()V"⟩
abbrev cX4_boxLength : ByteArray := prog_6_method_3_code
def yX4_boxLength : MethodName := ⟨RX4, "boxLength", "(I)I"⟩
abbrev cX4_wayBetween : ByteArray := prog_6_method_4_code
def yX4_wayBetween : MethodName := ⟨RX4, "wayBetween", "(II)I"⟩
abbrev cX4_hasSong : ByteArray := prog_6_method_5_code
def yX4_hasSong : MethodName := ⟨RX4, "hasSong", "(II)Z"⟩
abbrev cX4_lastSpoutOf : ByteArray := prog_6_method_6_code
def yX4_lastSpoutOf : MethodName := ⟨RX4, "lastSpoutOf", "(I)I"⟩
def RX5 : String := "WhalePost$Reader"
def TX5 : u_T := fun k => match k with
  | 0 => ("WhalePost$Reader", "text", "[B", true)
  | 1 => ("WhalePost$Reader", "end", "I", false)
  | 2 => ("WhalePost$Reader", "at", "I", false)
  | 3 => ("WhalePost$Reader", "token", "I", false)
  | 4 => ("WhalePost$Reader", "start", "I", false)
  | 5 => ("WhalePost$Reader", "value", "I", false)
  | 6 => ("WhalePost$Reader", "post", "LWhalePost$Post;", false)
  | 7 => ("WhalePost$Reader", "name", "[J", true)
  | 8 => ("WhalePost$Reader", "nameSort", "[I", true)
  | 9 => ("WhalePost$Reader", "nameNumber", "[I", true)
  | 10 => ("WhalePost$Reader", "names", "I", false)
  | 11 => ("WhalePost$Reader", "fault", "I", false)
  | _ => ("WhalePost$Reader", "place", "I", false)
def tyX5 : Nat → FieldType := fun k => match k with
  | 0 => .array .byte
  | 1 => .int
  | 2 => .int
  | 3 => .int
  | 4 => .int
  | 5 => .int
  | 6 => .object "WhalePost$Post"
  | 7 => .array .long
  | 8 => .array .int
  | 9 => .array .int
  | 10 => .int
  | 11 => .int
  | _ => .int
theorem nmX5 : ∀ a, a < 13 → ∀ b, b < 13 → a ≠ b → (TX5 a).2.1 ≠ (TX5 b).2.1 := by decide +kernel
theorem tyX5_ok : ∀ k, k < 13 → parseFieldDescriptor (TX5 k).2.2.1 = some (tyX5 k) := by decide +kernel
abbrev cX5_init : ByteArray := prog_7_method_1_code
def yX5_init : MethodName := ⟨RX5, "<init>", "([BLWhalePost$Post;)V"⟩
abbrev cX5_readPost : ByteArray := prog_7_method_2_code
def yX5_readPost : MethodName := ⟨RX5, "readPost", "(ILWhalePost$Post;)Z"⟩
abbrev cX5_faulty : ByteArray := prog_7_method_3_code
def yX5_faulty : MethodName := ⟨RX5, "faulty", "(I)Z"⟩
abbrev cX5_readLine : ByteArray := prog_7_method_4_code
def yX5_readLine : MethodName := ⟨RX5, "readLine", "()Z"⟩
abbrev cX5_readHead : ByteArray := prog_7_method_5_code
def yX5_readHead : MethodName := ⟨RX5, "readHead", "()Z"⟩
abbrev cX5_readIsland : ByteArray := prog_7_method_6_code
def yX5_readIsland : MethodName := ⟨RX5, "readIsland", "()Z"⟩
abbrev cX5_readWay : ByteArray := prog_7_method_7_code
def yX5_readWay : MethodName := ⟨RX5, "readWay", "(LWhalePost$Way;)Z"⟩
abbrev cX5_readWhale : ByteArray := prog_7_method_8_code
def yX5_readWhale : MethodName := ⟨RX5, "readWhale", "(LWhalePost$Whale;)Z"⟩
abbrev cX5_readBox : ByteArray := prog_7_method_9_code
def yX5_readBox : MethodName := ⟨RX5, "readBox", "(LWhalePost$Box;)Z"⟩
abbrev cX5_readSpout : ByteArray := prog_7_method_10_code
def yX5_readSpout : MethodName := ⟨RX5, "readSpout", "(LWhalePost$Spout;)Z"⟩
abbrev cX5_word : ByteArray := prog_7_method_11_code
def yX5_word : MethodName := ⟨RX5, "word", "(Ljava/lang/String;)Z"⟩
abbrev cX5_whole : ByteArray := prog_7_method_12_code
def yX5_whole : MethodName := ⟨RX5, "whole", "(II)Z"⟩
abbrev cX5_newName : ByteArray := prog_7_method_13_code
def yX5_newName : MethodName := ⟨RX5, "newName", "(II)Z"⟩
abbrev cX5_toldName : ByteArray := prog_7_method_14_code
def yX5_toldName : MethodName := ⟨RX5, "toldName", "(I)Z"⟩
abbrev cX5_nameOfToken : ByteArray := prog_7_method_15_code
def yX5_nameOfToken : MethodName := ⟨RX5, "nameOfToken", "()I"⟩
abbrev cX5_letters : ByteArray := prog_7_method_16_code
def yX5_letters : MethodName := ⟨RX5, "letters", "()J"⟩
abbrev cX5_songOfToken : ByteArray := prog_7_method_17_code
def yX5_songOfToken : MethodName := ⟨RX5, "songOfToken", "()I"⟩
abbrev cX5_kindOfToken : ByteArray := prog_7_method_18_code
def yX5_kindOfToken : MethodName := ⟨RX5, "kindOfToken", "()I"⟩
abbrev cX5_sortOfLine : ByteArray := prog_7_method_19_code
def yX5_sortOfLine : MethodName := ⟨RX5, "sortOfLine", "()I"⟩
abbrev cX5_isToken : ByteArray := prog_7_method_20_code
def yX5_isToken : MethodName := ⟨RX5, "isToken", "(Ljava/lang/String;)Z"⟩
abbrev cX5_nextToken : ByteArray := prog_7_method_21_code
def yX5_nextToken : MethodName := ⟨RX5, "nextToken", "()V"⟩
abbrev cX5_passAll : ByteArray := prog_7_method_22_code
def yX5_passAll : MethodName := ⟨RX5, "passAll", "(CC)Z"⟩
def RX6 : String := "WhalePost$Sea"
def TX6 : u_T := fun k => match k with
  | 0 => ("WhalePost$Sea", "post", "LWhalePost$Post;", false)
  | 1 => ("WhalePost$Sea", "now", "LWhalePost$Now;", true)
  | 2 => ("WhalePost$Sea", "songs", "LWhalePost$Songs;", true)
  | 3 => ("WhalePost$Sea", "first", "[I", true)
  | 4 => ("WhalePost$Sea", "goal", "I", false)
  | 5 => ("WhalePost$Sea", "taken", "I", false)
  | _ => ("WhalePost$Sea", "arrived", "I", false)
def tyX6 : Nat → FieldType := fun k => match k with
  | 0 => .object "WhalePost$Post"
  | 1 => .object "WhalePost$Now"
  | 2 => .object "WhalePost$Songs"
  | 3 => .array .int
  | 4 => .int
  | 5 => .int
  | _ => .int
theorem nmX6 : ∀ a, a < 7 → ∀ b, b < 7 → a ≠ b → (TX6 a).2.1 ≠ (TX6 b).2.1 := by decide +kernel
theorem tyX6_ok : ∀ k, k < 7 → parseFieldDescriptor (TX6 k).2.2.1 = some (tyX6 k) := by decide +kernel
abbrev cX6_init : ByteArray := prog_8_method_1_code
def yX6_init : MethodName := ⟨RX6, "<init>", "(LWhalePost$Post;LWhalePost$Now;LWhalePost$Songs;)V"⟩
abbrev cX6_dayOfLeaving : ByteArray := prog_8_method_2_code
def yX6_dayOfLeaving : MethodName := ⟨RX6, "dayOfLeaving", "(III)I"⟩
abbrev cX6_findFirstDays : ByteArray := prog_8_method_3_code
def yX6_findFirstDays : MethodName := ⟨RX6, "findFirstDays", "(III)V"⟩
abbrev cX6_goes : ByteArray := prog_8_method_4_code
def yX6_goes : MethodName := ⟨RX6, "goes", "(ILWhalePost$Way;II)Z"⟩
abbrev cX6_firstDayAt : ByteArray := prog_8_method_5_code
def yX6_firstDayAt : MethodName := ⟨RX6, "firstDayAt", "(IIII)I"⟩
abbrev cX6_dayOfBringing : ByteArray := prog_8_method_6_code
def yX6_dayOfBringing : MethodName := ⟨RX6, "dayOfBringing", "(II)I"⟩
abbrev cX6_soonestBringer : ByteArray := prog_8_method_7_code
def yX6_soonestBringer : MethodName := ⟨RX6, "soonestBringer", "(I)I"⟩
abbrev cX6_surestBringer : ByteArray := prog_8_method_8_code
def yX6_surestBringer : MethodName := ⟨RX6, "surestBringer", "(II)I"⟩
abbrev cX6_bringersBy : ByteArray := prog_8_method_9_code
def yX6_bringersBy : MethodName := ⟨RX6, "bringersBy", "(II)I"⟩
abbrev cX6_dayOfMeeting : ByteArray := prog_8_method_10_code
def yX6_dayOfMeeting : MethodName := ⟨RX6, "dayOfMeeting", "(IIII)I"⟩
abbrev cX6_fittingWhales : ByteArray := prog_8_method_11_code
def yX6_fittingWhales : MethodName := ⟨RX6, "fittingWhales", "()I"⟩
abbrev cX6_isFitting : ByteArray := prog_8_method_12_code
def yX6_isFitting : MethodName := ⟨RX6, "isFitting", "(I)Z"⟩
abbrev cX6_islandsReached : ByteArray := prog_8_method_13_code
def yX6_islandsReached : MethodName := ⟨RX6, "islandsReached", "(II)I"⟩
abbrev cX6_bestPier : ByteArray := prog_8_method_14_code
def yX6_bestPier : MethodName := ⟨RX6, "bestPier", "(I)I"⟩
abbrev cX6_whalesReaching : ByteArray := prog_8_method_15_code
def yX6_whalesReaching : MethodName := ⟨RX6, "whalesReaching", "(II)I"⟩
def RX7 : String := "WhalePost$Songs"
def TX7 : u_T := fun k => match k with
  | 0 => ("WhalePost$Songs", "post", "LWhalePost$Post;", false)
  | 1 => ("WhalePost$Songs", "seed", "I", false)
  | 2 => ("WhalePost$Songs", "fewestUnlike", "I", false)
  | 3 => ("WhalePost$Songs", "nearestCount", "I", false)
  | 4 => ("WhalePost$Songs", "firstNew", "I", false)
  | _ => ("WhalePost$Songs", "kept", "[I", true)
def tyX7 : Nat → FieldType := fun k => match k with
  | 0 => .object "WhalePost$Post"
  | 1 => .int
  | 2 => .int
  | 3 => .int
  | 4 => .int
  | _ => .array .int
theorem nmX7 : ∀ a, a < 6 → ∀ b, b < 6 → a ≠ b → (TX7 a).2.1 ≠ (TX7 b).2.1 := by decide +kernel
theorem tyX7_ok : ∀ k, k < 6 → parseFieldDescriptor (TX7 k).2.2.1 = some (tyX7 k) := by decide +kernel
abbrev cX7_init : ByteArray := prog_9_method_1_code
def yX7_init : MethodName := ⟨RX7, "<init>", "(LWhalePost$Post;)V"⟩
abbrev cX7_fallIn : ByteArray := prog_9_method_2_code
def yX7_fallIn : MethodName := ⟨RX7, "fallIn", "(I)I"⟩
abbrev cX7_raised : ByteArray := prog_9_method_3_code
def yX7_raised : MethodName := ⟨RX7, "raised", "(III)I"⟩
abbrev cX7_songIn : ByteArray := prog_9_method_4_code
def yX7_songIn : MethodName := ⟨RX7, "songIn", "(II)I"⟩
abbrev cX7_hearerOf : ByteArray := prog_9_method_5_code
def yX7_hearerOf : MethodName := ⟨RX7, "hearerOf", "(III)I"⟩
abbrev cX7_apartness : ByteArray := prog_9_method_6_code
def yX7_apartness : MethodName := ⟨RX7, "apartness", "(II)I"⟩
abbrev cX7_bearable : ByteArray := prog_9_method_7_code
def yX7_bearable : MethodName := ⟨RX7, "bearable", "()I"⟩
abbrev cX7_mixedPairs : ByteArray := prog_9_method_8_code
def yX7_mixedPairs : MethodName := ⟨RX7, "mixedPairs", "()I"⟩
abbrev cX7_findNew : ByteArray := prog_9_method_9_code
def yX7_findNew : MethodName := ⟨RX7, "findNew", "(IIII)I"⟩
abbrev cX7_keepSongsOf : ByteArray := prog_9_method_10_code
def yX7_keepSongsOf : MethodName := ⟨RX7, "keepSongsOf", "(II)I"⟩
abbrev cX7_isOfNotes : ByteArray := prog_9_method_11_code
def yX7_isOfNotes : MethodName := ⟨RX7, "isOfNotes", "(II)Z"⟩
abbrev cX7_isFarFromKept : ByteArray := prog_9_method_12_code
def yX7_isFarFromKept : MethodName := ⟨RX7, "isFarFromKept", "(III)Z"⟩
abbrev cX7_draw : ByteArray := prog_9_method_13_code
def yX7_draw : MethodName := ⟨RX7, "draw", "()I"⟩
abbrev cX7_slipped : ByteArray := prog_9_method_14_code
def yX7_slipped : MethodName := ⟨RX7, "slipped", "(II)I"⟩
def RX8 : String := "WhalePost$Spout"
def TX8 : u_T := fun k => match k with
  | 0 => ("WhalePost$Spout", "whale", "I", false)
  | 1 => ("WhalePost$Spout", "island", "I", false)
  | _ => ("WhalePost$Spout", "day", "I", false)
def tyX8 : Nat → FieldType := fun k => match k with
  | 0 => .int
  | 1 => .int
  | _ => .int
theorem nmX8 : ∀ a, a < 3 → ∀ b, b < 3 → a ≠ b → (TX8 a).2.1 ≠ (TX8 b).2.1 := by decide +kernel
theorem tyX8_ok : ∀ k, k < 3 → parseFieldDescriptor (TX8 k).2.2.1 = some (tyX8 k) := by decide +kernel
abbrev cX8_init : ByteArray := prog_10_method_1_code
def yX8_init : MethodName := ⟨RX8, "<init>", "()V"⟩
def RX9 : String := "WhalePost$Way"
def TX9 : u_T := fun k => match k with
  | 0 => ("WhalePost$Way", "one", "I", false)
  | 1 => ("WhalePost$Way", "other", "I", false)
  | 2 => ("WhalePost$Way", "days", "I", false)
  | _ => ("WhalePost$Way", "open", "I", false)
def tyX9 : Nat → FieldType := fun k => match k with
  | 0 => .int
  | 1 => .int
  | 2 => .int
  | _ => .int
theorem nmX9 : ∀ a, a < 4 → ∀ b, b < 4 → a ≠ b → (TX9 a).2.1 ≠ (TX9 b).2.1 := by decide +kernel
theorem tyX9_ok : ∀ k, k < 4 → parseFieldDescriptor (TX9 k).2.2.1 = some (tyX9 k) := by decide +kernel
abbrev cX9_init : ByteArray := prog_11_method_1_code
def yX9_init : MethodName := ⟨RX9, "<init>", "()V"⟩
def RX10 : String := "WhalePost$Whale"
def TX10 : u_T := fun k => match k with
  | 0 => ("WhalePost$Whale", "kind", "I", false)
  | 1 => ("WhalePost$Whale", "home", "I", false)
  | 2 => ("WhalePost$Whale", "keeps", "I", false)
  | _ => ("WhalePost$Whale", "lost", "I", false)
def tyX10 : Nat → FieldType := fun k => match k with
  | 0 => .int
  | 1 => .int
  | 2 => .int
  | _ => .int
theorem nmX10 : ∀ a, a < 4 → ∀ b, b < 4 → a ≠ b → (TX10 a).2.1 ≠ (TX10 b).2.1 := by decide +kernel
theorem tyX10_ok : ∀ k, k < 4 → parseFieldDescriptor (TX10 k).2.2.1 = some (tyX10 k) := by decide +kernel
abbrev cX10_init : ByteArray := prog_12_method_1_code
def yX10_init : MethodName := ⟨RX10, "<init>", "()V"⟩
def RX11 : String := "WhalePost"
def TX11 : u_T := fun k => match k with
  | 0 => ("WhalePost", "tape", "[B", true)
  | 1 => ("WhalePost", "tapeSize", "I", false)
  | 2 => ("WhalePost", "trouble", "I", false)
  | 3 => ("WhalePost", "post", "LWhalePost$Post;", false)
  | 4 => ("WhalePost", "draft", "LWhalePost$Post;", false)
  | 5 => ("WhalePost", "reader", "LWhalePost$Reader;", true)
  | 6 => ("WhalePost", "now", "LWhalePost$Now;", true)
  | 7 => ("WhalePost", "songs", "LWhalePost$Songs;", true)
  | 8 => ("WhalePost", "sea", "LWhalePost$Sea;", true)
  | 9 => ("WhalePost", "paths", "LWhalePost$Paths;", true)
  | 10 => ("WhalePost", "matching", "LWhalePost$Matching;", true)
  | 11 => ("WhalePost", "history", "[LWhalePost$Now;", true)
  | 12 => ("WhalePost", "newest", "I", false)
  | 13 => ("WhalePost", "undoable", "I", false)
  | 14 => ("WhalePost", "images", "[LWhalePost$Now;", true)
  | _ => ("WhalePost", "imageCount", "I", false)
def tyX11 : Nat → FieldType := fun k => match k with
  | 0 => .array .byte
  | 1 => .int
  | 2 => .int
  | 3 => .object "WhalePost$Post"
  | 4 => .object "WhalePost$Post"
  | 5 => .object "WhalePost$Reader"
  | 6 => .object "WhalePost$Now"
  | 7 => .object "WhalePost$Songs"
  | 8 => .object "WhalePost$Sea"
  | 9 => .object "WhalePost$Paths"
  | 10 => .object "WhalePost$Matching"
  | 11 => .array (.object "WhalePost$Now")
  | 12 => .int
  | 13 => .int
  | 14 => .array (.object "WhalePost$Now")
  | _ => .int
theorem nmX11 : ∀ a, a < 16 → ∀ b, b < 16 → a ≠ b → (TX11 a).2.1 ≠ (TX11 b).2.1 := by decide +kernel
theorem tyX11_ok : ∀ k, k < 16 → parseFieldDescriptor (TX11 k).2.2.1 = some (tyX11 k) := by decide +kernel
abbrev cX11_init : ByteArray := prog_1_method_1_code
def yX11_init : MethodName := ⟨RX11, "<init>", "()V"⟩
abbrev cX11_feed : ByteArray := prog_1_method_2_code
def yX11_feed : MethodName := ⟨RX11, "feed", "(IIIII)I"⟩
abbrev cX11_post : ByteArray := prog_1_method_3_code
def yX11_post : MethodName := ⟨RX11, "post", "(I)I"⟩
abbrev cX11_fault : ByteArray := prog_1_method_4_code
def yX11_fault : MethodName := ⟨RX11, "fault", "()I"⟩
abbrev cX11_where : ByteArray := prog_1_method_5_code
def yX11_where : MethodName := ⟨RX11, "where", "()I"⟩
abbrev cX11_whale : ByteArray := prog_1_method_6_code
def yX11_whale : MethodName := ⟨RX11, "whale", "(II)I"⟩
abbrev cX11_box : ByteArray := prog_1_method_7_code
def yX11_box : MethodName := ⟨RX11, "box", "(II)I"⟩
abbrev cX11_length : ByteArray := prog_1_method_8_code
def yX11_length : MethodName := ⟨RX11, "length", "(I)I"⟩
abbrev cX11_note : ByteArray := prog_1_method_9_code
def yX11_note : MethodName := ⟨RX11, "note", "(II)I"⟩
abbrev cX11_sung : ByteArray := prog_1_method_10_code
def yX11_sung : MethodName := ⟨RX11, "sung", "(II)I"⟩
abbrev cX11_heard : ByteArray := prog_1_method_11_code
def yX11_heard : MethodName := ⟨RX11, "heard", "(I)I"⟩
abbrev cX11_way : ByteArray := prog_1_method_12_code
def yX11_way : MethodName := ⟨RX11, "way", "(II)I"⟩
abbrev cX11_season : ByteArray := prog_1_method_13_code
def yX11_season : MethodName := ⟨RX11, "season", "(I)I"⟩
abbrev cX11_sets : ByteArray := prog_1_method_14_code
def yX11_sets : MethodName := ⟨RX11, "sets", "(III)I"⟩
abbrev cX11_sent : ByteArray := prog_1_method_15_code
def yX11_sent : MethodName := ⟨RX11, "sent", "(I)I"⟩
abbrev cX11_apart : ByteArray := prog_1_method_16_code
def yX11_apart : MethodName := ⟨RX11, "apart", "(II)I"⟩
abbrev cX11_bear : ByteArray := prog_1_method_17_code
def yX11_bear : MethodName := ⟨RX11, "bear", "()I"⟩
abbrev cX11_mixed : ByteArray := prog_1_method_18_code
def yX11_mixed : MethodName := ⟨RX11, "mixed", "()I"⟩
abbrev cX11_fresh : ByteArray := prog_1_method_19_code
def yX11_fresh : MethodName := ⟨RX11, "fresh", "(II)I"⟩
abbrev cX11_byTurns : ByteArray := prog_1_method_20_code
def yX11_byTurns : MethodName := ⟨RX11, "byTurns", "(II)I"⟩
abbrev cX11_near : ByteArray := prog_1_method_21_code
def yX11_near : MethodName := ⟨RX11, "near", "(I)I"⟩
abbrev cX11_asNear : ByteArray := prog_1_method_22_code
def yX11_asNear : MethodName := ⟨RX11, "asNear", "(I)I"⟩
abbrev cX11_heardIn : ByteArray := prog_1_method_23_code
def yX11_heardIn : MethodName := ⟨RX11, "heardIn", "(II)I"⟩
abbrev cX11_strange : ByteArray := prog_1_method_24_code
def yX11_strange : MethodName := ⟨RX11, "strange", "(I)I"⟩
abbrev cX11_arrival : ByteArray := prog_1_method_25_code
def yX11_arrival : MethodName := ⟨RX11, "arrival", "(IIII)I"⟩
abbrev cX11_brings : ByteArray := prog_1_method_26_code
def yX11_brings : MethodName := ⟨RX11, "brings", "(II)I"⟩
abbrev cX11_soonest : ByteArray := prog_1_method_27_code
def yX11_soonest : MethodName := ⟨RX11, "soonest", "(I)I"⟩
abbrev cX11_surest : ByteArray := prog_1_method_28_code
def yX11_surest : MethodName := ⟨RX11, "surest", "(I)I"⟩
abbrev cX11_by : ByteArray := prog_1_method_29_code
def yX11_by : MethodName := ⟨RX11, "by", "(II)I"⟩
abbrev cX11_registered : ByteArray := prog_1_method_30_code
def yX11_registered : MethodName := ⟨RX11, "registered", "(IZ)J"⟩
abbrev cX11_match : ByteArray := prog_1_method_31_code
def yX11_match : MethodName := ⟨RX11, "match", "()I"⟩
abbrev cX11_matchDays : ByteArray := prog_1_method_32_code
def yX11_matchDays : MethodName := ⟨RX11, "matchDays", "()I"⟩
abbrev cX11_matchOf : ByteArray := prog_1_method_33_code
def yX11_matchOf : MethodName := ⟨RX11, "matchOf", "(I)I"⟩
abbrev cX11_meet : ByteArray := prog_1_method_34_code
def yX11_meet : MethodName := ⟨RX11, "meet", "(IIII)I"⟩
abbrev cX11_fits : ByteArray := prog_1_method_35_code
def yX11_fits : MethodName := ⟨RX11, "fits", "()I"⟩
abbrev cX11_reach : ByteArray := prog_1_method_36_code
def yX11_reach : MethodName := ⟨RX11, "reach", "(II)I"⟩
abbrev cX11_pier : ByteArray := prog_1_method_37_code
def yX11_pier : MethodName := ⟨RX11, "pier", "(I)I"⟩
abbrev cX11_watch : ByteArray := prog_1_method_38_code
def yX11_watch : MethodName := ⟨RX11, "watch", "(II)I"⟩
abbrev cX11_round : ByteArray := prog_1_method_39_code
def yX11_round : MethodName := ⟨RX11, "round", "(I)I"⟩
abbrev cX11_roundAt : ByteArray := prog_1_method_40_code
def yX11_roundAt : MethodName := ⟨RX11, "roundAt", "(II)I"⟩
abbrev cX11_decade : ByteArray := prog_1_method_41_code
def yX11_decade : MethodName := ⟨RX11, "decade", "(II)I"⟩
abbrev cX11_send : ByteArray := prog_1_method_42_code
def yX11_send : MethodName := ⟨RX11, "send", "(II)I"⟩
abbrev cX11_tune : ByteArray := prog_1_method_43_code
def yX11_tune : MethodName := ⟨RX11, "tune", "(III)Z"⟩
abbrev cX11_years : ByteArray := prog_1_method_44_code
def yX11_years : MethodName := ⟨RX11, "years", "(I)I"⟩
abbrev cX11_close : ByteArray := prog_1_method_45_code
def yX11_close : MethodName := ⟨RX11, "close", "(IZ)Z"⟩
abbrev cX11_undo : ByteArray := prog_1_method_46_code
def yX11_undo : MethodName := ⟨RX11, "undo", "()Z"⟩
abbrev cX11_image : ByteArray := prog_1_method_47_code
def yX11_image : MethodName := ⟨RX11, "image", "()I"⟩
abbrev cX11_back : ByteArray := prog_1_method_48_code
def yX11_back : MethodName := ⟨RX11, "back", "(I)Z"⟩
abbrev cX11_led : ByteArray := prog_1_method_49_code
def yX11_led : MethodName := ⟨RX11, "led", "(I)I"⟩
abbrev cX11_size : ByteArray := prog_1_method_50_code
def yX11_size : MethodName := ⟨RX11, "size", "(I)I"⟩
abbrev cX11_trouble : ByteArray := prog_1_method_51_code
def yX11_trouble : MethodName := ⟨RX11, "trouble", "()I"⟩
abbrev cX11_granted : ByteArray := prog_1_method_52_code
def yX11_granted : MethodName := ⟨RX11, "granted", "(I)I"⟩
abbrev cX11_refused : ByteArray := prog_1_method_53_code
def yX11_refused : MethodName := ⟨RX11, "refused", "(I)I"⟩
abbrev cX11_hasGranted : ByteArray := prog_1_method_54_code
def yX11_hasGranted : MethodName := ⟨RX11, "hasGranted", "()Z"⟩
abbrev cX11_hasRefused : ByteArray := prog_1_method_55_code
def yX11_hasRefused : MethodName := ⟨RX11, "hasRefused", "(I)Z"⟩
abbrev cX11_hasPost : ByteArray := prog_1_method_56_code
def yX11_hasPost : MethodName := ⟨RX11, "hasPost", "()Z"⟩
abbrev cX11_isIsland : ByteArray := prog_1_method_57_code
def yX11_isIsland : MethodName := ⟨RX11, "isIsland", "(I)Z"⟩
abbrev cX11_areTwoIslands : ByteArray := prog_1_method_58_code
def yX11_areTwoIslands : MethodName := ⟨RX11, "areTwoIslands", "(II)Z"⟩
abbrev cX11_isWay : ByteArray := prog_1_method_59_code
def yX11_isWay : MethodName := ⟨RX11, "isWay", "(I)Z"⟩
abbrev cX11_isWhale : ByteArray := prog_1_method_60_code
def yX11_isWhale : MethodName := ⟨RX11, "isWhale", "(I)Z"⟩
abbrev cX11_isBox : ByteArray := prog_1_method_61_code
def yX11_isBox : MethodName := ⟨RX11, "isBox", "(I)Z"⟩
abbrev cX11_isNoteOfBox : ByteArray := prog_1_method_62_code
def yX11_isNoteOfBox : MethodName := ⟨RX11, "isNoteOfBox", "(II)Z"⟩
abbrev cX11_isWithin : ByteArray := prog_1_method_63_code
def yX11_isWithin : MethodName := ⟨RX11, "isWithin", "(II)Z"⟩
abbrev cX11_refusalOfNewSong : ByteArray := prog_1_method_64_code
def yX11_refusalOfNewSong : MethodName := ⟨RX11, "refusalOfNewSong", "(II)I"⟩
abbrev cX11_appendBytes : ByteArray := prog_1_method_65_code
def yX11_appendBytes : MethodName := ⟨RX11, "appendBytes", "(I)V"⟩
abbrev cX11_takeDraft : ByteArray := prog_1_method_66_code
def yX11_takeDraft : MethodName := ⟨RX11, "takeDraft", "()V"⟩
abbrev cX11_keepForUndo : ByteArray := prog_1_method_67_code
def yX11_keepForUndo : MethodName := ⟨RX11, "keepForUndo", "()V"⟩
abbrev cX11_hearerIn : ByteArray := prog_1_method_68_code
def yX11_hearerIn : MethodName := ⟨RX11, "hearerIn", "(II)I"⟩
abbrev cX11_sentPart : ByteArray := prog_1_method_69_code
def yX11_sentPart : MethodName := ⟨RX11, "sentPart", "(II)I"⟩
abbrev cX11_heardWithSlips : ByteArray := prog_1_method_70_code
def yX11_heardWithSlips : MethodName := ⟨RX11, "heardWithSlips", "(I)I"⟩
abbrev cX11_solveMatch : ByteArray := prog_1_method_71_code
def yX11_solveMatch : MethodName := ⟨RX11, "solveMatch", "()V"⟩
abbrev cX11_commonDivisor : ByteArray := prog_1_method_72_code
def yX11_commonDivisor : MethodName := ⟨RX11, "commonDivisor", "(II)I"⟩
abbrev cX11_noteAt : ByteArray := prog_1_method_73_code
def yX11_noteAt : MethodName := ⟨RX11, "noteAt", "(III)I"⟩
abbrev cX11_withNote : ByteArray := prog_1_method_74_code
def yX11_withNote : MethodName := ⟨RX11, "withNote", "(IIII)I"⟩
abbrev cX11_unlikeNotes : ByteArray := prog_1_method_75_code
def yX11_unlikeNotes : MethodName := ⟨RX11, "unlikeNotes", "(II)I"⟩
def RX12 : String := "WhalePostModel"
def TX12 : u_T := fun k => match k with
  | 0 => ("WhalePostModel", "thrown", "I", false)
  | 1 => ("WhalePostModel", "tape", "[I", true)
  | 2 => ("WhalePostModel", "taped", "I", false)
  | 3 => ("WhalePostModel", "size", "I", false)
  | 4 => ("WhalePostModel", "at", "I", false)
  | 5 => ("WhalePostModel", "end", "I", false)
  | 6 => ("WhalePostModel", "token", "I", false)
  | 7 => ("WhalePostModel", "whole", "I", false)
  | 8 => ("WhalePostModel", "nameSize", "I", false)
  | 9 => ("WhalePostModel", "fault", "I", false)
  | 10 => ("WhalePostModel", "place", "I", false)
  | 11 => ("WhalePostModel", "trouble", "I", false)
  | 12 => ("WhalePostModel", "letters", "[I", true)
  | 13 => ("WhalePostModel", "failed", "Z", false)
  | 14 => ("WhalePostModel", "hasPost", "Z", false)
  | 15 => ("WhalePostModel", "\x72", "[I", true)
  | 16 => ("WhalePostModel", "fresh", "[I", true)
  | 17 => ("WhalePostModel", "st", "[I", true)
  | 18 => ("WhalePostModel", "undone", "[I", true)
  | 19 => ("WhalePostModel", "kept", "[I", true)
  | 20 => ("WhalePostModel", "undos", "I", false)
  | 21 => ("WhalePostModel", "images", "I", false)
  | 22 => ("WhalePostModel", "taken", "[I", true)
  | 23 => ("WhalePostModel", "takenMany", "I", false)
  | 24 => ("WhalePostModel", "days", "[I", true)
  | 25 => ("WhalePostModel", "done", "[I", true)
  | 26 => ("WhalePostModel", "takes", "I", false)
  | 27 => ("WhalePostModel", "arrives", "I", false)
  | 28 => ("WhalePostModel", "tried", "[I", true)
  | 29 => ("WhalePostModel", "bestFor", "[I", true)
  | 30 => ("WhalePostModel", "bringDays", "[I", true)
  | 31 => ("WhalePostModel", "bestMany", "I", false)
  | 32 => ("WhalePostModel", "bestSum", "I", false)
  | 33 => ("WhalePostModel", "seenAt", "I", false)
  | 34 => ("WhalePostModel", "seenDay", "I", false)
  | 35 => ("WhalePostModel", "far", "[I", true)
  | 36 => ("WhalePostModel", "order", "[I", true)
  | 37 => ("WhalePostModel", "bestOrder", "[I", true)
  | _ => ("WhalePostModel", "bestRound", "I", false)
def tyX12 : Nat → FieldType := fun k => match k with
  | 0 => .int
  | 1 => .array .int
  | 2 => .int
  | 3 => .int
  | 4 => .int
  | 5 => .int
  | 6 => .int
  | 7 => .int
  | 8 => .int
  | 9 => .int
  | 10 => .int
  | 11 => .int
  | 12 => .array .int
  | 13 => .boolean
  | 14 => .boolean
  | 15 => .array .int
  | 16 => .array .int
  | 17 => .array .int
  | 18 => .array .int
  | 19 => .array .int
  | 20 => .int
  | 21 => .int
  | 22 => .array .int
  | 23 => .int
  | 24 => .array .int
  | 25 => .array .int
  | 26 => .int
  | 27 => .int
  | 28 => .array .int
  | 29 => .array .int
  | 30 => .array .int
  | 31 => .int
  | 32 => .int
  | 33 => .int
  | 34 => .int
  | 35 => .array .int
  | 36 => .array .int
  | 37 => .array .int
  | _ => .int
theorem nmX12 : ∀ a, a < 39 → ∀ b, b < 39 → a ≠ b → (TX12 a).2.1 ≠ (TX12 b).2.1 := by decide +kernel
theorem tyX12_ok : ∀ k, k < 39 → parseFieldDescriptor (TX12 k).2.2.1 = some (tyX12 k) := by decide +kernel
abbrev cX12_init : ByteArray := prog_14_method_1_code
def yX12_init : MethodName := ⟨RX12, "<init>", "()V"⟩
abbrev cX12_good : ByteArray := prog_14_method_3_code
def yX12_good : MethodName := ⟨RX12, "good", "()V"⟩
abbrev cX12_no : ByteArray := prog_14_method_4_code
def yX12_no : MethodName := ⟨RX12, "no", "(I)I"⟩
abbrev cX12_isNot : ByteArray := prog_14_method_5_code
def yX12_isNot : MethodName := ⟨RX12, "isNot", "(I)Z"⟩
abbrev cX12_in : ByteArray := prog_14_method_6_code
def yX12_in : MethodName := ⟨RX12, "in", "(III)Z"⟩
abbrev cX12_hasBit : ByteArray := prog_14_method_7_code
def yX12_hasBit : MethodName := ⟨RX12, "hasBit", "(II)Z"⟩
abbrev cX12_ones : ByteArray := prog_14_method_8_code
def yX12_ones : MethodName := ⟨RX12, "ones", "(I)I"⟩
abbrev cX12_copy : ByteArray := prog_14_method_9_code
def yX12_copy : MethodName := ⟨RX12, "copy", "([II[III)V"⟩
abbrev cX12_later : ByteArray := prog_14_method_10_code
def yX12_later : MethodName := ⟨RX12, "later", "(II)I"⟩
abbrev cX12_feed : ByteArray := prog_14_method_11_code
def yX12_feed : MethodName := ⟨RX12, "feed", "(IIIII)I"⟩
abbrev cX12_look : ByteArray := prog_14_method_12_code
def yX12_look : MethodName := ⟨RX12, "look", "(I)I"⟩
abbrev cX12_isSmall : ByteArray := prog_14_method_13_code
def yX12_isSmall : MethodName := ⟨RX12, "isSmall", "(I)Z"⟩
abbrev cX12_isDigit : ByteArray := prog_14_method_14_code
def yX12_isDigit : MethodName := ⟨RX12, "isDigit", "(I)Z"⟩
abbrev cX12_next : ByteArray := prog_14_method_15_code
def yX12_next : MethodName := ⟨RX12, "next", "()V"⟩
abbrev cX12_wrong : ByteArray := prog_14_method_16_code
def yX12_wrong : MethodName := ⟨RX12, "wrong", "(II)V"⟩
abbrev cX12_isWord : ByteArray := prog_14_method_17_code
def yX12_isWord : MethodName := ⟨RX12, "isWord", "(Ljava/lang/String;)Z"⟩
abbrev cX12_takesWord : ByteArray := prog_14_method_18_code
def yX12_takesWord : MethodName := ⟨RX12, "takesWord", "(Ljava/lang/String;)Z"⟩
abbrev cX12_must : ByteArray := prog_14_method_19_code
def yX12_must : MethodName := ⟨RX12, "must", "(Ljava/lang/String;)V"⟩
abbrev cX12_mustName : ByteArray := prog_14_method_20_code
def yX12_mustName : MethodName := ⟨RX12, "mustName", "()V"⟩
abbrev cX12_find : ByteArray := prog_14_method_21_code
def yX12_find : MethodName := ⟨RX12, "find", "()I"⟩
abbrev cX12_newName : ByteArray := prog_14_method_22_code
def yX12_newName : MethodName := ⟨RX12, "newName", "(I)V"⟩
abbrev cX12_named : ByteArray := prog_14_method_23_code
def yX12_named : MethodName := ⟨RX12, "named", "(II)I"⟩
abbrev cX12_islandPassed : ByteArray := prog_14_method_24_code
def yX12_islandPassed : MethodName := ⟨RX12, "islandPassed", "()I"⟩
abbrev cX12_islandBehind : ByteArray := prog_14_method_25_code
def yX12_islandBehind : MethodName := ⟨RX12, "islandBehind", "(Ljava/lang/String;)I"⟩
abbrev cX12_number : ByteArray := prog_14_method_26_code
def yX12_number : MethodName := ⟨RX12, "number", "(II)I"⟩
abbrev cX12_after : ByteArray := prog_14_method_27_code
def yX12_after : MethodName := ⟨RX12, "after", "(Ljava/lang/String;II)I"⟩
abbrev cX12_post : ByteArray := prog_14_method_28_code
def yX12_post : MethodName := ⟨RX12, "post", "(I)I"⟩
abbrev cX12_begins : ByteArray := prog_14_method_29_code
def yX12_begins : MethodName := ⟨RX12, "begins", "(Ljava/lang/String;Z)Z"⟩
abbrev cX12_readLine : ByteArray := prog_14_method_30_code
def yX12_readLine : MethodName := ⟨RX12, "readLine", "()V"⟩
abbrev cX12_postLine : ByteArray := prog_14_method_31_code
def yX12_postLine : MethodName := ⟨RX12, "postLine", "()V"⟩
abbrev cX12_islandLine : ByteArray := prog_14_method_32_code
def yX12_islandLine : MethodName := ⟨RX12, "islandLine", "()V"⟩
abbrev cX12_isSong : ByteArray := prog_14_method_33_code
def yX12_isSong : MethodName := ⟨RX12, "isSong", "(I)Z"⟩
abbrev cX12_wayLine : ByteArray := prog_14_method_34_code
def yX12_wayLine : MethodName := ⟨RX12, "wayLine", "()V"⟩
abbrev cX12_joins : ByteArray := prog_14_method_35_code
def yX12_joins : MethodName := ⟨RX12, "joins", "([IIII)Z"⟩
abbrev cX12_whaleLine : ByteArray := prog_14_method_36_code
def yX12_whaleLine : MethodName := ⟨RX12, "whaleLine", "()V"⟩
abbrev cX12_boxLine : ByteArray := prog_14_method_37_code
def yX12_boxLine : MethodName := ⟨RX12, "boxLine", "()V"⟩
abbrev cX12_spoutLine : ByteArray := prog_14_method_38_code
def yX12_spoutLine : MethodName := ⟨RX12, "spoutLine", "()V"⟩
abbrev cX12_fault : ByteArray := prog_14_method_39_code
def yX12_fault : MethodName := ⟨RX12, "fault", "()I"⟩
abbrev cX12_where : ByteArray := prog_14_method_40_code
def yX12_where : MethodName := ⟨RX12, "where", "()I"⟩
abbrev cX12_isIsland : ByteArray := prog_14_method_41_code
def yX12_isIsland : MethodName := ⟨RX12, "isIsland", "(I)Z"⟩
abbrev cX12_isWhale : ByteArray := prog_14_method_42_code
def yX12_isWhale : MethodName := ⟨RX12, "isWhale", "(I)Z"⟩
abbrev cX12_isBox : ByteArray := prog_14_method_43_code
def yX12_isBox : MethodName := ⟨RX12, "isBox", "(I)Z"⟩
abbrev cX12_ofWhale : ByteArray := prog_14_method_44_code
def yX12_ofWhale : MethodName := ⟨RX12, "ofWhale", "(II)I"⟩
abbrev cX12_ofBox : ByteArray := prog_14_method_45_code
def yX12_ofBox : MethodName := ⟨RX12, "ofBox", "(II)I"⟩
abbrev cX12_songLong : ByteArray := prog_14_method_46_code
def yX12_songLong : MethodName := ⟨RX12, "songLong", "(I)I"⟩
abbrev cX12_boxLong : ByteArray := prog_14_method_47_code
def yX12_boxLong : MethodName := ⟨RX12, "boxLong", "(I)I"⟩
abbrev cX12_noteIn : ByteArray := prog_14_method_48_code
def yX12_noteIn : MethodName := ⟨RX12, "noteIn", "(III)I"⟩
abbrev cX12_whale : ByteArray := prog_14_method_49_code
def yX12_whale : MethodName := ⟨RX12, "whale", "(II)I"⟩
abbrev cX12_box : ByteArray := prog_14_method_50_code
def yX12_box : MethodName := ⟨RX12, "box", "(II)I"⟩
abbrev cX12_length : ByteArray := prog_14_method_51_code
def yX12_length : MethodName := ⟨RX12, "length", "(I)I"⟩
abbrev cX12_note : ByteArray := prog_14_method_52_code
def yX12_note : MethodName := ⟨RX12, "note", "(II)I"⟩
abbrev cX12_sung : ByteArray := prog_14_method_53_code
def yX12_sung : MethodName := ⟨RX12, "sung", "(II)I"⟩
abbrev cX12_unlike : ByteArray := prog_14_method_54_code
def yX12_unlike : MethodName := ⟨RX12, "unlike", "(IIIII)I"⟩
abbrev cX12_hearsIn : ByteArray := prog_14_method_55_code
def yX12_hearsIn : MethodName := ⟨RX12, "hearsIn", "(IIII)I"⟩
abbrev cX12_heardNow : ByteArray := prog_14_method_56_code
def yX12_heardNow : MethodName := ⟨RX12, "heardNow", "(I)I"⟩
abbrev cX12_heard : ByteArray := prog_14_method_57_code
def yX12_heard : MethodName := ⟨RX12, "heard", "(I)I"⟩
abbrev cX12_isClosed : ByteArray := prog_14_method_58_code
def yX12_isClosed : MethodName := ⟨RX12, "isClosed", "(I)Z"⟩
abbrev cX12_wayOf : ByteArray := prog_14_method_59_code
def yX12_wayOf : MethodName := ⟨RX12, "wayOf", "(II)I"⟩
abbrev cX12_way : ByteArray := prog_14_method_60_code
def yX12_way : MethodName := ⟨RX12, "way", "(II)I"⟩
abbrev cX12_nearOf : ByteArray := prog_14_method_61_code
def yX12_nearOf : MethodName := ⟨RX12, "nearOf", "(IZ)I"⟩
abbrev cX12_near : ByteArray := prog_14_method_62_code
def yX12_near : MethodName := ⟨RX12, "near", "(I)I"⟩
abbrev cX12_asNear : ByteArray := prog_14_method_63_code
def yX12_asNear : MethodName := ⟨RX12, "asNear", "(I)I"⟩
abbrev cX12_sent : ByteArray := prog_14_method_64_code
def yX12_sent : MethodName := ⟨RX12, "sent", "(I)I"⟩
abbrev cX12_apartOf : ByteArray := prog_14_method_65_code
def yX12_apartOf : MethodName := ⟨RX12, "apartOf", "(II)I"⟩
abbrev cX12_apart : ByteArray := prog_14_method_66_code
def yX12_apart : MethodName := ⟨RX12, "apart", "(II)I"⟩
abbrev cX12_bear : ByteArray := prog_14_method_67_code
def yX12_bear : MethodName := ⟨RX12, "bear", "()I"⟩
abbrev cX12_mixed : ByteArray := prog_14_method_68_code
def yX12_mixed : MethodName := ⟨RX12, "mixed", "()I"⟩
abbrev cX12_power : ByteArray := prog_14_method_69_code
def yX12_power : MethodName := ⟨RX12, "power", "(I)I"⟩
abbrev cX12_digitsApart : ByteArray := prog_14_method_70_code
def yX12_digitsApart : MethodName := ⟨RX12, "digitsApart", "(III)I"⟩
abbrev cX12_newSongs : ByteArray := prog_14_method_71_code
def yX12_newSongs : MethodName := ⟨RX12, "newSongs", "(IIZ)I"⟩
abbrev cX12_songWhy : ByteArray := prog_14_method_72_code
def yX12_songWhy : MethodName := ⟨RX12, "songWhy", "(II)I"⟩
abbrev cX12_fresh : ByteArray := prog_14_method_73_code
def yX12_fresh : MethodName := ⟨RX12, "fresh", "(II)I"⟩
abbrev cX12_byTurns : ByteArray := prog_14_method_74_code
def yX12_byTurns : MethodName := ⟨RX12, "byTurns", "(II)I"⟩
abbrev cX12_heardIn : ByteArray := prog_14_method_75_code
def yX12_heardIn : MethodName := ⟨RX12, "heardIn", "(II)I"⟩
abbrev cX12_hearsItself : ByteArray := prog_14_method_76_code
def yX12_hearsItself : MethodName := ⟨RX12, "hearsItself", "(II)Z"⟩
abbrev cX12_strange : ByteArray := prog_14_method_77_code
def yX12_strange : MethodName := ⟨RX12, "strange", "(I)I"⟩
abbrev cX12_dayBy : ByteArray := prog_14_method_78_code
def yX12_dayBy : MethodName := ⟨RX12, "dayBy", "(III)I"⟩
abbrev cX12_setsOut : ByteArray := prog_14_method_79_code
def yX12_setsOut : MethodName := ⟨RX12, "setsOut", "(III)I"⟩
abbrev cX12_seasonOf : ByteArray := prog_14_method_80_code
def yX12_seasonOf : MethodName := ⟨RX12, "seasonOf", "(I)I"⟩
abbrev cX12_season : ByteArray := prog_14_method_81_code
def yX12_season : MethodName := ⟨RX12, "season", "(I)I"⟩
abbrev cX12_sets : ByteArray := prog_14_method_82_code
def yX12_sets : MethodName := ⟨RX12, "sets", "(III)I"⟩
abbrev cX12_layDays : ByteArray := prog_14_method_83_code
def yX12_layDays : MethodName := ⟨RX12, "layDays", "(III)V"⟩
abbrev cX12_goesBy : ByteArray := prog_14_method_84_code
def yX12_goesBy : MethodName := ⟨RX12, "goesBy", "(III)V"⟩
abbrev cX12_arrivalOf : ByteArray := prog_14_method_85_code
def yX12_arrivalOf : MethodName := ⟨RX12, "arrivalOf", "(IIII)I"⟩
abbrev cX12_arrival : ByteArray := prog_14_method_86_code
def yX12_arrival : MethodName := ⟨RX12, "arrival", "(IIII)I"⟩
abbrev cX12_lays : ByteArray := prog_14_method_87_code
def yX12_lays : MethodName := ⟨RX12, "lays", "(II)Z"⟩
abbrev cX12_bringsOf : ByteArray := prog_14_method_88_code
def yX12_bringsOf : MethodName := ⟨RX12, "bringsOf", "(II)I"⟩
abbrev cX12_brings : ByteArray := prog_14_method_89_code
def yX12_brings : MethodName := ⟨RX12, "brings", "(II)I"⟩
abbrev cX12_soonest : ByteArray := prog_14_method_90_code
def yX12_soonest : MethodName := ⟨RX12, "soonest", "(I)I"⟩
abbrev cX12_surestBut : ByteArray := prog_14_method_91_code
def yX12_surestBut : MethodName := ⟨RX12, "surestBut", "(II)I"⟩
abbrev cX12_surest : ByteArray := prog_14_method_92_code
def yX12_surest : MethodName := ⟨RX12, "surest", "(I)I"⟩
abbrev cX12_by : ByteArray := prog_14_method_93_code
def yX12_by : MethodName := ⟨RX12, "by", "(II)I"⟩
abbrev cX12_lowest : ByteArray := prog_14_method_94_code
def yX12_lowest : MethodName := ⟨RX12, "lowest", "(JJZ)J"⟩
abbrev cX12_registered : ByteArray := prog_14_method_95_code
def yX12_registered : MethodName := ⟨RX12, "registered", "(IZ)J"⟩
abbrev cX12_tryMatch : ByteArray := prog_14_method_96_code
def yX12_tryMatch : MethodName := ⟨RX12, "tryMatch", "(IIII)V"⟩
abbrev cX12_seekMatch : ByteArray := prog_14_method_97_code
def yX12_seekMatch : MethodName := ⟨RX12, "seekMatch", "()V"⟩
abbrev cX12_match : ByteArray := prog_14_method_98_code
def yX12_match : MethodName := ⟨RX12, "match", "()I"⟩
abbrev cX12_matchDays : ByteArray := prog_14_method_99_code
def yX12_matchDays : MethodName := ⟨RX12, "matchDays", "()I"⟩
abbrev cX12_matchOf : ByteArray := prog_14_method_100_code
def yX12_matchOf : MethodName := ⟨RX12, "matchOf", "(I)I"⟩
abbrev cX12_meet : ByteArray := prog_14_method_101_code
def yX12_meet : MethodName := ⟨RX12, "meet", "(IIII)I"⟩
abbrev cX12_fitsAll : ByteArray := prog_14_method_102_code
def yX12_fitsAll : MethodName := ⟨RX12, "fitsAll", "(I)Z"⟩
abbrev cX12_fits : ByteArray := prog_14_method_103_code
def yX12_fits : MethodName := ⟨RX12, "fits", "()I"⟩
abbrev cX12_reachOf : ByteArray := prog_14_method_104_code
def yX12_reachOf : MethodName := ⟨RX12, "reachOf", "(II)I"⟩
abbrev cX12_reach : ByteArray := prog_14_method_105_code
def yX12_reach : MethodName := ⟨RX12, "reach", "(II)I"⟩
abbrev cX12_pier : ByteArray := prog_14_method_106_code
def yX12_pier : MethodName := ⟨RX12, "pier", "(I)I"⟩
abbrev cX12_doLead : ByteArray := prog_14_method_107_code
def yX12_doLead : MethodName := ⟨RX12, "doLead", "(III)Z"⟩
abbrev cX12_watch : ByteArray := prog_14_method_108_code
def yX12_watch : MethodName := ⟨RX12, "watch", "(II)I"⟩
abbrev cX12_layFar : ByteArray := prog_14_method_109_code
def yX12_layFar : MethodName := ⟨RX12, "layFar", "()V"⟩
abbrev cX12_tryRound : ByteArray := prog_14_method_110_code
def yX12_tryRound : MethodName := ⟨RX12, "tryRound", "(III)V"⟩
abbrev cX12_seekRound : ByteArray := prog_14_method_111_code
def yX12_seekRound : MethodName := ⟨RX12, "seekRound", "(I)I"⟩
abbrev cX12_round : ByteArray := prog_14_method_112_code
def yX12_round : MethodName := ⟨RX12, "round", "(I)I"⟩
abbrev cX12_roundAt : ByteArray := prog_14_method_113_code
def yX12_roundAt : MethodName := ⟨RX12, "roundAt", "(II)I"⟩
abbrev cX12_decade : ByteArray := prog_14_method_114_code
def yX12_decade : MethodName := ⟨RX12, "decade", "(II)I"⟩
abbrev cX12_note1 : ByteArray := prog_14_method_115_code
def yX12_note1 : MethodName := ⟨RX12, "note1", "()V"⟩
abbrev cX12_send : ByteArray := prog_14_method_116_code
def yX12_send : MethodName := ⟨RX12, "send", "(II)I"⟩
abbrev cX12_tune : ByteArray := prog_14_method_117_code
def yX12_tune : MethodName := ⟨RX12, "tune", "(III)Z"⟩
abbrev cX12_years : ByteArray := prog_14_method_118_code
def yX12_years : MethodName := ⟨RX12, "years", "(I)I"⟩
abbrev cX12_close : ByteArray := prog_14_method_119_code
def yX12_close : MethodName := ⟨RX12, "close", "(IZ)Z"⟩
abbrev cX12_undo : ByteArray := prog_14_method_120_code
def yX12_undo : MethodName := ⟨RX12, "undo", "()Z"⟩
abbrev cX12_image : ByteArray := prog_14_method_121_code
def yX12_image : MethodName := ⟨RX12, "image", "()I"⟩
abbrev cX12_back : ByteArray := prog_14_method_122_code
def yX12_back : MethodName := ⟨RX12, "back", "(I)Z"⟩
abbrev cX12_led : ByteArray := prog_14_method_123_code
def yX12_led : MethodName := ⟨RX12, "led", "(I)I"⟩
abbrev cX12_size : ByteArray := prog_14_method_124_code
def yX12_size : MethodName := ⟨RX12, "size", "(I)I"⟩
abbrev cX12_trouble : ByteArray := prog_14_method_125_code
def yX12_trouble : MethodName := ⟨RX12, "trouble", "()I"⟩
def RJ6 : String := "java/lang/Integer"
def TJ6 : u_T := fun k => match k with
  | _ => ("", "", "", false)
def tyJ6 : Nat → FieldType := fun k => match k with
  | _ => .int
theorem nmJ6 : ∀ a, a < 0 → ∀ b, b < 0 → a ≠ b → (TJ6 a).2.1 ≠ (TJ6 b).2.1 := by decide +kernel
theorem tyJ6_ok : ∀ k, k < 0 → parseFieldDescriptor (TJ6 k).2.2.1 = some (tyJ6 k) := by decide +kernel
abbrev cJ6_bitCount_0f7a4 : ByteArray := prog_19_method_49_code
def yJ6_bitCount_0f7a4 : MethodName := ⟨RJ6, "bitCount", "(I)I"⟩
def RJ0 : String := "java/lang/String"
def TJ0 : u_T := fun k => match k with
  | _ => ("", "", "", false)
def tyJ0 : Nat → FieldType := fun k => match k with
  | _ => .int
theorem nmJ0 : ∀ a, a < 0 → ∀ b, b < 0 → a ≠ b → (TJ0 a).2.1 ≠ (TJ0 b).2.1 := by decide +kernel
theorem tyJ0_ok : ∀ k, k < 0 → parseFieldDescriptor (TJ0 k).2.2.1 = some (tyJ0 k) := by decide +kernel
abbrev cJ0_length_8abf5 : ByteArray := prog_22_method_54_code
def yJ0_length_8abf5 : MethodName := ⟨RJ0, "length", "()I"⟩
abbrev cJ0_charAt_5068e : ByteArray := prog_22_method_56_code
def yJ0_charAt_5068e : MethodName := ⟨RJ0, "charAt", "(I)C"⟩
abbrev cJ0_coder_7d493 : ByteArray := prog_22_method_152_code
def yJ0_coder_7d493 : MethodName := ⟨RJ0, "coder", "()B"⟩
abbrev cJ0_isLatin1_aae02 : ByteArray := prog_22_method_154_code
def yJ0_isLatin1_aae02 : MethodName := ⟨RJ0, "isLatin1", "()Z"⟩
abbrev cJ0_checkIndex_df160 : ByteArray := prog_22_method_155_code
def yJ0_checkIndex_df160 : MethodName := ⟨RJ0, "checkIndex", "(II)V"⟩
def RJ1 : String := "java/lang/StringLatin1"
def TJ1 : u_T := fun k => match k with
  | _ => ("", "", "", false)
def tyJ1 : Nat → FieldType := fun k => match k with
  | _ => .int
theorem nmJ1 : ∀ a, a < 0 → ∀ b, b < 0 → a ≠ b → (TJ1 a).2.1 ≠ (TJ1 b).2.1 := by decide +kernel
theorem tyJ1_ok : ∀ k, k < 0 → parseFieldDescriptor (TJ1 k).2.2.1 = some (tyJ1 k) := by decide +kernel
abbrev cJ1_charAt_3b067 : ByteArray := prog_23_method_2_code
def yJ1_charAt_3b067 : MethodName := ⟨RJ1, "charAt", "([BI)C"⟩
def RJ7 : String := "java/util/Arrays"
def TJ7 : u_T := fun k => match k with
  | _ => ("", "", "", false)
def tyJ7 : Nat → FieldType := fun k => match k with
  | _ => .int
theorem nmJ7 : ∀ a, a < 0 → ∀ b, b < 0 → a ≠ b → (TJ7 a).2.1 ≠ (TJ7 b).2.1 := by decide +kernel
theorem tyJ7_ok : ∀ k, k < 0 → parseFieldDescriptor (TJ7 k).2.2.1 = some (tyJ7 k) := by decide +kernel
abbrev cJ7_fill_53178 : ByteArray := prog_29_method_103_code
def yJ7_fill_53178 : MethodName := ⟨RJ7, "fill", "([II)V"⟩
def RJ3 : String := "jdk/internal/util/Preconditions"
def TJ3 : u_T := fun k => match k with
  | _ => ("", "", "", false)
def tyJ3 : Nat → FieldType := fun k => match k with
  | _ => .int
theorem nmJ3 : ∀ a, a < 0 → ∀ b, b < 0 → a ≠ b → (TJ3 a).2.1 ≠ (TJ3 b).2.1 := by decide +kernel
theorem tyJ3_ok : ∀ k, k < 0 → parseFieldDescriptor (TJ3 k).2.2.1 = some (tyJ3 k) := by decide +kernel
abbrev cJ3_checkIndex_8e157 : ByteArray := prog_31_method_11_code
def yJ3_checkIndex_8e157 : MethodName := ⟨RJ3, "checkIndex", "(IILjava/util/function/BiFunction;)I"⟩
def RL : String := "WhalePostLaw"
abbrev cL_led : ByteArray := method_3_code
def yL_led : MethodName := ⟨RL, "led", "(LWhalePost;I[J)I"⟩
abbrev cL_law : ByteArray := code
def yL_law : MethodName := ⟨RL, "law", "([I)Z"⟩
abbrev vwCl : List vw_C := [(RX0, TX0, 4), (RX1, TX1, 5), (RX2, TX2, 7), (RX3, TX3, 4), (RX4, TX4, 15), (RX5, TX5, 13), (RX6, TX6, 7), (RX7, TX7, 6), (RX8, TX8, 3), (RX9, TX9, 4), (RX10, TX10, 4), (RX11, TX11, 16), (RX12, TX12, 39)]
end Pk1
section Pk2
/-! the small machine's tables, by program out of the printed names -/
abbrev zV : Type := Int32 ⊕ Int64 ⊕ Option Nat
abbrev zM : Type := ByteArray × Nat × Nat × Option FieldType × MethodName × Bool
def zRn (o : Nat) : String := match o with
  | 0 => RX0
  | 1 => RX1
  | 2 => RX2
  | 3 => RX3
  | 4 => RX4
  | 5 => RX5
  | 6 => RX6
  | 7 => RX7
  | 8 => RX8
  | 9 => RX9
  | 10 => RX10
  | 11 => RX11
  | 12 => RX12
  | 13 => RL
  | 14 => RJ0
  | 15 => RJ1
  | 16 => RJ6
  | 17 => RJ7
  | _ => RJ3
def zTT (c : Nat) : u_T := match c with
  | 0 => TX0
  | 1 => TX1
  | 2 => TX2
  | 3 => TX3
  | 4 => TX4
  | 5 => TX5
  | 6 => TX6
  | 7 => TX7
  | 8 => TX8
  | 9 => TX9
  | 10 => TX10
  | 11 => TX11
  | _ => TX12
def zty (c : Nat) : Nat → FieldType := match c with
  | 0 => tyX0
  | 1 => tyX1
  | 2 => tyX2
  | 3 => tyX3
  | 4 => tyX4
  | 5 => tyX5
  | 6 => tyX6
  | 7 => tyX7
  | 8 => tyX8
  | 9 => tyX9
  | 10 => tyX10
  | 11 => tyX11
  | _ => tyX12
/-- the sorts of a class's fields: 0 int, 1 boolean, 3 reference -/
def zft (c : Nat) : List Nat := match c with
  | 0 => [0, 0, 0, 0]
  | 1 => [3, 3, 0, 0, 3]
  | 2 => [0, 0, 3, 3, 3, 3, 3]
  | 3 => [3, 3, 3, 3]
  | 4 => [0, 0, 0, 0, 0, 0, 0, 0, 0, 3, 3, 3, 3, 3, 3]
  | 5 => [3, 0, 0, 0, 0, 0, 3, 3, 3, 3, 0, 0, 0]
  | 6 => [3, 3, 3, 3, 0, 0, 0]
  | 7 => [3, 0, 0, 0, 0, 3]
  | 8 => [0, 0, 0]
  | 9 => [0, 0, 0, 0]
  | 10 => [0, 0, 0, 0]
  | 11 => [3, 0, 0, 3, 3, 3, 3, 3, 3, 3, 3, 3, 0, 0, 3, 0]
  | 12 => [0, 3, 0, 0, 0, 0, 0, 0, 0, 0, 0, 0, 3, 1, 1, 3, 3, 3, 3, 3, 0, 0, 3, 0, 3, 3, 0, 0, 3, 3, 3, 0, 0, 0, 0, 3, 3, 3, 0]
  | _ => []
def zfin (c f : Nat) : Bool := (zTT c f).2.2.2
def zrc (k : Nat) : Nat := match k with
  | 16 => 0
  | 17 => 2
  | 18 => 8
  | 19 => 9
  | 20 => 10
  | _ => 99
def zak (c : Nat) : Nat := match c with
  | 0 => 16
  | 2 => 17
  | 8 => 18
  | 9 => 19
  | 10 => 20
  | _ => 0
abbrev mX0_init : zM := (cX0_init, 0, 1, none, yX0_init, true)
abbrev mX1_init : zM := (cX1_init, 1, 1, none, yX1_init, true)
abbrev mX1_solve : zM := (cX1_solve, 1, 7, none, yX1_solve, false)
abbrev mX1_worth : zM := (cX1_worth, 1, 5, (some .int), yX1_worth, false)
abbrev mX1_choose : zM := (cX1_choose, 1, 6, none, yX1_choose, false)
abbrev mX1_firstBest : zM := (cX1_firstBest, 1, 5, (some .int), yX1_firstBest, false)
abbrev mX2_init : zM := (cX2_init, 2, 1, none, yX2_init, true)
abbrev mX2_begin : zM := (cX2_begin, 2, 3, none, yX2_begin, false)
abbrev mX2_copyFrom : zM := (cX2_copyFrom, 2, 2, none, yX2_copyFrom, false)
abbrev mX2_isClosed : zM := (cX2_isClosed, 2, 2, (some .boolean), yX2_isClosed, false)
abbrev mX2_isSent : zM := (cX2_isSent, 2, 2, (some .boolean), yX2_isSent, false)
abbrev mX3_init : zM := (cX3_init, 3, 2, none, yX3_init, true)
abbrev mX3_fewestToWatch : zM := (cX3_fewestToWatch, 3, 9, (some .int), yX3_fewestToWatch, false)
abbrev mX3_waysOutOf : zM := (cX3_waysOutOf, 3, 4, (some .int), yX3_waysOutOf, false)
abbrev mX3_findRound : zM := (cX3_findRound, 3, 6, (some .int), yX3_findRound, false)
abbrev mX3_findShortest : zM := (cX3_findShortest, 3, 6, none, yX3_findShortest, false)
abbrev mX3_findRests : zM := (cX3_findRests, 3, 6, none, yX3_findRests, false)
abbrev mX3_daysOver : zM := (cX3_daysOver, 3, 4, (some .int), yX3_daysOver, false)
abbrev mX3_nextOf : zM := (cX3_nextOf, 3, 4, (some .int), yX3_nextOf, false)
abbrev mX4_init : zM := (cX4_init, 4, 2, none, yX4_init, true)
abbrev mX4_clear : zM := (cX4_clear, 4, 1, none, yX4_clear, false)
abbrev mX4_boxLength : zM := (cX4_boxLength, 4, 2, (some .int), yX4_boxLength, false)
abbrev mX4_wayBetween : zM := (cX4_wayBetween, 4, 5, (some .int), yX4_wayBetween, false)
abbrev mX4_hasSong : zM := (cX4_hasSong, 4, 4, (some .boolean), yX4_hasSong, false)
abbrev mX4_lastSpoutOf : zM := (cX4_lastSpoutOf, 4, 3, (some .int), yX4_lastSpoutOf, false)
abbrev mX5_init : zM := (cX5_init, 5, 3, none, yX5_init, true)
abbrev mX5_readPost : zM := (cX5_readPost, 5, 4, (some .boolean), yX5_readPost, false)
abbrev mX5_faulty : zM := (cX5_faulty, 5, 2, (some .boolean), yX5_faulty, false)
abbrev mX5_readLine : zM := (cX5_readLine, 5, 3, (some .boolean), yX5_readLine, false)
abbrev mX5_readHead : zM := (cX5_readHead, 5, 1, (some .boolean), yX5_readHead, false)
abbrev mX5_readIsland : zM := (cX5_readIsland, 5, 3, (some .boolean), yX5_readIsland, false)
abbrev mX5_readWay : zM := (cX5_readWay, 5, 2, (some .boolean), yX5_readWay, false)
abbrev mX5_readWhale : zM := (cX5_readWhale, 5, 2, (some .boolean), yX5_readWhale, false)
abbrev mX5_readBox : zM := (cX5_readBox, 5, 2, (some .boolean), yX5_readBox, false)
abbrev mX5_readSpout : zM := (cX5_readSpout, 5, 4, (some .boolean), yX5_readSpout, false)
abbrev mX5_word : zM := (cX5_word, 5, 2, (some .boolean), yX5_word, false)
abbrev mX5_whole : zM := (cX5_whole, 5, 4, (some .boolean), yX5_whole, false)
abbrev mX5_newName : zM := (cX5_newName, 5, 3, (some .boolean), yX5_newName, false)
abbrev mX5_toldName : zM := (cX5_toldName, 5, 3, (some .boolean), yX5_toldName, false)
abbrev mX5_nameOfToken : zM := (cX5_nameOfToken, 5, 4, (some .int), yX5_nameOfToken, false)
abbrev mX5_letters : zM := (cX5_letters, 5, 4, (some .long), yX5_letters, false)
abbrev mX5_songOfToken : zM := (cX5_songOfToken, 5, 5, (some .int), yX5_songOfToken, false)
abbrev mX5_kindOfToken : zM := (cX5_kindOfToken, 5, 1, (some .int), yX5_kindOfToken, false)
abbrev mX5_sortOfLine : zM := (cX5_sortOfLine, 5, 1, (some .int), yX5_sortOfLine, false)
abbrev mX5_isToken : zM := (cX5_isToken, 5, 3, (some .boolean), yX5_isToken, false)
abbrev mX5_nextToken : zM := (cX5_nextToken, 5, 1, none, yX5_nextToken, false)
abbrev mX5_passAll : zM := (cX5_passAll, 5, 3, (some .boolean), yX5_passAll, false)
abbrev mX6_init : zM := (cX6_init, 6, 4, none, yX6_init, true)
abbrev mX6_dayOfLeaving : zM := (cX6_dayOfLeaving, 6, 6, (some .int), yX6_dayOfLeaving, false)
abbrev mX6_findFirstDays : zM := (cX6_findFirstDays, 6, 10, none, yX6_findFirstDays, false)
abbrev mX6_goes : zM := (cX6_goes, 6, 7, (some .boolean), yX6_goes, false)
abbrev mX6_firstDayAt : zM := (cX6_firstDayAt, 6, 5, (some .int), yX6_firstDayAt, false)
abbrev mX6_dayOfBringing : zM := (cX6_dayOfBringing, 6, 6, (some .int), yX6_dayOfBringing, false)
abbrev mX6_soonestBringer : zM := (cX6_soonestBringer, 6, 6, (some .int), yX6_soonestBringer, false)
abbrev mX6_surestBringer : zM := (cX6_surestBringer, 6, 6, (some .int), yX6_surestBringer, false)
abbrev mX6_bringersBy : zM := (cX6_bringersBy, 6, 6, (some .int), yX6_bringersBy, false)
abbrev mX6_dayOfMeeting : zM := (cX6_dayOfMeeting, 6, 8, (some .int), yX6_dayOfMeeting, false)
abbrev mX6_fittingWhales : zM := (cX6_fittingWhales, 6, 3, (some .int), yX6_fittingWhales, false)
abbrev mX6_isFitting : zM := (cX6_isFitting, 6, 6, (some .boolean), yX6_isFitting, false)
abbrev mX6_islandsReached : zM := (cX6_islandsReached, 6, 7, (some .int), yX6_islandsReached, false)
abbrev mX6_bestPier : zM := (cX6_bestPier, 6, 7, (some .int), yX6_bestPier, false)
abbrev mX6_whalesReaching : zM := (cX6_whalesReaching, 6, 5, (some .int), yX6_whalesReaching, false)
abbrev mX7_init : zM := (cX7_init, 7, 2, none, yX7_init, true)
abbrev mX7_fallIn : zM := (cX7_fallIn, 7, 2, (some .int), yX7_fallIn, false)
abbrev mX7_raised : zM := (cX7_raised, 7, 6, (some .int), yX7_raised, false)
abbrev mX7_songIn : zM := (cX7_songIn, 7, 3, (some .int), yX7_songIn, false)
abbrev mX7_hearerOf : zM := (cX7_hearerOf, 7, 8, (some .int), yX7_hearerOf, false)
abbrev mX7_apartness : zM := (cX7_apartness, 7, 3, (some .int), yX7_apartness, false)
abbrev mX7_bearable : zM := (cX7_bearable, 7, 5, (some .int), yX7_bearable, false)
abbrev mX7_mixedPairs : zM := (cX7_mixedPairs, 7, 5, (some .int), yX7_mixedPairs, false)
abbrev mX7_findNew : zM := (cX7_findNew, 7, 9, (some .int), yX7_findNew, false)
abbrev mX7_keepSongsOf : zM := (cX7_keepSongsOf, 7, 5, (some .int), yX7_keepSongsOf, false)
abbrev mX7_isOfNotes : zM := (cX7_isOfNotes, 7, 4, (some .boolean), yX7_isOfNotes, false)
abbrev mX7_isFarFromKept : zM := (cX7_isFarFromKept, 7, 5, (some .boolean), yX7_isFarFromKept, false)
abbrev mX7_draw : zM := (cX7_draw, 7, 1, (some .int), yX7_draw, false)
abbrev mX7_slipped : zM := (cX7_slipped, 7, 4, (some .int), yX7_slipped, false)
abbrev mX8_init : zM := (cX8_init, 8, 1, none, yX8_init, true)
abbrev mX9_init : zM := (cX9_init, 9, 1, none, yX9_init, true)
abbrev mX10_init : zM := (cX10_init, 10, 1, none, yX10_init, true)
abbrev mX11_init : zM := (cX11_init, 11, 2, none, yX11_init, true)
abbrev mX11_feed : zM := (cX11_feed, 11, 6, (some .int), yX11_feed, false)
abbrev mX11_post : zM := (cX11_post, 11, 2, (some .int), yX11_post, false)
abbrev mX11_fault : zM := (cX11_fault, 11, 1, (some .int), yX11_fault, false)
abbrev mX11_where : zM := (cX11_where, 11, 1, (some .int), yX11_where, false)
abbrev mX11_whale : zM := (cX11_whale, 11, 3, (some .int), yX11_whale, false)
abbrev mX11_box : zM := (cX11_box, 11, 3, (some .int), yX11_box, false)
abbrev mX11_length : zM := (cX11_length, 11, 2, (some .int), yX11_length, false)
abbrev mX11_note : zM := (cX11_note, 11, 3, (some .int), yX11_note, false)
abbrev mX11_sung : zM := (cX11_sung, 11, 3, (some .int), yX11_sung, false)
abbrev mX11_heard : zM := (cX11_heard, 11, 2, (some .int), yX11_heard, false)
abbrev mX11_way : zM := (cX11_way, 11, 4, (some .int), yX11_way, false)
abbrev mX11_season : zM := (cX11_season, 11, 2, (some .int), yX11_season, false)
abbrev mX11_sets : zM := (cX11_sets, 11, 4, (some .int), yX11_sets, false)
abbrev mX11_sent : zM := (cX11_sent, 11, 4, (some .int), yX11_sent, false)
abbrev mX11_apart : zM := (cX11_apart, 11, 3, (some .int), yX11_apart, false)
abbrev mX11_bear : zM := (cX11_bear, 11, 1, (some .int), yX11_bear, false)
abbrev mX11_mixed : zM := (cX11_mixed, 11, 1, (some .int), yX11_mixed, false)
abbrev mX11_fresh : zM := (cX11_fresh, 11, 4, (some .int), yX11_fresh, false)
abbrev mX11_byTurns : zM := (cX11_byTurns, 11, 4, (some .int), yX11_byTurns, false)
abbrev mX11_near : zM := (cX11_near, 11, 2, (some .int), yX11_near, false)
abbrev mX11_asNear : zM := (cX11_asNear, 11, 2, (some .int), yX11_asNear, false)
abbrev mX11_heardIn : zM := (cX11_heardIn, 11, 3, (some .int), yX11_heardIn, false)
abbrev mX11_strange : zM := (cX11_strange, 11, 3, (some .int), yX11_strange, false)
abbrev mX11_arrival : zM := (cX11_arrival, 11, 5, (some .int), yX11_arrival, false)
abbrev mX11_brings : zM := (cX11_brings, 11, 3, (some .int), yX11_brings, false)
abbrev mX11_soonest : zM := (cX11_soonest, 11, 2, (some .int), yX11_soonest, false)
abbrev mX11_surest : zM := (cX11_surest, 11, 2, (some .int), yX11_surest, false)
abbrev mX11_by : zM := (cX11_by, 11, 3, (some .int), yX11_by, false)
abbrev mX11_registered : zM := (cX11_registered, 11, 8, (some .long), yX11_registered, false)
abbrev mX11_match : zM := (cX11_match, 11, 1, (some .int), yX11_match, false)
abbrev mX11_matchDays : zM := (cX11_matchDays, 11, 1, (some .int), yX11_matchDays, false)
abbrev mX11_matchOf : zM := (cX11_matchOf, 11, 2, (some .int), yX11_matchOf, false)
abbrev mX11_meet : zM := (cX11_meet, 11, 5, (some .int), yX11_meet, false)
abbrev mX11_fits : zM := (cX11_fits, 11, 1, (some .int), yX11_fits, false)
abbrev mX11_reach : zM := (cX11_reach, 11, 3, (some .int), yX11_reach, false)
abbrev mX11_pier : zM := (cX11_pier, 11, 2, (some .int), yX11_pier, false)
abbrev mX11_watch : zM := (cX11_watch, 11, 3, (some .int), yX11_watch, false)
abbrev mX11_round : zM := (cX11_round, 11, 2, (some .int), yX11_round, false)
abbrev mX11_roundAt : zM := (cX11_roundAt, 11, 3, (some .int), yX11_roundAt, false)
abbrev mX11_decade : zM := (cX11_decade, 11, 5, (some .int), yX11_decade, false)
abbrev mX11_send : zM := (cX11_send, 11, 4, (some .int), yX11_send, false)
abbrev mX11_tune : zM := (cX11_tune, 11, 5, (some .boolean), yX11_tune, false)
abbrev mX11_years : zM := (cX11_years, 11, 2, (some .int), yX11_years, false)
abbrev mX11_close : zM := (cX11_close, 11, 3, (some .boolean), yX11_close, false)
abbrev mX11_undo : zM := (cX11_undo, 11, 1, (some .boolean), yX11_undo, false)
abbrev mX11_image : zM := (cX11_image, 11, 1, (some .int), yX11_image, false)
abbrev mX11_back : zM := (cX11_back, 11, 2, (some .boolean), yX11_back, false)
abbrev mX11_led : zM := (cX11_led, 11, 4, (some .int), yX11_led, false)
abbrev mX11_size : zM := (cX11_size, 11, 2, (some .int), yX11_size, false)
abbrev mX11_trouble : zM := (cX11_trouble, 11, 1, (some .int), yX11_trouble, false)
abbrev mX11_granted : zM := (cX11_granted, 11, 2, (some .int), yX11_granted, false)
abbrev mX11_refused : zM := (cX11_refused, 11, 2, (some .int), yX11_refused, false)
abbrev mX11_hasGranted : zM := (cX11_hasGranted, 11, 1, (some .boolean), yX11_hasGranted, false)
abbrev mX11_hasRefused : zM := (cX11_hasRefused, 11, 2, (some .boolean), yX11_hasRefused, false)
abbrev mX11_hasPost : zM := (cX11_hasPost, 11, 1, (some .boolean), yX11_hasPost, false)
abbrev mX11_isIsland : zM := (cX11_isIsland, 11, 2, (some .boolean), yX11_isIsland, false)
abbrev mX11_areTwoIslands : zM := (cX11_areTwoIslands, 11, 3, (some .boolean), yX11_areTwoIslands, false)
abbrev mX11_isWay : zM := (cX11_isWay, 11, 2, (some .boolean), yX11_isWay, false)
abbrev mX11_isWhale : zM := (cX11_isWhale, 11, 2, (some .boolean), yX11_isWhale, false)
abbrev mX11_isBox : zM := (cX11_isBox, 11, 2, (some .boolean), yX11_isBox, false)
abbrev mX11_isNoteOfBox : zM := (cX11_isNoteOfBox, 11, 3, (some .boolean), yX11_isNoteOfBox, false)
abbrev mX11_isWithin : zM := (cX11_isWithin, 11, 2, (some .boolean), yX11_isWithin, false)
abbrev mX11_refusalOfNewSong : zM := (cX11_refusalOfNewSong, 11, 4, (some .int), yX11_refusalOfNewSong, false)
abbrev mX11_appendBytes : zM := (cX11_appendBytes, 11, 3, none, yX11_appendBytes, false)
abbrev mX11_takeDraft : zM := (cX11_takeDraft, 11, 2, none, yX11_takeDraft, false)
abbrev mX11_keepForUndo : zM := (cX11_keepForUndo, 11, 1, none, yX11_keepForUndo, false)
abbrev mX11_hearerIn : zM := (cX11_hearerIn, 11, 3, (some .int), yX11_hearerIn, false)
abbrev mX11_sentPart : zM := (cX11_sentPart, 11, 3, (some .int), yX11_sentPart, false)
abbrev mX11_heardWithSlips : zM := (cX11_heardWithSlips, 11, 6, (some .int), yX11_heardWithSlips, false)
abbrev mX11_solveMatch : zM := (cX11_solveMatch, 11, 3, none, yX11_solveMatch, false)
abbrev mX11_commonDivisor : zM := (cX11_commonDivisor, 11, 6, (some .int), yX11_commonDivisor, false)
abbrev mX11_noteAt : zM := (cX11_noteAt, 11, 3, (some .int), yX11_noteAt, false)
abbrev mX11_withNote : zM := (cX11_withNote, 11, 5, (some .int), yX11_withNote, false)
abbrev mX11_unlikeNotes : zM := (cX11_unlikeNotes, 11, 3, (some .int), yX11_unlikeNotes, false)
abbrev mX12_init : zM := (cX12_init, 12, 1, none, yX12_init, true)
abbrev mX12_good : zM := (cX12_good, 12, 1, none, yX12_good, false)
abbrev mX12_no : zM := (cX12_no, 12, 2, (some .int), yX12_no, false)
abbrev mX12_isNot : zM := (cX12_isNot, 12, 2, (some .boolean), yX12_isNot, false)
abbrev mX12_in : zM := (cX12_in, 12, 3, (some .boolean), yX12_in, false)
abbrev mX12_hasBit : zM := (cX12_hasBit, 12, 2, (some .boolean), yX12_hasBit, false)
abbrev mX12_ones : zM := (cX12_ones, 12, 3, (some .int), yX12_ones, false)
abbrev mX12_copy : zM := (cX12_copy, 12, 6, none, yX12_copy, false)
abbrev mX12_later : zM := (cX12_later, 12, 2, (some .int), yX12_later, false)
abbrev mX12_feed : zM := (cX12_feed, 12, 8, (some .int), yX12_feed, false)
abbrev mX12_look : zM := (cX12_look, 12, 2, (some .int), yX12_look, false)
abbrev mX12_isSmall : zM := (cX12_isSmall, 12, 1, (some .boolean), yX12_isSmall, false)
abbrev mX12_isDigit : zM := (cX12_isDigit, 12, 1, (some .boolean), yX12_isDigit, false)
abbrev mX12_next : zM := (cX12_next, 12, 4, none, yX12_next, false)
abbrev mX12_wrong : zM := (cX12_wrong, 12, 3, none, yX12_wrong, false)
abbrev mX12_isWord : zM := (cX12_isWord, 12, 4, (some .boolean), yX12_isWord, false)
abbrev mX12_takesWord : zM := (cX12_takesWord, 12, 2, (some .boolean), yX12_takesWord, false)
abbrev mX12_must : zM := (cX12_must, 12, 2, none, yX12_must, false)
abbrev mX12_mustName : zM := (cX12_mustName, 12, 1, none, yX12_mustName, false)
abbrev mX12_find : zM := (cX12_find, 12, 4, (some .int), yX12_find, false)
abbrev mX12_newName : zM := (cX12_newName, 12, 3, none, yX12_newName, false)
abbrev mX12_named : zM := (cX12_named, 12, 4, (some .int), yX12_named, false)
abbrev mX12_islandPassed : zM := (cX12_islandPassed, 12, 2, (some .int), yX12_islandPassed, false)
abbrev mX12_islandBehind : zM := (cX12_islandBehind, 12, 2, (some .int), yX12_islandBehind, false)
abbrev mX12_number : zM := (cX12_number, 12, 4, (some .int), yX12_number, false)
abbrev mX12_after : zM := (cX12_after, 12, 4, (some .int), yX12_after, false)
abbrev mX12_post : zM := (cX12_post, 12, 3, (some .int), yX12_post, false)
abbrev mX12_begins : zM := (cX12_begins, 12, 3, (some .boolean), yX12_begins, false)
abbrev mX12_readLine : zM := (cX12_readLine, 12, 1, none, yX12_readLine, false)
abbrev mX12_postLine : zM := (cX12_postLine, 12, 1, none, yX12_postLine, false)
abbrev mX12_islandLine : zM := (cX12_islandLine, 12, 6, none, yX12_islandLine, false)
abbrev mX12_isSong : zM := (cX12_isSong, 12, 5, (some .boolean), yX12_isSong, false)
abbrev mX12_wayLine : zM := (cX12_wayLine, 12, 6, none, yX12_wayLine, false)
abbrev mX12_joins : zM := (cX12_joins, 12, 6, (some .boolean), yX12_joins, false)
abbrev mX12_whaleLine : zM := (cX12_whaleLine, 12, 3, none, yX12_whaleLine, false)
abbrev mX12_boxLine : zM := (cX12_boxLine, 12, 2, none, yX12_boxLine, false)
abbrev mX12_spoutLine : zM := (cX12_spoutLine, 12, 6, none, yX12_spoutLine, false)
abbrev mX12_fault : zM := (cX12_fault, 12, 1, (some .int), yX12_fault, false)
abbrev mX12_where : zM := (cX12_where, 12, 1, (some .int), yX12_where, false)
abbrev mX12_isIsland : zM := (cX12_isIsland, 12, 2, (some .boolean), yX12_isIsland, false)
abbrev mX12_isWhale : zM := (cX12_isWhale, 12, 2, (some .boolean), yX12_isWhale, false)
abbrev mX12_isBox : zM := (cX12_isBox, 12, 2, (some .boolean), yX12_isBox, false)
abbrev mX12_ofWhale : zM := (cX12_ofWhale, 12, 3, (some .int), yX12_ofWhale, false)
abbrev mX12_ofBox : zM := (cX12_ofBox, 12, 3, (some .int), yX12_ofBox, false)
abbrev mX12_songLong : zM := (cX12_songLong, 12, 2, (some .int), yX12_songLong, false)
abbrev mX12_boxLong : zM := (cX12_boxLong, 12, 2, (some .int), yX12_boxLong, false)
abbrev mX12_noteIn : zM := (cX12_noteIn, 12, 5, (some .int), yX12_noteIn, false)
abbrev mX12_whale : zM := (cX12_whale, 12, 3, (some .int), yX12_whale, false)
abbrev mX12_box : zM := (cX12_box, 12, 4, (some .int), yX12_box, false)
abbrev mX12_length : zM := (cX12_length, 12, 2, (some .int), yX12_length, false)
abbrev mX12_note : zM := (cX12_note, 12, 3, (some .int), yX12_note, false)
abbrev mX12_sung : zM := (cX12_sung, 12, 3, (some .int), yX12_sung, false)
abbrev mX12_unlike : zM := (cX12_unlike, 12, 8, (some .int), yX12_unlike, false)
abbrev mX12_hearsIn : zM := (cX12_hearsIn, 12, 9, (some .int), yX12_hearsIn, false)
abbrev mX12_heardNow : zM := (cX12_heardNow, 12, 2, (some .int), yX12_heardNow, false)
abbrev mX12_heard : zM := (cX12_heard, 12, 2, (some .int), yX12_heard, false)
abbrev mX12_isClosed : zM := (cX12_isClosed, 12, 2, (some .boolean), yX12_isClosed, false)
abbrev mX12_wayOf : zM := (cX12_wayOf, 12, 4, (some .int), yX12_wayOf, false)
abbrev mX12_way : zM := (cX12_way, 12, 4, (some .int), yX12_way, false)
abbrev mX12_nearOf : zM := (cX12_nearOf, 12, 7, (some .int), yX12_nearOf, false)
abbrev mX12_near : zM := (cX12_near, 12, 2, (some .int), yX12_near, false)
abbrev mX12_asNear : zM := (cX12_asNear, 12, 2, (some .int), yX12_asNear, false)
abbrev mX12_sent : zM := (cX12_sent, 12, 4, (some .int), yX12_sent, false)
abbrev mX12_apartOf : zM := (cX12_apartOf, 12, 5, (some .int), yX12_apartOf, false)
abbrev mX12_apart : zM := (cX12_apart, 12, 3, (some .int), yX12_apart, false)
abbrev mX12_bear : zM := (cX12_bear, 12, 4, (some .int), yX12_bear, false)
abbrev mX12_mixed : zM := (cX12_mixed, 12, 4, (some .int), yX12_mixed, false)
abbrev mX12_power : zM := (cX12_power, 12, 4, (some .int), yX12_power, false)
abbrev mX12_digitsApart : zM := (cX12_digitsApart, 12, 8, (some .int), yX12_digitsApart, false)
abbrev mX12_newSongs : zM := (cX12_newSongs, 12, 8, (some .int), yX12_newSongs, false)
abbrev mX12_songWhy : zM := (cX12_songWhy, 12, 3, (some .int), yX12_songWhy, false)
abbrev mX12_fresh : zM := (cX12_fresh, 12, 4, (some .int), yX12_fresh, false)
abbrev mX12_byTurns : zM := (cX12_byTurns, 12, 4, (some .int), yX12_byTurns, false)
abbrev mX12_heardIn : zM := (cX12_heardIn, 12, 3, (some .int), yX12_heardIn, false)
abbrev mX12_hearsItself : zM := (cX12_hearsItself, 12, 8, (some .boolean), yX12_hearsItself, false)
abbrev mX12_strange : zM := (cX12_strange, 12, 3, (some .int), yX12_strange, false)
abbrev mX12_dayBy : zM := (cX12_dayBy, 12, 4, (some .int), yX12_dayBy, false)
abbrev mX12_setsOut : zM := (cX12_setsOut, 12, 5, (some .int), yX12_setsOut, false)
abbrev mX12_seasonOf : zM := (cX12_seasonOf, 12, 1, (some .int), yX12_seasonOf, false)
abbrev mX12_season : zM := (cX12_season, 12, 2, (some .int), yX12_season, false)
abbrev mX12_sets : zM := (cX12_sets, 12, 4, (some .int), yX12_sets, false)
abbrev mX12_layDays : zM := (cX12_layDays, 12, 7, none, yX12_layDays, false)
abbrev mX12_goesBy : zM := (cX12_goesBy, 12, 8, none, yX12_goesBy, false)
abbrev mX12_arrivalOf : zM := (cX12_arrivalOf, 12, 5, (some .int), yX12_arrivalOf, false)
abbrev mX12_arrival : zM := (cX12_arrival, 12, 5, (some .int), yX12_arrival, false)
abbrev mX12_lays : zM := (cX12_lays, 12, 7, (some .boolean), yX12_lays, false)
abbrev mX12_bringsOf : zM := (cX12_bringsOf, 12, 3, (some .int), yX12_bringsOf, false)
abbrev mX12_brings : zM := (cX12_brings, 12, 3, (some .int), yX12_brings, false)
abbrev mX12_soonest : zM := (cX12_soonest, 12, 4, (some .int), yX12_soonest, false)
abbrev mX12_surestBut : zM := (cX12_surestBut, 12, 5, (some .int), yX12_surestBut, false)
abbrev mX12_surest : zM := (cX12_surest, 12, 2, (some .int), yX12_surest, false)
abbrev mX12_by : zM := (cX12_by, 12, 5, (some .int), yX12_by, false)
abbrev mX12_lowest : zM := (cX12_lowest, 12, 11, (some .long), yX12_lowest, false)
abbrev mX12_registered : zM := (cX12_registered, 12, 6, (some .long), yX12_registered, false)
abbrev mX12_tryMatch : zM := (cX12_tryMatch, 12, 6, none, yX12_tryMatch, false)
abbrev mX12_seekMatch : zM := (cX12_seekMatch, 12, 3, none, yX12_seekMatch, false)
abbrev mX12_match : zM := (cX12_match, 12, 1, (some .int), yX12_match, false)
abbrev mX12_matchDays : zM := (cX12_matchDays, 12, 1, (some .int), yX12_matchDays, false)
abbrev mX12_matchOf : zM := (cX12_matchOf, 12, 2, (some .int), yX12_matchOf, false)
abbrev mX12_meet : zM := (cX12_meet, 12, 8, (some .int), yX12_meet, false)
abbrev mX12_fitsAll : zM := (cX12_fitsAll, 12, 6, (some .boolean), yX12_fitsAll, false)
abbrev mX12_fits : zM := (cX12_fits, 12, 3, (some .int), yX12_fits, false)
abbrev mX12_reachOf : zM := (cX12_reachOf, 12, 5, (some .int), yX12_reachOf, false)
abbrev mX12_reach : zM := (cX12_reach, 12, 3, (some .int), yX12_reach, false)
abbrev mX12_pier : zM := (cX12_pier, 12, 8, (some .int), yX12_pier, false)
abbrev mX12_doLead : zM := (cX12_doLead, 12, 8, (some .boolean), yX12_doLead, false)
abbrev mX12_watch : zM := (cX12_watch, 12, 5, (some .int), yX12_watch, false)
abbrev mX12_layFar : zM := (cX12_layFar, 12, 4, none, yX12_layFar, false)
abbrev mX12_tryRound : zM := (cX12_tryRound, 12, 5, none, yX12_tryRound, false)
abbrev mX12_seekRound : zM := (cX12_seekRound, 12, 2, (some .int), yX12_seekRound, false)
abbrev mX12_round : zM := (cX12_round, 12, 2, (some .int), yX12_round, false)
abbrev mX12_roundAt : zM := (cX12_roundAt, 12, 3, (some .int), yX12_roundAt, false)
abbrev mX12_decade : zM := (cX12_decade, 12, 9, (some .int), yX12_decade, false)
abbrev mX12_note1 : zM := (cX12_note1, 12, 2, none, yX12_note1, false)
abbrev mX12_send : zM := (cX12_send, 12, 5, (some .int), yX12_send, false)
abbrev mX12_tune : zM := (cX12_tune, 12, 4, (some .boolean), yX12_tune, false)
abbrev mX12_years : zM := (cX12_years, 12, 2, (some .int), yX12_years, false)
abbrev mX12_close : zM := (cX12_close, 12, 3, (some .boolean), yX12_close, false)
abbrev mX12_undo : zM := (cX12_undo, 12, 1, (some .boolean), yX12_undo, false)
abbrev mX12_image : zM := (cX12_image, 12, 1, (some .int), yX12_image, false)
abbrev mX12_back : zM := (cX12_back, 12, 2, (some .boolean), yX12_back, false)
abbrev mX12_led : zM := (cX12_led, 12, 4, (some .int), yX12_led, false)
abbrev mX12_size : zM := (cX12_size, 12, 2, (some .int), yX12_size, false)
abbrev mX12_trouble : zM := (cX12_trouble, 12, 1, (some .int), yX12_trouble, false)
abbrev mJ0_length_8abf5 : zM := (cJ0_length_8abf5, 14, 1, (some .int), yJ0_length_8abf5, false)
abbrev mJ0_charAt_5068e : zM := (cJ0_charAt_5068e, 14, 2, (some .char), yJ0_charAt_5068e, false)
abbrev mJ0_coder_7d493 : zM := (cJ0_coder_7d493, 14, 1, (some .byte), yJ0_coder_7d493, false)
abbrev mJ0_isLatin1_aae02 : zM := (cJ0_isLatin1_aae02, 14, 1, (some .boolean), yJ0_isLatin1_aae02, false)
abbrev mJ0_checkIndex_df160 : zM := (cJ0_checkIndex_df160, 14, 2, none, yJ0_checkIndex_df160, false)
abbrev mJ1_charAt_3b067 : zM := (cJ1_charAt_3b067, 15, 2, (some .char), yJ1_charAt_3b067, false)
abbrev mJ3_checkIndex_8e157 : zM := (cJ3_checkIndex_8e157, 18, 3, (some .int), yJ3_checkIndex_8e157, false)
abbrev mJ7_fill_53178 : zM := (cJ7_fill_53178, 17, 4, none, yJ7_fill_53178, false)
abbrev mJ6_bitCount_0f7a4 : zM := (cJ6_bitCount_0f7a4, 16, 1, (some .int), yJ6_bitCount_0f7a4, false)
abbrev mL_law : zM := (cL_law, 13, 7, some .boolean, yL_law, false)
abbrev zledM : zM := mX11_led
def zlook {α : Type} (l : List (Nat × α)) (i : Nat) : Option α := match l with
  | [] => none
  | q :: t => if q.1 = i then some q.2 else zlook t i
/-- fields by (class, pool number): class, place, place of the word -/
def zfldT0 : List (Nat × Nat × Nat × Nat) := []
def zfldT1 : List (Nat × Nat × Nat × Nat) := [(9, 1, 0, 2184), (15, 1, 1, 2186), (18, 1, 2, 2188), (22, 1, 3, 2190), (25, 1, 4, 2192)]
def zfldT2 : List (Nat × Nat × Nat × Nat) := [(9, 2, 0, 2064), (15, 2, 1, 2067), (18, 2, 2, 2069), (22, 2, 3, 2072), (25, 2, 4, 2075), (28, 2, 5, 2077), (31, 2, 6, 2079), (34, 4, 6, 1178), (39, 4, 12, 1206), (43, 10, 1, 1087), (48, 4, 7, 1184), (51, 4, 9, 1192), (54, 4, 13, 1211), (58, 0, 1, 1113)]
def zfldT3 : List (Nat × Nat × Nat × Nat) := [(9, 3, 1, 2165), (15, 3, 2, 2167), (18, 3, 3, 2168), (21, 3, 0, 2163), (25, 4, 4, 1167), (40, 4, 5, 1174), (43, 4, 11, 1201), (47, 9, 0, 1053), (52, 9, 1, 1057), (73, 9, 2, 1062)]
def zfldT4 : List (Nat × Nat × Nat × Nat) := [(9, 4, 9, 1191), (15, 4, 10, 1196), (20, 4, 11, 1200), (26, 4, 12, 1205), (32, 4, 13, 1210), (38, 4, 14, 1215), (46, 4, 0, 1151), (50, 4, 1, 1155), (53, 4, 2, 1160), (56, 4, 3, 1163), (59, 4, 4, 1168), (62, 4, 5, 1173), (65, 4, 6, 1179), (68, 4, 7, 1183), (71, 4, 8, 1187), (74, 0, 1, 1114), (77, 9, 0, 1055), (80, 9, 1, 1059), (83, 8, 0, 1137)]
def zfldT5 : List (Nat × Nat × Nat × Nat) := [(9, 5, 1, 2016), (15, 5, 2, 2017), (18, 5, 3, 2018), (21, 5, 4, 2019), (24, 5, 5, 2020), (27, 5, 7, 2022), (31, 5, 8, 2023), (35, 5, 9, 2024), (38, 5, 10, 2025), (41, 5, 11, 2026), (44, 5, 12, 2028), (47, 5, 0, 2015), (51, 5, 6, 2021), (73, 4, 4, 1169), (84, 4, 0, 1153), (93, 4, 5, 1176), (96, 4, 11, 1203), (104, 4, 6, 1180), (107, 4, 12, 1207), (115, 4, 7, 1185), (118, 4, 13, 1212), (126, 4, 8, 1188), (129, 4, 14, 1216), (148, 4, 1, 1156), (152, 4, 2, 1161), (156, 4, 3, 1164), (167, 4, 9, 1194), (170, 4, 10, 1198), (176, 9, 0, 1056), (181, 9, 1, 1060), (189, 9, 2, 1063), (193, 9, 3, 1066), (198, 10, 0, 1086), (204, 10, 1, 1088), (209, 10, 2, 1092), (213, 10, 3, 1095), (217, 0, 0, 1112), (223, 0, 1, 1116), (227, 0, 2, 1119), (231, 0, 3, 1122), (233, 8, 0, 1138), (237, 8, 1, 1140), (244, 8, 2, 1142)]
def zfldT6 : List (Nat × Nat × Nat × Nat) := [(9, 6, 3, 2137), (15, 6, 4, 2138), (19, 6, 5, 2140), (22, 6, 6, 2141), (25, 6, 0, 2133), (29, 6, 1, 2135), (33, 6, 2, 2136), (44, 4, 4, 1170), (49, 4, 5, 1175), (52, 4, 11, 1202), (56, 9, 0, 1054), (61, 9, 1, 1058), (74, 9, 2, 1061), (77, 9, 3, 1065), (88, 4, 12, 1208), (92, 4, 13, 1213), (99, 0, 2, 1117), (107, 10, 0, 1084), (112, 2, 6, 2080), (119, 2, 0, 2065), (127, 2, 2, 2071), (130, 0, 0, 1110), (133, 2, 3, 2074), (140, 0, 3, 1120), (149, 10, 2, 1091), (152, 4, 6, 1181), (158, 10, 3, 1094), (167, 10, 1, 1089), (170, 4, 8, 1189), (173, 4, 14, 1217), (177, 8, 0, 1139), (181, 8, 1, 1141), (184, 8, 2, 1143)]
def zfldT7 : List (Nat × Nat × Nat × Nat) := [(9, 7, 1, 2105), (15, 7, 2, 2107), (18, 7, 3, 2109), (21, 7, 4, 2111), (24, 7, 5, 2113), (28, 7, 0, 2103), (32, 4, 2, 1159), (37, 4, 0, 1152), (44, 4, 9, 1193), (47, 4, 10, 1197), (57, 4, 4, 1172), (64, 4, 1, 1157), (89, 4, 3, 1165)]
def zfldT8 : List (Nat × Nat × Nat × Nat) := []
def zfldT9 : List (Nat × Nat × Nat × Nat) := []
def zfldT10 : List (Nat × Nat × Nat × Nat) := []
def zfldT11 : List (Nat × Nat × Nat × Nat) := [(9, 11, 0, 2205), (13, 11, 1, 2206), (17, 11, 2, 2207), (23, 11, 3, 2208), (27, 11, 4, 2209), (35, 11, 5, 2210), (42, 11, 6, 2211), (51, 11, 7, 2212), (60, 11, 8, 2213), (67, 11, 9, 2214), (74, 11, 10, 2215), (78, 11, 11, 2216), (82, 11, 12, 2217), (85, 11, 13, 2218), (88, 11, 14, 2219), (91, 11, 15, 2220), (109, 4, 4, 1171), (115, 5, 11, 2027), (118, 5, 12, 2029), (125, 4, 12, 1209), (129, 10, 0, 1085), (134, 2, 2, 2070), (138, 2, 3, 2073), (141, 10, 2, 1090), (144, 10, 3, 1093), (150, 4, 13, 1214), (154, 0, 0, 1111), (159, 0, 1, 1115), (162, 0, 2, 1118), (165, 0, 3, 1121), (168, 2, 4, 2076), (171, 2, 5, 2078), (177, 4, 10, 1199), (180, 2, 0, 2066), (195, 2, 6, 2081), (213, 4, 11, 1204), (217, 9, 2, 1064), (233, 9, 3, 1067), (239, 4, 7, 1186), (265, 7, 4, 2112), (268, 7, 2, 2108), (271, 7, 3, 2110), (274, 4, 9, 1195), (301, 1, 2, 2189), (304, 1, 3, 2191), (307, 1, 1, 2187), (322, 2, 1, 2068), (331, 3, 1, 2166), (335, 7, 1, 2106), (344, 6, 4, 2139), (350, 4, 0, 1154), (370, 4, 1, 1158), (373, 4, 2, 1162), (376, 4, 3, 1166), (379, 4, 5, 1177), (382, 4, 6, 1182), (385, 4, 8, 1190), (388, 7, 0, 2104), (389, 6, 0, 2134), (390, 3, 0, 2164), (402, 1, 0, 2185)]
def zfldT12 : List (Nat × Nat × Nat × Nat) := [(7, 12, 1, 6057), (13, 12, 10, 6066), (17, 12, 12, 6068), (20, 12, 15, 6071), (23, 12, 16, 6072), (26, 12, 17, 6073), (29, 12, 18, 6074), (32, 12, 19, 6075), (35, 12, 22, 6078), (38, 12, 24, 6080), (41, 12, 25, 6081), (44, 12, 28, 6084), (47, 12, 29, 6085), (50, 12, 30, 6086), (53, 12, 35, 6091), (56, 12, 36, 6092), (59, 12, 37, 6093), (62, 12, 0, 6056), (65, 12, 11, 6067), (68, 12, 2, 6058), (71, 12, 3, 6059), (74, 12, 5, 6061), (81, 12, 4, 6060), (84, 12, 8, 6064), (87, 12, 7, 6063), (90, 12, 6, 6062), (100, 12, 13, 6069), (104, 12, 9, 6065), (180, 12, 14, 6070), (183, 12, 20, 6076), (186, 12, 21, 6077), (315, 12, 23, 6079), (358, 12, 26, 6082), (361, 12, 27, 6083), (379, 12, 31, 6087), (382, 12, 32, 6088), (392, 12, 33, 6089), (395, 12, 34, 6090), (410, 12, 38, 6094)]
def zfldT13 : List (Nat × Nat × Nat × Nat) := []
def zfldT14 : List (Nat × Nat × Nat × Nat) := []
def zfldT15 : List (Nat × Nat × Nat × Nat) := []
def zfldT16 : List (Nat × Nat × Nat × Nat) := []
def zfldT17 : List (Nat × Nat × Nat × Nat) := []
def zfldT18 : List (Nat × Nat × Nat × Nat) := []
def zfldTT : List (List (Nat × Nat × Nat × Nat)) := [zfldT0, zfldT1, zfldT2, zfldT3, zfldT4, zfldT5, zfldT6, zfldT7, zfldT8, zfldT9, zfldT10, zfldT11, zfldT12, zfldT13, zfldT14, zfldT15, zfldT16, zfldT17, zfldT18]
def zfld (o k : Nat) : Option (Nat × Nat) := (zlook (zfldTT.getD o []) k).map (fun q => (q.1, q.2.1))
def zcstT0 : List (Nat × zV × Nat) := []
def zclsT0 : List (Nat × Nat × Nat) := []
def zcstT1 : List (Nat × zV × Nat) := [(48, .inl (10000000), 5029)]
def zclsT1 : List (Nat × Nat × Nat) := []
def zcstT2 : List (Nat × zV × Nat) := []
def zclsT2 : List (Nat × Nat × Nat) := []
def zcstT3 : List (Nat × zV × Nat) := [(62, .inl (1000000), 5120)]
def zclsT3 : List (Nat × Nat × Nat) := []
def zcstT4 : List (Nat × zV × Nat) := []
def zclsT4 : List (Nat × Nat × Nat) := [(18, 9, 1040), (24, 10, 1042), (30, 0, 1044), (36, 8, 1046)]
def zcstT5 : List (Nat × zV × Nat) := [(137, .inr (.inr (some 1000016)), 3123), (146, .inr (.inr (some 1000017)), 3132), (150, .inr (.inr (some 1000018)), 3133), (154, .inr (.inr (some 1000019)), 3134), (187, .inr (.inr (some 1000020)), 3171), (191, .inr (.inr (some 1000021)), 3172), (203, .inr (.inr (some 1000026)), 3185), (207, .inr (.inr (some 1000027)), 3186), (211, .inr (.inr (some 1000028)), 3187), (215, .inr (.inr (some 1000029)), 3192), (221, .inr (.inr (some 1000030)), 3193), (225, .inr (.inr (some 1000031)), 3194), (229, .inr (.inr (some 1000032)), 3195), (255, .inr (.inr (some 1000022)), 3181), (257, .inr (.inr (some 1000023)), 3182), (259, .inr (.inr (some 1000024)), 3183), (261, .inr (.inr (some 1000025)), 3184), (263, .inr (.inr (some 1000010)), 3057), (264, .inr (.inr (some 1000011)), 3110), (265, .inr (.inr (some 1000012)), 3111), (266, .inr (.inr (some 1000013)), 3112), (267, .inr (.inr (some 1000014)), 3113), (268, .inr (.inr (some 1000015)), 3114)]
def zclsT5 : List (Nat × Nat × Nat) := []
def zcstT6 : List (Nat × zV × Nat) := [(37, .inl (1000000000), 4192)]
def zclsT6 : List (Nat × Nat × Nat) := []
def zcstT7 : List (Nat × zV × Nat) := [(84, .inl (65537), 5156)]
def zclsT7 : List (Nat × Nat × Nat) := []
def zcstT8 : List (Nat × zV × Nat) := []
def zclsT8 : List (Nat × Nat × Nat) := []
def zcstT9 : List (Nat × zV × Nat) := []
def zclsT9 : List (Nat × Nat × Nat) := []
def zcstT10 : List (Nat × zV × Nat) := []
def zclsT10 : List (Nat × Nat × Nat) := []
def zcstT11 : List (Nat × zV × Nat) := [(226, .inl (99999), 4082), (334, .inl (65536), 5143), (365, .inr (.inr (some 1000033)), 6024)]
def zclsT11 : List (Nat × Nat × Nat) := [(20, 4, 1034), (30, 5, 2009), (39, 2, 2058), (46, 7, 2097), (55, 6, 2127), (64, 3, 2157), (71, 1, 2178), (363, 99, 5225)]
def zcstT12 : List (Nat × zV × Nat) := [(131, .inr (.inr (some 1000034)), 6211), (133, .inr (.inr (some 1000039)), 7006), (135, .inr (.inr (some 1000040)), 7023), (137, .inr (.inr (some 1000041)), 7024), (139, .inr (.inr (some 1000042)), 7025), (141, .inr (.inr (some 1000043)), 7026), (211, .inr (.inr (some 1000035)), 6226), (217, .inr (.inr (some 1000036)), 7003), (219, .inr (.inr (some 1000037)), 7004), (221, .inr (.inr (some 1000038)), 7005), (234, .inr (.inr (some 1000044)), 7050), (235, .inr (.inr (some 1000045)), 7051), (237, .inr (.inr (some 1000046)), 7056), (239, .inr (.inr (some 1000047)), 7057), (241, .inr (.inr (some 1000048)), 7058), (243, .inr (.inr (some 1000049)), 7059), (245, .inr (.inr (some 1000050)), 7060), (250, .inr (.inr (some 1000051)), 7065), (252, .inr (.inr (some 1000052)), 7066), (254, .inr (.inr (some 1000053)), 7071), (256, .inr (.inr (some 1000054)), 7072), (258, .inr (.inr (some 1000055)), 7073), (260, .inr (.inr (some 1000056)), 7074), (340, .inl (99999), 8005), (341, .inl (1000000), 8029), (373, .inr (.inl (10000)), 8073), (422, .inl (65536), 8156), (423, .inl (65537), 8157)]
def zclsT12 : List (Nat × Nat × Nat) := []
def zcstT13 : List (Nat × zV × Nat) := []
def zclsT13 : List (Nat × Nat × Nat) := [(8, 11, 1026), (13, 99, 5220), (16, 12, 6050)]
def zcstT14 : List (Nat × zV × Nat) := []
def zclsT14 : List (Nat × Nat × Nat) := []
def zcstT15 : List (Nat × zV × Nat) := []
def zclsT15 : List (Nat × Nat × Nat) := []
def zcstT16 : List (Nat × zV × Nat) := [(265, .inl (1431655765), 4058), (266, .inl (858993459), 4059), (267, .inl (252645135), 4060)]
def zclsT16 : List (Nat × Nat × Nat) := []
def zcstT17 : List (Nat × zV × Nat) := []
def zclsT17 : List (Nat × Nat × Nat) := []
def zcstT18 : List (Nat × zV × Nat) := []
def zclsT18 : List (Nat × Nat × Nat) := []
def zcstTT : List (List (Nat × zV × Nat)) := [zcstT0, zcstT1, zcstT2, zcstT3, zcstT4, zcstT5, zcstT6, zcstT7, zcstT8, zcstT9, zcstT10, zcstT11, zcstT12, zcstT13, zcstT14, zcstT15, zcstT16, zcstT17, zcstT18]
def zcst (o k : Nat) : Option zV := (zlook (zcstTT.getD o []) k).map (fun q => q.1)
def zclsTT : List (List (Nat × Nat × Nat)) := [zclsT0, zclsT1, zclsT2, zclsT3, zclsT4, zclsT5, zclsT6, zclsT7, zclsT8, zclsT9, zclsT10, zclsT11, zclsT12, zclsT13, zclsT14, zclsT15, zclsT16, zclsT17, zclsT18]
def zcls (o k : Nat) : Option Nat := (zlook (zclsTT.getD o []) k).map (fun q => q.1)
/-- calls by (class, pool number): kind, how many arguments (the receiver too), the method; places of link, instanceMethod or static, selects, initialized -/
def zmthT0 : List (Nat × Nat × Nat × zM × Nat × Nat × Nat × Nat) := [(1, 10, 0, zledM, 1109, 0, 0, 0)]
def zmthT1 : List (Nat × Nat × Nat × zM × Nat × Nat × Nat × Nat) := [(3, 10, 0, zledM, 2183, 0, 0, 0),
  (28, 1, 2, mJ7_fill_53178, 5024, 4194, 0, 1020),
  (34, 0, 4, mX1_worth, 5025, 5027, 42, 1012),
  (38, 11, 0, zledM, 5030, 0, 0, 0),
  (44, 0, 3, mX1_choose, 5031, 5033, 43, 1012),
  (49, 0, 4, mX1_firstBest, 5035, 5037, 44, 1012)]
def zmthT2 : List (Nat × Nat × Nat × zM × Nat × Nat × Nat × Nat) := [(3, 10, 0, zledM, 2063, 0, 0, 0),
  (63, 14, 0, zledM, 5172, 0, 0, 0)]
def zmthT3 : List (Nat × Nat × Nat × zM × Nat × Nat × Nat × Nat) := [(3, 10, 0, zledM, 2162, 0, 0, 0),
  (31, 0, 2, mX3_waysOutOf, 5103, 5105, 47, 1011),
  (35, 1, 1, mJ6_bitCount_0f7a4, 5107, 4056, 0, 1019),
  (55, 0, 2, mX3_findShortest, 5116, 5118, 48, 1011),
  (59, 0, 1, mX3_findRests, 5123, 5125, 49, 1011),
  (63, 0, 3, mX3_nextOf, 5131, 5133, 51, 1011),
  (67, 1, 2, mJ7_fill_53178, 5121, 4194, 0, 1020),
  (76, 12, 0, zledM, 5122, 0, 0, 0),
  (81, 0, 4, mX3_daysOver, 5127, 5129, 50, 1011)]
def zmthT4 : List (Nat × Nat × Nat × zM × Nat × Nat × Nat × Nat) := [(3, 10, 0, zledM, 1039, 0, 0, 0),
  (42, 4, 1, mX9_init, 1049, 1050, 0, 1003),
  (43, 4, 1, mX10_init, 1080, 1081, 0, 1004),
  (44, 4, 1, mX0_init, 1106, 1107, 0, 1005),
  (45, 4, 1, mX8_init, 1133, 1134, 0, 1006)]
def zmthT5 : List (Nat × Nat × Nat × zM × Nat × Nat × Nat × Nat) := [(3, 10, 0, zledM, 2014, 0, 0, 0),
  (55, 0, 1, mX4_clear, 3034, 3035, 3036, 1002),
  (60, 12, 0, zledM, 3038, 0, 0, 0),
  (66, 0, 1, mX5_readLine, 3041, 3043, 2, 1007),
  (70, 0, 1, mX5_nextToken, 3045, 3047, 3, 1007),
  (76, 0, 2, mX5_faulty, 3115, 3117, 7, 1007),
  (80, 0, 1, mX5_sortOfLine, 3053, 3055, 5, 1007),
  (87, 0, 1, mX5_readHead, 3119, 3121, 8, 1007),
  (90, 0, 1, mX5_readIsland, 3135, 3137, 11, 1007),
  (100, 0, 2, mX5_readWay, 3159, 3161, 16, 1007),
  (111, 0, 2, mX5_readWhale, 3173, 3175, 18, 1007),
  (122, 0, 2, mX5_readBox, 3188, 3190, 20, 1007),
  (133, 0, 2, mX5_readSpout, 3196, 3198, 21, 1007),
  (138, 0, 2, mX5_word, 3124, 3126, 9, 1007),
  (142, 0, 3, mX5_whole, 3128, 3130, 10, 1007),
  (158, 0, 3, mX5_newName, 3139, 3141, 12, 1007),
  (161, 0, 1, mX5_songOfToken, 3151, 3153, 15, 1007),
  (164, 0, 3, mX4_hasSong, 3155, 3156, 3157, 1002),
  (173, 0, 2, mX5_toldName, 3163, 3165, 17, 1007),
  (184, 0, 3, mX4_wayBetween, 3167, 3168, 3169, 1002),
  (195, 0, 1, mX5_kindOfToken, 3177, 3179, 19, 1007),
  (240, 0, 2, mX4_lastSpoutOf, 3200, 3201, 3202, 1002),
  (245, 0, 2, mX5_isToken, 3058, 3060, 6, 1007),
  (248, 0, 1, mX5_nameOfToken, 3143, 3145, 13, 1007),
  (251, 0, 1, mX5_letters, 3147, 3149, 14, 1007),
  (269, 0, 1, mJ0_length_8abf5, 3062, 3063, 3064, 1015),
  (274, 0, 2, mJ0_charAt_5068e, 3072, 3073, 3074, 1015),
  (278, 0, 3, mX5_passAll, 3049, 3051, 4, 1007)]
def zmthT6 : List (Nat × Nat × Nat × zM × Nat × Nat × Nat × Nat) := [(3, 10, 0, zledM, 2132, 0, 0, 0),
  (38, 1, 2, mJ7_fill_53178, 4193, 4194, 0, 1020),
  (64, 0, 2, mX2_isClosed, 4196, 4071, 4072, 1008),
  (70, 0, 5, mX6_goes, 4197, 4199, 40, 1010),
  (80, 0, 4, mX6_dayOfLeaving, 4201, 4095, 4096, 1010),
  (84, 0, 4, mX6_findFirstDays, 4188, 4190, 39, 1010),
  (96, 0, 2, mX2_isSent, 4210, 4103, 4104, 1008),
  (115, 0, 2, mX4_boxLength, 4213, 4037, 4038, 1002),
  (122, 0, 4, mX7_hearerOf, 4214, 4049, 4050, 1009),
  (136, 0, 5, mX6_firstDayAt, 4215, 4185, 4186, 1010),
  (143, 11, 0, zledM, 4216, 0, 0, 0),
  (155, 0, 3, mX6_dayOfBringing, 4227, 4207, 4208, 1010),
  (161, 12, 0, zledM, 5055, 0, 0, 0),
  (164, 0, 2, mX6_isFitting, 5064, 5066, 45, 1010),
  (185, 0, 2, mX4_lastSpoutOf, 5076, 3201, 3202, 1002),
  (188, 0, 1, mX6_fittingWhales, 5085, 5061, 5062, 1010),
  (192, 1, 1, mJ6_bitCount_0f7a4, 5086, 4056, 0, 1019),
  (197, 0, 3, mX6_whalesReaching, 5087, 5089, 46, 1010),
  (200, 13, 0, zledM, 5092, 0, 0, 0),
  (203, 0, 3, mX6_islandsReached, 5091, 5073, 5074, 1010)]
def zmthT7 : List (Nat × Nat × Nat × zM × Nat × Nat × Nat × Nat) := [(3, 10, 0, zledM, 2102, 0, 0, 0),
  (40, 3, 3, mX11_noteAt, 4024, 4025, 0, 1001),
  (50, 0, 2, mX7_fallIn, 4016, 4018, 27, 1009),
  (54, 0, 4, mX7_raised, 4020, 4022, 28, 1009),
  (60, 3, 2, mX11_unlikeNotes, 4052, 4053, 0, 1001),
  (67, 0, 3, mX7_apartness, 4126, 4115, 4116, 1009),
  (70, 0, 3, mX7_keepSongsOf, 4147, 4149, 36, 1009),
  (73, 0, 3, mX7_isOfNotes, 4152, 4154, 37, 1009),
  (77, 0, 4, mX7_isFarFromKept, 4156, 4158, 38, 1009),
  (81, 0, 3, mX7_songIn, 4151, 4013, 4014, 1009),
  (85, 0, 1, mX7_draw, 5152, 5154, 53, 1009),
  (92, 3, 4, mX11_withNote, 5157, 5158, 0, 1001)]
def zmthT8 : List (Nat × Nat × Nat × zM × Nat × Nat × Nat × Nat) := [(1, 10, 0, zledM, 1136, 0, 0, 0)]
def zmthT9 : List (Nat × Nat × Nat × zM × Nat × Nat × Nat × Nat) := [(1, 10, 0, zledM, 1052, 0, 0, 0)]
def zmthT10 : List (Nat × Nat × Nat × zM × Nat × Nat × Nat × Nat) := [(1, 10, 0, zledM, 1083, 0, 0, 0)]
def zmthT11 : List (Nat × Nat × Nat × zM × Nat × Nat × Nat × Nat) := [(1, 10, 0, zledM, 1031, 0, 0, 0),
  (22, 2, 1, mX4_init, 1036, 1037, 0, 1002),
  (32, 2, 3, mX5_init, 2011, 2012, 0, 1007),
  (41, 4, 1, mX2_init, 2060, 2061, 0, 1008),
  (48, 2, 2, mX7_init, 2099, 2100, 0, 1009),
  (57, 2, 4, mX6_init, 2129, 2130, 0, 1010),
  (66, 2, 2, mX3_init, 2159, 2160, 0, 1011),
  (73, 4, 1, mX1_init, 2180, 2181, 0, 1012),
  (94, 0, 2, mX11_appendBytes, 3018, 3020, 0, 1001),
  (98, 0, 2, mX11_refused, 3026, 3028, 1, 1001),
  (102, 0, 3, mX5_readPost, 3030, 3031, 3032, 1007),
  (106, 0, 1, mX11_takeDraft, 3204, 3206, 22, 1001),
  (112, 0, 2, mX11_granted, 3212, 3214, 23, 1001),
  (121, 0, 2, mX11_isWhale, 3228, 3230, 24, 1001),
  (147, 0, 2, mX11_isBox, 3236, 3238, 25, 1001),
  (174, 0, 2, mX11_isIsland, 4004, 4006, 26, 1001),
  (183, 0, 3, mX7_songIn, 4012, 4013, 4014, 1009),
  (187, 1, 3, mX11_noteAt, 4027, 4025, 0, 1001),
  (191, 0, 3, mX11_isNoteOfBox, 4032, 4034, 29, 1001),
  (198, 0, 2, mX4_boxLength, 4036, 4037, 4038, 1002),
  (201, 0, 3, mX11_hearerIn, 4044, 4046, 30, 1001),
  (204, 0, 3, mX11_areTwoIslands, 4065, 4067, 31, 1001),
  (207, 0, 3, mX4_wayBetween, 4069, 3168, 3169, 1002),
  (210, 0, 2, mX2_isClosed, 4070, 4071, 4072, 1008),
  (222, 0, 1, mX11_hasPost, 4078, 4080, 32, 1001),
  (227, 1, 2, mX11_isWithin, 4083, 4084, 0, 1001),
  (230, 0, 2, mX11_isWay, 4090, 4092, 33, 1001),
  (236, 0, 4, mX6_dayOfLeaving, 4094, 4095, 4096, 1010),
  (242, 0, 2, mX2_isSent, 4102, 4103, 4104, 1008),
  (245, 0, 3, mX11_sentPart, 4106, 4108, 34, 1001),
  (248, 0, 3, mX7_apartness, 4114, 4115, 4116, 1009),
  (251, 0, 1, mX7_bearable, 4122, 4123, 4124, 1009),
  (255, 0, 1, mX7_mixedPairs, 4131, 4132, 4133, 1009),
  (258, 0, 3, mX11_refusalOfNewSong, 4139, 4141, 35, 1001),
  (261, 0, 5, mX7_findNew, 4143, 4144, 4145, 1009),
  (277, 0, 4, mX7_hearerOf, 4048, 4049, 4050, 1009),
  (280, 0, 5, mX6_firstDayAt, 4184, 4185, 4186, 1010),
  (283, 0, 3, mX6_dayOfBringing, 4206, 4207, 4208, 1010),
  (286, 0, 2, mX6_soonestBringer, 4223, 4224, 4225, 1010),
  (289, 0, 3, mX6_surestBringer, 4232, 4233, 4234, 1010),
  (292, 0, 3, mX6_bringersBy, 5000, 5001, 5002, 1010),
  (295, 1, 2, mX11_commonDivisor, 5008, 5009, 0, 1001),
  (298, 0, 1, mX11_solveMatch, 5016, 5018, 41, 1001),
  (310, 0, 5, mX6_dayOfMeeting, 5051, 5052, 5053, 1010),
  (313, 0, 1, mX6_fittingWhales, 5060, 5061, 5062, 1010),
  (316, 0, 3, mX6_islandsReached, 5072, 5073, 5074, 1010),
  (319, 0, 2, mX6_bestPier, 5081, 5082, 5083, 1010),
  (325, 0, 4, mX3_fewestToWatch, 5099, 5100, 5101, 1011),
  (328, 0, 3, mX3_findRound, 5112, 5113, 5114, 1011),
  (338, 0, 2, mX11_heardWithSlips, 5144, 5146, 52, 1001),
  (341, 0, 1, mX11_keepForUndo, 5164, 5166, 54, 1001),
  (347, 0, 2, mX11_hasRefused, 5180, 5182, 55, 1001),
  (353, 1, 4, mX11_withNote, 5184, 5158, 0, 1001),
  (356, 0, 1, mX11_hasGranted, 5185, 5187, 56, 1001),
  (359, 0, 2, mX2_copyFrom, 5168, 5169, 5170, 1008),
  (391, 0, 2, mX2_begin, 3208, 3209, 3210, 1008),
  (394, 12, 0, zledM, 5175, 0, 0, 0),
  (399, 0, 3, mX7_slipped, 5148, 5149, 5150, 1009),
  (404, 0, 3, mX1_solve, 5020, 5021, 5022, 1012),
  (408, 11, 0, zledM, 5011, 0, 0, 0),
  (411, 1, 1, mJ6_bitCount_0f7a4, 4055, 4056, 0, 1019)]
def zmthT12 : List (Nat × Nat × Nat × zM × Nat × Nat × Nat × Nat) := [(1, 10, 0, zledM, 6055, 0, 0, 0),
  (77, 0, 2, mX12_look, 6197, 6199, 61, 1013),
  (93, 1, 1, mX12_isSmall, 6201, 6202, 0, 1013),
  (97, 1, 1, mX12_isDigit, 6204, 6205, 0, 1013),
  (107, 0, 1, mJ0_length_8abf5, 6216, 3063, 3064, 1015),
  (113, 0, 2, mJ0_charAt_5068e, 6217, 3073, 3074, 1015),
  (117, 0, 2, mX12_isWord, 6212, 6214, 63, 1013),
  (121, 0, 1, mX12_next, 6193, 6195, 60, 1013),
  (124, 0, 2, mX12_takesWord, 6235, 6237, 68, 1013),
  (127, 0, 3, mX12_wrong, 6222, 6224, 65, 1013),
  (143, 0, 1, mX12_mustName, 7019, 7021, 73, 1013),
  (146, 0, 1, mX12_find, 7027, 7029, 74, 1013),
  (149, 1, 3, mX12_in, 6186, 6187, 0, 1013),
  (153, 0, 3, mX12_named, 7043, 7045, 78, 1013),
  (157, 0, 2, mX12_must, 6231, 6233, 67, 1013),
  (161, 0, 1, mX12_islandPassed, 7039, 7041, 77, 1013),
  (164, 0, 3, mX12_number, 6239, 7001, 69, 1013),
  (167, 0, 1, mX12_good, 6182, 6184, 58, 1013),
  (170, 0, 2, mX12_no, 6189, 6191, 59, 1013),
  (173, 0, 1, mX12_readLine, 6207, 6209, 62, 1013),
  (176, 1, 5, mX12_copy, 7079, 7080, 0, 1013),
  (189, 0, 1, mX12_postLine, 6218, 6220, 64, 1013),
  (192, 0, 3, mX12_begins, 7007, 7009, 70, 1013),
  (196, 0, 1, mX12_islandLine, 7011, 7013, 71, 1013),
  (199, 0, 1, mX12_wayLine, 7035, 7037, 76, 1013),
  (202, 0, 1, mX12_whaleLine, 7052, 7054, 79, 1013),
  (205, 0, 1, mX12_boxLine, 7067, 7069, 81, 1013),
  (208, 0, 1, mX12_spoutLine, 7075, 7077, 82, 1013),
  (213, 0, 4, mX12_after, 6227, 6229, 66, 1013),
  (223, 0, 2, mX12_newName, 7015, 7017, 72, 1013),
  (227, 0, 2, mX12_isSong, 7031, 7033, 75, 1013),
  (230, 1, 4, mX12_joins, 7047, 7048, 0, 1013),
  (246, 0, 2, mX12_islandBehind, 7061, 7063, 80, 1013),
  (262, 0, 3, mX12_ofBox, 7110, 7112, 86, 1013),
  (265, 0, 2, mX12_songLong, 7122, 7124, 88, 1013),
  (268, 0, 2, mX12_isWhale, 7094, 7096, 83, 1013),
  (271, 0, 3, mX12_ofWhale, 7098, 7100, 84, 1013),
  (274, 0, 2, mX12_isBox, 7106, 7108, 85, 1013),
  (277, 0, 2, mX12_isIsland, 7118, 7120, 87, 1013),
  (280, 0, 4, mX12_noteIn, 7130, 7132, 89, 1013),
  (284, 0, 2, mX12_boxLong, 7138, 7140, 90, 1013),
  (287, 0, 6, mX12_unlike, 7154, 7156, 93, 1013),
  (291, 0, 5, mX12_hearsIn, 7150, 7152, 92, 1013),
  (295, 0, 2, mX12_heardNow, 7146, 7148, 91, 1013),
  (298, 1, 2, mX12_hasBit, 7170, 7171, 0, 1013),
  (302, 0, 2, mX12_isClosed, 7166, 7168, 95, 1013),
  (305, 0, 3, mX12_wayOf, 7162, 7164, 94, 1013),
  (308, 0, 3, mX12_nearOf, 7177, 7179, 96, 1013),
  (312, 0, 3, mX12_apartOf, 7193, 7195, 97, 1013),
  (318, 0, 2, mX12_power, 7217, 7219, 100, 1013),
  (321, 0, 4, mX12_digitsApart, 7221, 7223, 101, 1013),
  (324, 0, 3, mX12_songWhy, 7209, 7211, 98, 1013),
  (327, 0, 4, mX12_newSongs, 7213, 7215, 99, 1013),
  (331, 0, 3, mX12_hearsItself, 7237, 7239, 102, 1013),
  (334, 0, 4, mX12_setsOut, 8013, 8015, 103, 1013),
  (337, 1, 1, mX12_seasonOf, 8006, 8007, 0, 1013),
  (342, 0, 4, mX12_goesBy, 8030, 8032, 106, 1013),
  (346, 0, 4, mX12_dayBy, 8034, 8036, 107, 1013),
  (349, 0, 4, mX12_layDays, 8025, 8027, 105, 1013),
  (352, 0, 5, mX12_arrivalOf, 8021, 8023, 104, 1013),
  (355, 1, 2, mX12_later, 8050, 8051, 0, 1013),
  (364, 0, 3, mX12_lays, 8046, 8048, 109, 1013),
  (367, 0, 3, mX12_bringsOf, 8042, 8044, 108, 1013),
  (370, 0, 3, mX12_surestBut, 8061, 8063, 110, 1013),
  (375, 1, 3, mX12_lowest, 8074, 8075, 0, 1013),
  (385, 0, 5, mX12_tryMatch, 8085, 8087, 112, 1013),
  (389, 0, 1, mX12_seekMatch, 8081, 8083, 111, 1013),
  (398, 0, 2, mX12_fitsAll, 8105, 8107, 113, 1013),
  (401, 0, 3, mX12_reachOf, 8113, 8115, 114, 1013),
  (404, 1, 1, mX12_ones, 8125, 8126, 0, 1013),
  (407, 0, 4, mX12_doLead, 8128, 8130, 115, 1013),
  (413, 0, 4, mX12_tryRound, 8144, 8146, 118, 1013),
  (416, 0, 1, mX12_layFar, 8140, 8142, 117, 1013),
  (419, 0, 2, mX12_seekRound, 8136, 8138, 116, 1013),
  (424, 0, 1, mX12_note1, 8162, 8164, 119, 1013),
  (427, 0, 2, mX12_isNot, 8170, 8172, 120, 1013)]
def zmthT13 : List (Nat × Nat × Nat × zM × Nat × Nat × Nat × Nat) := [(15, 2, 1, mX11_init, 1028, 1029, 0, 1001),
  (18, 2, 1, mX12_init, 6052, 6053, 0, 1013),
  (19, 0, 6, mX11_feed, 3014, 3015, 3016, 1001),
  (23, 0, 6, mX12_feed, 6174, 6175, 6176, 1013),
  (24, 0, 2, mX11_post, 3022, 3023, 3024, 1001),
  (27, 0, 2, mX12_post, 6178, 6179, 6180, 1013),
  (28, 0, 1, mX11_fault, 3216, 3217, 3218, 1001),
  (32, 0, 1, mX12_fault, 7082, 7083, 7084, 1013),
  (33, 0, 1, mX11_where, 3220, 3221, 3222, 1001),
  (36, 0, 1, mX12_where, 7086, 7087, 7088, 1013),
  (37, 0, 3, mX11_whale, 3224, 3225, 3226, 1001),
  (41, 0, 3, mX12_whale, 7090, 7091, 7092, 1013),
  (42, 0, 3, mX11_box, 3232, 3233, 3234, 1001),
  (45, 0, 3, mX12_box, 7102, 7103, 7104, 1013),
  (46, 0, 2, mX11_length, 4000, 4001, 4002, 1001),
  (49, 0, 2, mX12_length, 7114, 7115, 7116, 1013),
  (50, 0, 3, mX11_note, 4008, 4009, 4010, 1001),
  (53, 0, 3, mX12_note, 7126, 7127, 7128, 1013),
  (54, 0, 3, mX11_sung, 4028, 4029, 4030, 1001),
  (57, 0, 3, mX12_sung, 7134, 7135, 7136, 1013),
  (58, 0, 2, mX11_heard, 4040, 4041, 4042, 1001),
  (61, 0, 2, mX12_heard, 7142, 7143, 7144, 1013),
  (62, 0, 3, mX11_way, 4061, 4062, 4063, 1001),
  (65, 0, 3, mX12_way, 7158, 7159, 7160, 1013),
  (66, 0, 2, mX11_season, 4074, 4075, 4076, 1001),
  (69, 0, 2, mX12_season, 8001, 8002, 8003, 1013),
  (70, 0, 4, mX11_sets, 4086, 4087, 4088, 1001),
  (74, 0, 4, mX12_sets, 8009, 8010, 8011, 1013),
  (75, 0, 2, mX11_sent, 4098, 4099, 4100, 1001),
  (78, 0, 2, mX12_sent, 7185, 7186, 7187, 1013),
  (79, 0, 3, mX11_apart, 4110, 4111, 4112, 1001),
  (82, 0, 3, mX12_apart, 7189, 7190, 7191, 1013),
  (83, 0, 1, mX11_bear, 4118, 4119, 4120, 1001),
  (86, 0, 1, mX12_bear, 7197, 7198, 7199, 1013),
  (87, 0, 1, mX11_mixed, 4127, 4128, 4129, 1001),
  (90, 0, 1, mX12_mixed, 7201, 7202, 7203, 1013),
  (91, 0, 3, mX11_fresh, 4135, 4136, 4137, 1001),
  (94, 0, 3, mX12_fresh, 7205, 7206, 7207, 1013),
  (95, 0, 3, mX11_byTurns, 4160, 4161, 4162, 1001),
  (98, 0, 3, mX12_byTurns, 7225, 7226, 7227, 1013),
  (99, 0, 2, mX11_near, 4164, 4165, 4166, 1001),
  (102, 0, 2, mX12_near, 7173, 7174, 7175, 1013),
  (103, 0, 2, mX11_asNear, 4168, 4169, 4170, 1001),
  (106, 0, 2, mX12_asNear, 7181, 7182, 7183, 1013),
  (107, 0, 3, mX11_heardIn, 4172, 4173, 4174, 1001),
  (110, 0, 3, mX12_heardIn, 7229, 7230, 7231, 1013),
  (111, 0, 2, mX11_strange, 4176, 4177, 4178, 1001),
  (114, 0, 2, mX12_strange, 7233, 7234, 7235, 1013),
  (115, 0, 5, mX11_arrival, 4180, 4181, 4182, 1001),
  (119, 0, 5, mX12_arrival, 8017, 8018, 8019, 1013),
  (120, 0, 3, mX11_brings, 4202, 4203, 4204, 1001),
  (123, 0, 3, mX12_brings, 8038, 8039, 8040, 1013),
  (124, 0, 2, mX11_soonest, 4219, 4220, 4221, 1001),
  (127, 0, 2, mX12_soonest, 8053, 8054, 8055, 1013),
  (128, 0, 2, mX11_surest, 4228, 4229, 4230, 1001),
  (131, 0, 2, mX12_surest, 8057, 8058, 8059, 1013),
  (132, 0, 3, mX11_by, 4236, 4237, 4238, 1001),
  (135, 0, 3, mX12_by, 8065, 8066, 8067, 1013),
  (136, 0, 3, mX11_registered, 5004, 5005, 5006, 1001),
  (140, 0, 3, mX12_registered, 8069, 8070, 8071, 1013),
  (141, 0, 1, mX11_match, 5012, 5013, 5014, 1001),
  (144, 0, 1, mX12_match, 8077, 8078, 8079, 1013),
  (145, 0, 1, mX11_matchDays, 5039, 5040, 5041, 1001),
  (148, 0, 1, mX12_matchDays, 8089, 8090, 8091, 1013),
  (149, 0, 2, mX11_matchOf, 5043, 5044, 5045, 1001),
  (152, 0, 2, mX12_matchOf, 8093, 8094, 8095, 1013),
  (153, 0, 5, mX11_meet, 5047, 5048, 5049, 1001),
  (156, 0, 5, mX12_meet, 8097, 8098, 8099, 1013),
  (157, 0, 1, mX11_fits, 5056, 5057, 5058, 1001),
  (160, 0, 1, mX12_fits, 8101, 8102, 8103, 1013),
  (161, 0, 3, mX11_reach, 5068, 5069, 5070, 1001),
  (164, 0, 3, mX12_reach, 8109, 8110, 8111, 1013),
  (165, 0, 2, mX11_pier, 5077, 5078, 5079, 1001),
  (168, 0, 2, mX12_pier, 8117, 8118, 8119, 1013),
  (169, 0, 3, mX11_watch, 5095, 5096, 5097, 1001),
  (172, 0, 3, mX12_watch, 8121, 8122, 8123, 1013),
  (173, 0, 2, mX11_round, 5108, 5109, 5110, 1001),
  (176, 0, 2, mX12_round, 8132, 8133, 8134, 1013),
  (177, 0, 3, mX11_roundAt, 5135, 5136, 5137, 1001),
  (180, 0, 3, mX12_roundAt, 8148, 8149, 8150, 1013),
  (181, 0, 3, mX11_decade, 5139, 5140, 5141, 1001),
  (184, 0, 3, mX12_decade, 8152, 8153, 8154, 1013),
  (185, 0, 3, mX11_send, 5160, 5161, 5162, 1001),
  (188, 0, 3, mX12_send, 8158, 8159, 8160, 1013),
  (189, 0, 4, mX11_tune, 5176, 5177, 5178, 1001),
  (193, 0, 4, mX12_tune, 8166, 8167, 8168, 1013),
  (194, 0, 2, mX11_years, 5189, 5190, 5191, 1001),
  (197, 0, 2, mX12_years, 8174, 8175, 8176, 1013),
  (198, 0, 3, mX11_close, 5193, 5194, 5195, 1001),
  (202, 0, 3, mX12_close, 8178, 8179, 8180, 1013),
  (203, 0, 1, mX11_undo, 5197, 5198, 5199, 1001),
  (207, 0, 1, mX12_undo, 8182, 8183, 8184, 1013),
  (208, 0, 1, mX11_image, 5201, 5202, 5203, 1001),
  (211, 0, 1, mX12_image, 8186, 8187, 8188, 1013),
  (212, 0, 2, mX11_back, 5205, 5206, 5207, 1001),
  (216, 0, 2, mX12_back, 8190, 8191, 8192, 1013),
  (217, 16, 0, zledM, 5217, 0, 0, 0),
  (222, 0, 2, mX12_led, 8194, 8195, 8196, 1013),
  (223, 0, 2, mX11_size, 5209, 5210, 5211, 1001),
  (226, 0, 2, mX12_size, 8198, 8199, 8200, 1013),
  (227, 0, 1, mX11_trouble, 5213, 5214, 5215, 1001),
  (230, 0, 1, mX12_trouble, 8202, 8203, 8204, 1013)]
def zmthT14 : List (Nat × Nat × Nat × zM × Nat × Nat × Nat × Nat) := [(335, 0, 1, mJ0_coder_7d493, 3066, 3067, 3068, 1015),
  (492, 0, 1, mJ0_isLatin1_aae02, 3076, 3077, 3078, 1015),
  (495, 1, 2, mJ1_charAt_3b067, 3080, 3081, 0, 1016),
  (1059, 1, 3, mJ3_checkIndex_8e157, 3088, 3089, 0, 1017)]
def zmthT15 : List (Nat × Nat × Nat × zM × Nat × Nat × Nat × Nat) := [(9, 1, 2, mJ0_checkIndex_df160, 3083, 3084, 0, 1015)]
def zmthT16 : List (Nat × Nat × Nat × zM × Nat × Nat × Nat × Nat) := []
def zmthT17 : List (Nat × Nat × Nat × zM × Nat × Nat × Nat × Nat) := []
def zmthT18 : List (Nat × Nat × Nat × zM × Nat × Nat × Nat × Nat) := []
def zmthTT : List (List (Nat × Nat × Nat × zM × Nat × Nat × Nat × Nat)) := [zmthT0, zmthT1, zmthT2, zmthT3, zmthT4, zmthT5, zmthT6, zmthT7, zmthT8, zmthT9, zmthT10, zmthT11, zmthT12, zmthT13, zmthT14, zmthT15, zmthT16, zmthT17, zmthT18]
def zmth (o k : Nat) : Option (Nat × Nat × zM) := (zlook (zmthTT.getD o []) k).map (fun q => (q.1, q.2.1, q.2.2.1))
/-- all methods, with the place of their code word -/
def zall : List (zM × Nat) := [(mX0_init, 1108), (mX1_init, 2182), (mX1_solve, 5023), (mX1_worth, 5028), (mX1_choose, 5034), (mX1_firstBest, 5038), (mX2_init, 2062), (mX2_begin, 3211), (mX2_copyFrom, 5171), (mX2_isClosed, 4073), (mX2_isSent, 4105), (mX3_init, 2161), (mX3_fewestToWatch, 5102), (mX3_waysOutOf, 5106), (mX3_findRound, 5115), (mX3_findShortest, 5119), (mX3_findRests, 5126), (mX3_daysOver, 5130), (mX3_nextOf, 5134), (mX4_init, 1038), (mX4_clear, 3037), (mX4_boxLength, 4039), (mX4_wayBetween, 3170), (mX4_hasSong, 3158), (mX4_lastSpoutOf, 3203), (mX5_init, 2013), (mX5_readPost, 3033), (mX5_faulty, 3118), (mX5_readLine, 3044), (mX5_readHead, 3122), (mX5_readIsland, 3138), (mX5_readWay, 3162), (mX5_readWhale, 3176), (mX5_readBox, 3191), (mX5_readSpout, 3199), (mX5_word, 3127), (mX5_whole, 3131), (mX5_newName, 3142), (mX5_toldName, 3166), (mX5_nameOfToken, 3146), (mX5_letters, 3150), (mX5_songOfToken, 3154), (mX5_kindOfToken, 3180), (mX5_sortOfLine, 3056), (mX5_isToken, 3061), (mX5_nextToken, 3048), (mX5_passAll, 3052), (mX6_init, 2131), (mX6_dayOfLeaving, 4097), (mX6_findFirstDays, 4191), (mX6_goes, 4200), (mX6_firstDayAt, 4187), (mX6_dayOfBringing, 4209), (mX6_soonestBringer, 4226), (mX6_surestBringer, 4235), (mX6_bringersBy, 5003), (mX6_dayOfMeeting, 5054), (mX6_fittingWhales, 5063), (mX6_isFitting, 5067), (mX6_islandsReached, 5075), (mX6_bestPier, 5084), (mX6_whalesReaching, 5090), (mX7_init, 2101), (mX7_fallIn, 4019), (mX7_raised, 4023), (mX7_songIn, 4015), (mX7_hearerOf, 4051), (mX7_apartness, 4117), (mX7_bearable, 4125), (mX7_mixedPairs, 4134), (mX7_findNew, 4146), (mX7_keepSongsOf, 4150), (mX7_isOfNotes, 4155), (mX7_isFarFromKept, 4159), (mX7_draw, 5155), (mX7_slipped, 5151), (mX8_init, 1135), (mX9_init, 1051), (mX10_init, 1082), (mX11_init, 1030), (mX11_feed, 3017), (mX11_post, 3025), (mX11_fault, 3219), (mX11_where, 3223), (mX11_whale, 3227), (mX11_box, 3235), (mX11_length, 4003), (mX11_note, 4011), (mX11_sung, 4031), (mX11_heard, 4043), (mX11_way, 4064), (mX11_season, 4077), (mX11_sets, 4089), (mX11_sent, 4101), (mX11_apart, 4113), (mX11_bear, 4121), (mX11_mixed, 4130), (mX11_fresh, 4138), (mX11_byTurns, 4163), (mX11_near, 4167), (mX11_asNear, 4171), (mX11_heardIn, 4175), (mX11_strange, 4179), (mX11_arrival, 4183), (mX11_brings, 4205), (mX11_soonest, 4222), (mX11_surest, 4231), (mX11_by, 4239), (mX11_registered, 5007), (mX11_match, 5015), (mX11_matchDays, 5042), (mX11_matchOf, 5046), (mX11_meet, 5050), (mX11_fits, 5059), (mX11_reach, 5071), (mX11_pier, 5080), (mX11_watch, 5098), (mX11_round, 5111), (mX11_roundAt, 5138), (mX11_decade, 5142), (mX11_send, 5163), (mX11_tune, 5179), (mX11_years, 5192), (mX11_close, 5196), (mX11_undo, 5200), (mX11_image, 5204), (mX11_back, 5208), (mX11_led, 5224), (mX11_size, 5212), (mX11_trouble, 5216), (mX11_granted, 3215), (mX11_refused, 3029), (mX11_hasGranted, 5188), (mX11_hasRefused, 5183), (mX11_hasPost, 4081), (mX11_isIsland, 4007), (mX11_areTwoIslands, 4068), (mX11_isWay, 4093), (mX11_isWhale, 3231), (mX11_isBox, 3239), (mX11_isNoteOfBox, 4035), (mX11_isWithin, 4085), (mX11_refusalOfNewSong, 4142), (mX11_appendBytes, 3021), (mX11_takeDraft, 3207), (mX11_keepForUndo, 5167), (mX11_hearerIn, 4047), (mX11_sentPart, 4109), (mX11_heardWithSlips, 5147), (mX11_solveMatch, 5019), (mX11_commonDivisor, 5010), (mX11_noteAt, 4026), (mX11_withNote, 5159), (mX11_unlikeNotes, 4054), (mX12_init, 6054), (mX12_good, 6185), (mX12_no, 6192), (mX12_isNot, 8173), (mX12_in, 6188), (mX12_hasBit, 7172), (mX12_ones, 8127), (mX12_copy, 7081), (mX12_later, 8052), (mX12_feed, 6177), (mX12_look, 6200), (mX12_isSmall, 6203), (mX12_isDigit, 6206), (mX12_next, 6196), (mX12_wrong, 6225), (mX12_isWord, 6215), (mX12_takesWord, 6238), (mX12_must, 6234), (mX12_mustName, 7022), (mX12_find, 7030), (mX12_newName, 7018), (mX12_named, 7046), (mX12_islandPassed, 7042), (mX12_islandBehind, 7064), (mX12_number, 7002), (mX12_after, 6230), (mX12_post, 6181), (mX12_begins, 7010), (mX12_readLine, 6210), (mX12_postLine, 6221), (mX12_islandLine, 7014), (mX12_isSong, 7034), (mX12_wayLine, 7038), (mX12_joins, 7049), (mX12_whaleLine, 7055), (mX12_boxLine, 7070), (mX12_spoutLine, 7078), (mX12_fault, 7085), (mX12_where, 7089), (mX12_isIsland, 7121), (mX12_isWhale, 7097), (mX12_isBox, 7109), (mX12_ofWhale, 7101), (mX12_ofBox, 7113), (mX12_songLong, 7125), (mX12_boxLong, 7141), (mX12_noteIn, 7133), (mX12_whale, 7093), (mX12_box, 7105), (mX12_length, 7117), (mX12_note, 7129), (mX12_sung, 7137), (mX12_unlike, 7157), (mX12_hearsIn, 7153), (mX12_heardNow, 7149), (mX12_heard, 7145), (mX12_isClosed, 7169), (mX12_wayOf, 7165), (mX12_way, 7161), (mX12_nearOf, 7180), (mX12_near, 7176), (mX12_asNear, 7184), (mX12_sent, 7188), (mX12_apartOf, 7196), (mX12_apart, 7192), (mX12_bear, 7200), (mX12_mixed, 7204), (mX12_power, 7220), (mX12_digitsApart, 7224), (mX12_newSongs, 7216), (mX12_songWhy, 7212), (mX12_fresh, 7208), (mX12_byTurns, 7228), (mX12_heardIn, 7232), (mX12_hearsItself, 8000), (mX12_strange, 7236), (mX12_dayBy, 8037), (mX12_setsOut, 8016), (mX12_seasonOf, 8008), (mX12_season, 8004), (mX12_sets, 8012), (mX12_layDays, 8028), (mX12_goesBy, 8033), (mX12_arrivalOf, 8024), (mX12_arrival, 8020), (mX12_lays, 8049), (mX12_bringsOf, 8045), (mX12_brings, 8041), (mX12_soonest, 8056), (mX12_surestBut, 8064), (mX12_surest, 8060), (mX12_by, 8068), (mX12_lowest, 8076), (mX12_registered, 8072), (mX12_tryMatch, 8088), (mX12_seekMatch, 8084), (mX12_match, 8080), (mX12_matchDays, 8092), (mX12_matchOf, 8096), (mX12_meet, 8100), (mX12_fitsAll, 8108), (mX12_fits, 8104), (mX12_reachOf, 8116), (mX12_reach, 8112), (mX12_pier, 8120), (mX12_doLead, 8131), (mX12_watch, 8124), (mX12_layFar, 8143), (mX12_tryRound, 8147), (mX12_seekRound, 8139), (mX12_round, 8135), (mX12_roundAt, 8151), (mX12_decade, 8155), (mX12_note1, 8165), (mX12_send, 8161), (mX12_tune, 8169), (mX12_years, 8177), (mX12_close, 8181), (mX12_undo, 8185), (mX12_image, 8189), (mX12_back, 8193), (mX12_led, 8197), (mX12_size, 8201), (mX12_trouble, 8205), (mJ0_length_8abf5, 3065), (mJ0_charAt_5068e, 3075), (mJ0_coder_7d493, 3069), (mJ0_isLatin1_aae02, 3079), (mJ0_checkIndex_df160, 3085), (mJ1_charAt_3b067, 3082), (mJ3_checkIndex_8e157, 3090), (mJ7_fill_53178, 4195), (mJ6_bitCount_0f7a4, 4057)]
/-- the nest mates' links: class, pool number, method, host, place -/
def znm : List (Nat × Nat × zM × String × Nat) := [(4, 42, mX9_init, "WhalePost", 1049), (4, 43, mX10_init, "WhalePost", 1080), (4, 44, mX0_init, "WhalePost", 1106), (4, 45, mX8_init, "WhalePost", 1133), (11, 41, mX2_init, "WhalePost", 2060), (11, 73, mX1_init, "WhalePost", 2180), (7, 40, mX11_noteAt, "WhalePost", 4024), (7, 60, mX11_unlikeNotes, "WhalePost", 4052), (7, 92, mX11_withNote, "WhalePost", 5157)]
/-- the texts: class, pool number, text, special number, place -/
def zsr : List (Nat × Nat × String × Nat × Nat) := [(5, 263, "post", 1000010, 3057), (5, 264, "island", 1000011, 3110), (5, 265, "way", 1000012, 3111), (5, 266, "whale", 1000013, 3112), (5, 267, "box", 1000014, 3113), (5, 268, "spout", 1000015, 3114), (5, 137, "notes", 1000016, 3123), (5, 146, "errors", 1000017, 3132), (5, 150, "drift", 1000018, 3133), (5, 154, "slip", 1000019, 3134), (5, 187, "days", 1000020, 3171), (5, 191, "open", 1000021, 3172), (5, 255, "calf", 1000022, 3181), (5, 257, "cow", 1000023, 3182), (5, 259, "bull", 1000024, 3183), (5, 261, "old", 1000025, 3184), (5, 203, "at", 1000026, 3185), (5, 207, "keeps", 1000027, 3186), (5, 211, "lost", 1000028, 3187), (5, 215, "from", 1000029, 3192), (5, 221, "to", 1000030, 3193), (5, 225, "weighs", 1000031, 3194), (5, 229, "day", 1000032, 3195), (11, 365, "no such box is left", 1000033, 6024), (12, 131, "post", 1000034, 6211), (12, 211, "notes", 1000035, 6226), (12, 217, "errors", 1000036, 7003), (12, 219, "drift", 1000037, 7004), (12, 221, "slip", 1000038, 7005), (12, 133, "island", 1000039, 7006), (12, 135, "way", 1000040, 7023), (12, 137, "whale", 1000041, 7024), (12, 139, "box", 1000042, 7025), (12, 141, "spout", 1000043, 7026), (12, 234, "days", 1000044, 7050), (12, 235, "open", 1000045, 7051), (12, 237, "calf", 1000046, 7056), (12, 239, "cow", 1000047, 7057), (12, 241, "bull", 1000048, 7058), (12, 243, "old", 1000049, 7059), (12, 245, "at", 1000050, 7060), (12, 250, "keeps", 1000051, 7065), (12, 252, "lost", 1000052, 7066), (12, 254, "from", 1000053, 7071), (12, 256, "to", 1000054, 7072), (12, 258, "weighs", 1000055, 7073), (12, 260, "day", 1000056, 7074)]
/-- the bytes of the constant texts of reader and model -/
def zscT : List (Nat × List Int32) := [(1000010, [112, 111, 115, 116]), (1000011, [105, 115, 108, 97, 110, 100]), (1000012, [119, 97, 121]), (1000013, [119, 104, 97, 108, 101]), (1000014, [98, 111, 120]), (1000015, [115, 112, 111, 117, 116]), (1000016, [110, 111, 116, 101, 115]), (1000017, [101, 114, 114, 111, 114, 115]), (1000018, [100, 114, 105, 102, 116]), (1000019, [115, 108, 105, 112]), (1000020, [100, 97, 121, 115]), (1000021, [111, 112, 101, 110]), (1000022, [99, 97, 108, 102]), (1000023, [99, 111, 119]), (1000024, [98, 117, 108, 108]), (1000025, [111, 108, 100]), (1000026, [97, 116]), (1000027, [107, 101, 101, 112, 115]), (1000028, [108, 111, 115, 116]), (1000029, [102, 114, 111, 109]), (1000030, [116, 111]), (1000031, [119, 101, 105, 103, 104, 115]), (1000032, [100, 97, 121]), (1000034, [112, 111, 115, 116]), (1000035, [110, 111, 116, 101, 115]), (1000036, [101, 114, 114, 111, 114, 115]), (1000037, [100, 114, 105, 102, 116]), (1000038, [115, 108, 105, 112]), (1000039, [105, 115, 108, 97, 110, 100]), (1000040, [119, 97, 121]), (1000041, [119, 104, 97, 108, 101]), (1000042, [98, 111, 120]), (1000043, [115, 112, 111, 117, 116]), (1000044, [100, 97, 121, 115]), (1000045, [111, 112, 101, 110]), (1000046, [99, 97, 108, 102]), (1000047, [99, 111, 119]), (1000048, [98, 117, 108, 108]), (1000049, [111, 108, 100]), (1000050, [97, 116]), (1000051, [107, 101, 101, 112, 115]), (1000052, [108, 111, 115, 116]), (1000053, [102, 114, 111, 109]), (1000054, [116, 111]), (1000055, [119, 101, 105, 103, 104, 115]), (1000056, [100, 97, 121])]
def zsc (a : Nat) : Option (List Int32) := zlook zscT a
/-- the entry of CAN_CARRY in the pool of Sea -/
def zgsk : Nat := 104
end Pk2
section Pk3
/-! code read quickly: its bytes as numbers, one lemma for each opcode that occurs -/
abbrev dLf : Type := Nat × Instr × Nat
noncomputable def dFl (t : Lean.RArray dLf) : List dLf := @Lean.RArray.rec dLf (fun _ => List dLf) (fun q => [q]) (fun _ _ _ l r => l ++ r) t
theorem dFl_mem (pc : Nat) : ∀ t : Lean.RArray dLf, t.get pc ∈ dFl t
  | .leaf q => List.mem_singleton.mpr rfl
  | .branch p l r => by
    show @Bool.rec (fun _ => dLf) (l.get pc) (r.get pc) (Nat.ble p pc) ∈ dFl l ++ dFl r
    cases Nat.ble p pc with
    | false => exact List.mem_append_left _ (dFl_mem pc l)
    | true => exact List.mem_append_right _ (dFl_mem pc r)
theorem d_at {c : ByteArray} {o : List dLf} {t : Lean.RArray dLf} (h : ∀ q ∈ o, decode c q.1 = .ok (q.2.1, q.2.2)) (e : dFl t = o) (pc : Nat) : decode c (t.get pc).1 = .ok ((t.get pc).2.1, (t.get pc).2.2) := h _ (by rw [← e]; exact dFl_mem pc t)
theorem d_by {c : ByteArray} {pc len : Nat} {i : Instr} {q : dLf} (h : decode c q.1 = .ok (q.2.1, q.2.2)) (e : q = (pc, i, len)) : decode c pc = .ok (i, len) := by
  rw [e] at h
  exact h
def qAt (c : ByteArray) (p b : Nat) : Prop := ∃ h : p < c.size, (c[p]'h).toNat = b
section QD
variable {c : ByteArray} {p q a b : Nat} {α β : Type}
theorem q_bind {r : ClassFile.Decoder α} {k : α → ClassFile.Decoder β} {x : α} {y : Except ClassFile.DecodeError (β × Nat)} (h : r c p = .ok (x, q)) (hk : k x c q = y) : (r >>= k) c p = y := by
  have e : (r >>= k) c p = (r c p >>= fun z => k z.1 c z.2) := rfl
  rw [e, h]
  exact hk
theorem q_map {r : ClassFile.Decoder α} {f : α → β} {x : α} (h : r c p = .ok (x, q)) : (f <$> r) c p = .ok (f x, q) := by
  have e : (f <$> r) c p = (r c p >>= fun z => Except.ok (f z.1, z.2)) := rfl
  rw [e, h]
  rfl
theorem q_u1 (h : qAt c p b) : (ClassFile.Reader.u1 : ClassFile.Decoder Nat) c p = .ok (b, p + 1) := by
  obtain ⟨h, e⟩ := h
  have u : (ClassFile.Reader.u1 : ClassFile.Decoder Nat) c p = (if h : p < c.size then (do set (p + 1); pure (c[p]'h).toNat : ClassFile.Decoder Nat) else throw (ClassFile.HasTruncated.truncated p)) c p := rfl
  rw [u, dif_pos h, e]
  rfl
theorem q_u2 (h : qAt c p a) (h2 : qAt c (p + 1) b) : (ClassFile.Reader.u2 : ClassFile.Decoder Nat) c p = .ok (a * 256 + b, p + 2) := by
  unfold ClassFile.Reader.u2
  exact q_bind (q_u1 h) (q_bind (q_u1 h2) rfl)
theorem q_s1 (h : qAt c p b) : (ClassFile.Reader.s1 : ClassFile.Decoder Int) c p = .ok (ClassFile.Reader.signed 8 b, p + 1) := by
  unfold ClassFile.Reader.s1
  exact q_map (q_u1 h)
theorem q_s2 (h : qAt c p a) (h2 : qAt c (p + 1) b) : (ClassFile.Reader.s2 : ClassFile.Decoder Int) c p = .ok (ClassFile.Reader.signed 16 (a * 256 + b), p + 2) := by
  unfold ClassFile.Reader.s2
  exact q_map (q_u2 h h2)
theorem q_dec {i : Instr} {len : Nat} (h : ClassFile.Decoder.instr p c p = .ok (i, p + len)) : decode c p = .ok (i, len) := by
  have e : decode c p = (ClassFile.Decoder.instr p c p >>= fun z => Except.ok (z.1, z.2 - p)) := rfl
  rw [e, h]
  show Except.ok (i, p + len - p) = _
  rw [Nat.add_sub_cancel_left]
end QD
/-- opcode, instruction by two operand bytes, length -/
abbrev qL : Type := Nat × (Nat → Nat → Instr) × Nat
def qOK (l : qL) : Prop := ∀ (c : ByteArray) (p a b : Nat), qAt c p l.1 → (2 ≤ l.2.2 → qAt c (p + 1) a) → (3 ≤ l.2.2 → qAt c (p + 2) b) → decode c p = .ok (l.2.1 a b, l.2.2)
noncomputable def qFl (t : Lean.RArray qL) : List qL := @Lean.RArray.rec qL (fun _ => List qL) (fun q => [q]) (fun _ _ _ l r => l ++ r) t
theorem qFl_mem (pc : Nat) : ∀ t : Lean.RArray qL, t.get pc ∈ qFl t
  | .leaf q => List.mem_singleton.mpr rfl
  | .branch p l r => by
    show @Bool.rec (fun _ => qL) (l.get pc) (r.get pc) (Nat.ble p pc) ∈ qFl l ++ qFl r
    cases Nat.ble p pc with
    | false => exact List.mem_append_left _ (qFl_mem pc l)
    | true => exact List.mem_append_right _ (qFl_mem pc r)
/-- one row against the bytes that are left -/
def qArg (lf : qL) (i : Instr) (l : Nat) (r : List Nat) : Bool := match r with
  | [] => Nat.ble l 1 && decide (i = lf.2.1 0 0)
  | a :: r => match r with
    | [] => Nat.ble l 2 && decide (i = lf.2.1 a 0)
    | b :: _ => Nat.ble l 3 && decide (i = lf.2.1 a b)
def qLf (lf : qL) (op : Nat) (i : Instr) (l : Nat) (r : List Nat) : Bool := Nat.beq lf.1 op && Nat.beq lf.2.2 l && qArg lf i l r
def qOne (t : Lean.RArray qL) (bs : List Nat) (i : Instr) (l : Nat) : Bool := match bs with
  | [] => false
  | op :: r => qLf (t.get op) op i l r
noncomputable def qGo (t : Lean.RArray qL) (o : List dLf) : List Nat → Nat → Bool := @List.rec dLf (fun _ => List Nat → Nat → Bool) (fun _ _ => true) (fun q _ ih bs pc => Nat.beq pc q.1 && qOne t bs q.2.1 q.2.2 && ih (bs.drop q.2.2) (q.1 + q.2.2)) o
theorem q_at {c : ByteArray} {bs r : List Nat} {pc x : Nat} (hb : c.data.toList.map UInt8.toNat = bs) (e : bs.drop pc = x :: r) : qAt c pc x := by
  have e0 : bs[pc]? = some x := by
    have := List.getElem?_drop (xs := bs) (i := pc) (j := 0)
    rw [e] at this
    exact this.symm
  rw [← hb, List.getElem?_map] at e0
  cases hc : c.data.toList[pc]? with
  | none => rw [hc] at e0; cases e0
  | some y =>
    rw [hc] at e0
    have ey : y.toNat = x := Option.some.inj e0
    obtain ⟨h1, h2⟩ := List.getElem?_eq_some_iff.mp hc
    refine ⟨h1, ?_⟩
    rw [← ey, ← h2]
    rfl
theorem q_go {c : ByteArray} {t : Lean.RArray qL} {bs : List Nat} (ht : ∀ l ∈ qFl t, qOK l) (hb : c.data.toList.map UInt8.toNat = bs) : ∀ (o : List dLf) (pc : Nat), qGo t o (bs.drop pc) pc = true → ∀ q ∈ o, decode c q.1 = .ok (q.2.1, q.2.2)
  | [], _, _, q, hq => by cases hq
  | (p, i, l) :: o, pc, h, q, hq => by
    have h : (Nat.beq pc p && qOne t (bs.drop pc) i l && qGo t o ((bs.drop pc).drop l) (p + l)) = true := h
    rw [Bool.and_eq_true, Bool.and_eq_true] at h
    obtain ⟨⟨h1, h2⟩, h3⟩ := h
    have h1 : pc = p := Nat.eq_of_beq_eq_true h1
    subst h1
    rw [List.drop_drop] at h3
    rcases List.mem_cons.mp hq with e | hq
    · subst e
      show decode c pc = .ok (i, l)
      cases e0 : bs.drop pc with
      | nil => rw [e0] at h2; cases h2
      | cons op r =>
        rw [e0] at h2
        have h2 : (Nat.beq (t.get op).1 op && Nat.beq (t.get op).2.2 l && qArg (t.get op) i l r) = true := h2
        rw [Bool.and_eq_true, Bool.and_eq_true] at h2
        obtain ⟨⟨k1, k2⟩, k3⟩ := h2
        have k1 : (t.get op).1 = op := Nat.eq_of_beq_eq_true k1
        have k2 : (t.get op).2.2 = l := Nat.eq_of_beq_eq_true k2
        have hk := ht _ (qFl_mem op t)
        have a0 := q_at hb e0
        have dr : ∀ n, bs.drop (pc + n) = (op :: r).drop n := fun n => by rw [← e0, List.drop_drop]
        cases r with
        | nil =>
          have k3 : (Nat.ble l 1 && decide (i = (t.get op).2.1 0 0)) = true := k3
          rw [Bool.and_eq_true, decide_eq_true_eq] at k3
          have := Nat.le_of_ble_eq_true k3.1
          rw [k3.2, ← k2]
          exact hk c pc 0 0 (by rw [k1]; exact a0) (fun z => absurd z (by omega)) (fun z => absurd z (by omega))
        | cons a r =>
          have a1 : qAt c (pc + 1) a := q_at (r := r) hb (dr 1)
          cases r with
          | nil =>
            have k3 : (Nat.ble l 2 && decide (i = (t.get op).2.1 a 0)) = true := k3
            rw [Bool.and_eq_true, decide_eq_true_eq] at k3
            have := Nat.le_of_ble_eq_true k3.1
            rw [k3.2, ← k2]
            exact hk c pc a 0 (by rw [k1]; exact a0) (fun _ => a1) (fun z => absurd z (by omega))
          | cons b r =>
            have a2 : qAt c (pc + 2) b := q_at (r := r) hb (dr 2)
            have k3 : (Nat.ble l 3 && decide (i = (t.get op).2.1 a b)) = true := k3
            rw [Bool.and_eq_true, decide_eq_true_eq] at k3
            rw [k3.2, ← k2]
            exact hk c pc a b (by rw [k1]; exact a0) (fun _ => a1) (fun _ => a2)
    · exact q_go ht hb o (pc + l) h3 q hq
theorem qx2 : qOK (2, fun _ _ => .iconst (-1), 1) := fun c p a b h0 h1 h2 => q_dec (q_bind (q_u1 h0) rfl)
theorem qx3 : qOK (3, fun _ _ => .iconst 0, 1) := fun c p a b h0 h1 h2 => q_dec (q_bind (q_u1 h0) rfl)
theorem qx4 : qOK (4, fun _ _ => .iconst 1, 1) := fun c p a b h0 h1 h2 => q_dec (q_bind (q_u1 h0) rfl)
theorem qx5 : qOK (5, fun _ _ => .iconst 2, 1) := fun c p a b h0 h1 h2 => q_dec (q_bind (q_u1 h0) rfl)
theorem qx6 : qOK (6, fun _ _ => .iconst 3, 1) := fun c p a b h0 h1 h2 => q_dec (q_bind (q_u1 h0) rfl)
theorem qx7 : qOK (7, fun _ _ => .iconst 4, 1) := fun c p a b h0 h1 h2 => q_dec (q_bind (q_u1 h0) rfl)
theorem qx8 : qOK (8, fun _ _ => .iconst 5, 1) := fun c p a b h0 h1 h2 => q_dec (q_bind (q_u1 h0) rfl)
theorem qx9 : qOK (9, fun _ _ => .lconst 0, 1) := fun c p a b h0 h1 h2 => q_dec (q_bind (q_u1 h0) rfl)
theorem qx16 : qOK (16, fun a _ => .bipush (ClassFile.Reader.signed 8 a), 2) := fun c p a b h0 h1 h2 => q_dec (q_bind (q_u1 h0) (q_bind (q_s1 (h1 (by decide))) rfl))
theorem qx17 : qOK (17, fun a b => .sipush (ClassFile.Reader.signed 16 (a * 256 + b)), 3) := fun c p a b h0 h1 h2 => q_dec (q_bind (q_u1 h0) (q_bind (q_s2 (h1 (by decide)) (h2 (by decide))) rfl))
theorem qx18 : qOK (18, fun a _ => .ldc a, 2) := fun c p a b h0 h1 h2 => q_dec (q_bind (q_u1 h0) (q_bind (q_u1 (h1 (by decide))) rfl))
theorem qx19 : qOK (19, fun a b => .ldc_w (a * 256 + b), 3) := fun c p a b h0 h1 h2 => q_dec (q_bind (q_u1 h0) (q_bind (q_u2 (h1 (by decide)) (h2 (by decide))) rfl))
theorem qx20 : qOK (20, fun a b => .ldc2_w (a * 256 + b), 3) := fun c p a b h0 h1 h2 => q_dec (q_bind (q_u1 h0) (q_bind (q_u2 (h1 (by decide)) (h2 (by decide))) rfl))
theorem qx21 : qOK (21, fun a _ => .iload a, 2) := fun c p a b h0 h1 h2 => q_dec (q_bind (q_u1 h0) (q_bind (q_u1 (h1 (by decide))) rfl))
theorem qx22 : qOK (22, fun a _ => .lload a, 2) := fun c p a b h0 h1 h2 => q_dec (q_bind (q_u1 h0) (q_bind (q_u1 (h1 (by decide))) rfl))
theorem qx25 : qOK (25, fun a _ => .aload a, 2) := fun c p a b h0 h1 h2 => q_dec (q_bind (q_u1 h0) (q_bind (q_u1 (h1 (by decide))) rfl))
theorem qx26 : qOK (26, fun _ _ => .iload_n 0, 1) := fun c p a b h0 h1 h2 => q_dec (q_bind (q_u1 h0) rfl)
theorem qx27 : qOK (27, fun _ _ => .iload_n 1, 1) := fun c p a b h0 h1 h2 => q_dec (q_bind (q_u1 h0) rfl)
theorem qx28 : qOK (28, fun _ _ => .iload_n 2, 1) := fun c p a b h0 h1 h2 => q_dec (q_bind (q_u1 h0) rfl)
theorem qx29 : qOK (29, fun _ _ => .iload_n 3, 1) := fun c p a b h0 h1 h2 => q_dec (q_bind (q_u1 h0) rfl)
theorem qx30 : qOK (30, fun _ _ => .lload_n 0, 1) := fun c p a b h0 h1 h2 => q_dec (q_bind (q_u1 h0) rfl)
theorem qx31 : qOK (31, fun _ _ => .lload_n 1, 1) := fun c p a b h0 h1 h2 => q_dec (q_bind (q_u1 h0) rfl)
theorem qx32 : qOK (32, fun _ _ => .lload_n 2, 1) := fun c p a b h0 h1 h2 => q_dec (q_bind (q_u1 h0) rfl)
theorem qx42 : qOK (42, fun _ _ => .aload_n 0, 1) := fun c p a b h0 h1 h2 => q_dec (q_bind (q_u1 h0) rfl)
theorem qx43 : qOK (43, fun _ _ => .aload_n 1, 1) := fun c p a b h0 h1 h2 => q_dec (q_bind (q_u1 h0) rfl)
theorem qx44 : qOK (44, fun _ _ => .aload_n 2, 1) := fun c p a b h0 h1 h2 => q_dec (q_bind (q_u1 h0) rfl)
theorem qx45 : qOK (45, fun _ _ => .aload_n 3, 1) := fun c p a b h0 h1 h2 => q_dec (q_bind (q_u1 h0) rfl)
theorem qx46 : qOK (46, fun _ _ => .iaload, 1) := fun c p a b h0 h1 h2 => q_dec (q_bind (q_u1 h0) rfl)
theorem qx47 : qOK (47, fun _ _ => .laload, 1) := fun c p a b h0 h1 h2 => q_dec (q_bind (q_u1 h0) rfl)
theorem qx50 : qOK (50, fun _ _ => .aaload, 1) := fun c p a b h0 h1 h2 => q_dec (q_bind (q_u1 h0) rfl)
theorem qx51 : qOK (51, fun _ _ => .baload, 1) := fun c p a b h0 h1 h2 => q_dec (q_bind (q_u1 h0) rfl)
theorem qx54 : qOK (54, fun a _ => .istore a, 2) := fun c p a b h0 h1 h2 => q_dec (q_bind (q_u1 h0) (q_bind (q_u1 (h1 (by decide))) rfl))
theorem qx55 : qOK (55, fun a _ => .lstore a, 2) := fun c p a b h0 h1 h2 => q_dec (q_bind (q_u1 h0) (q_bind (q_u1 (h1 (by decide))) rfl))
theorem qx58 : qOK (58, fun a _ => .astore a, 2) := fun c p a b h0 h1 h2 => q_dec (q_bind (q_u1 h0) (q_bind (q_u1 (h1 (by decide))) rfl))
theorem qx59 : qOK (59, fun _ _ => .istore_n 0, 1) := fun c p a b h0 h1 h2 => q_dec (q_bind (q_u1 h0) rfl)
theorem qx60 : qOK (60, fun _ _ => .istore_n 1, 1) := fun c p a b h0 h1 h2 => q_dec (q_bind (q_u1 h0) rfl)
theorem qx61 : qOK (61, fun _ _ => .istore_n 2, 1) := fun c p a b h0 h1 h2 => q_dec (q_bind (q_u1 h0) rfl)
theorem qx62 : qOK (62, fun _ _ => .istore_n 3, 1) := fun c p a b h0 h1 h2 => q_dec (q_bind (q_u1 h0) rfl)
theorem qx64 : qOK (64, fun _ _ => .lstore_n 1, 1) := fun c p a b h0 h1 h2 => q_dec (q_bind (q_u1 h0) rfl)
theorem qx76 : qOK (76, fun _ _ => .astore_n 1, 1) := fun c p a b h0 h1 h2 => q_dec (q_bind (q_u1 h0) rfl)
theorem qx77 : qOK (77, fun _ _ => .astore_n 2, 1) := fun c p a b h0 h1 h2 => q_dec (q_bind (q_u1 h0) rfl)
theorem qx78 : qOK (78, fun _ _ => .astore_n 3, 1) := fun c p a b h0 h1 h2 => q_dec (q_bind (q_u1 h0) rfl)
theorem qx79 : qOK (79, fun _ _ => .iastore, 1) := fun c p a b h0 h1 h2 => q_dec (q_bind (q_u1 h0) rfl)
theorem qx80 : qOK (80, fun _ _ => .lastore, 1) := fun c p a b h0 h1 h2 => q_dec (q_bind (q_u1 h0) rfl)
theorem qx83 : qOK (83, fun _ _ => .aastore, 1) := fun c p a b h0 h1 h2 => q_dec (q_bind (q_u1 h0) rfl)
theorem qx84 : qOK (84, fun _ _ => .bastore, 1) := fun c p a b h0 h1 h2 => q_dec (q_bind (q_u1 h0) rfl)
theorem qx87 : qOK (87, fun _ _ => .pop, 1) := fun c p a b h0 h1 h2 => q_dec (q_bind (q_u1 h0) rfl)
theorem qx88 : qOK (88, fun _ _ => .pop2, 1) := fun c p a b h0 h1 h2 => q_dec (q_bind (q_u1 h0) rfl)
theorem qx89 : qOK (89, fun _ _ => .dup, 1) := fun c p a b h0 h1 h2 => q_dec (q_bind (q_u1 h0) rfl)
theorem qx92 : qOK (92, fun _ _ => .dup2, 1) := fun c p a b h0 h1 h2 => q_dec (q_bind (q_u1 h0) rfl)
theorem qx96 : qOK (96, fun _ _ => .iadd, 1) := fun c p a b h0 h1 h2 => q_dec (q_bind (q_u1 h0) rfl)
theorem qx100 : qOK (100, fun _ _ => .isub, 1) := fun c p a b h0 h1 h2 => q_dec (q_bind (q_u1 h0) rfl)
theorem qx104 : qOK (104, fun _ _ => .imul, 1) := fun c p a b h0 h1 h2 => q_dec (q_bind (q_u1 h0) rfl)
theorem qx108 : qOK (108, fun _ _ => .idiv, 1) := fun c p a b h0 h1 h2 => q_dec (q_bind (q_u1 h0) rfl)
theorem qx109 : qOK (109, fun _ _ => .ldiv, 1) := fun c p a b h0 h1 h2 => q_dec (q_bind (q_u1 h0) rfl)
theorem qx112 : qOK (112, fun _ _ => .irem, 1) := fun c p a b h0 h1 h2 => q_dec (q_bind (q_u1 h0) rfl)
theorem qx113 : qOK (113, fun _ _ => .lrem, 1) := fun c p a b h0 h1 h2 => q_dec (q_bind (q_u1 h0) rfl)
theorem qx120 : qOK (120, fun _ _ => .ishl, 1) := fun c p a b h0 h1 h2 => q_dec (q_bind (q_u1 h0) rfl)
theorem qx121 : qOK (121, fun _ _ => .lshl, 1) := fun c p a b h0 h1 h2 => q_dec (q_bind (q_u1 h0) rfl)
theorem qx122 : qOK (122, fun _ _ => .ishr, 1) := fun c p a b h0 h1 h2 => q_dec (q_bind (q_u1 h0) rfl)
theorem qx124 : qOK (124, fun _ _ => .iushr, 1) := fun c p a b h0 h1 h2 => q_dec (q_bind (q_u1 h0) rfl)
theorem qx126 : qOK (126, fun _ _ => .iand, 1) := fun c p a b h0 h1 h2 => q_dec (q_bind (q_u1 h0) rfl)
theorem qx128 : qOK (128, fun _ _ => .ior, 1) := fun c p a b h0 h1 h2 => q_dec (q_bind (q_u1 h0) rfl)
theorem qx129 : qOK (129, fun _ _ => .lor, 1) := fun c p a b h0 h1 h2 => q_dec (q_bind (q_u1 h0) rfl)
theorem qx130 : qOK (130, fun _ _ => .ixor, 1) := fun c p a b h0 h1 h2 => q_dec (q_bind (q_u1 h0) rfl)
theorem qx132 : qOK (132, fun a b => .iinc a (ClassFile.Reader.signed 8 b), 3) := fun c p a b h0 h1 h2 => q_dec (q_bind (q_u1 h0) (q_bind (q_u1 (h1 (by decide))) (q_bind (q_s1 (h2 (by decide))) rfl)))
theorem qx133 : qOK (133, fun _ _ => .i2l, 1) := fun c p a b h0 h1 h2 => q_dec (q_bind (q_u1 h0) rfl)
theorem qx145 : qOK (145, fun _ _ => .i2b, 1) := fun c p a b h0 h1 h2 => q_dec (q_bind (q_u1 h0) rfl)
theorem qx146 : qOK (146, fun _ _ => .i2c, 1) := fun c p a b h0 h1 h2 => q_dec (q_bind (q_u1 h0) rfl)
theorem qx148 : qOK (148, fun _ _ => .lcmp, 1) := fun c p a b h0 h1 h2 => q_dec (q_bind (q_u1 h0) rfl)
theorem qx153 : qOK (153, fun a b => .ifCond .eq (ClassFile.Reader.signed 16 (a * 256 + b)), 3) := fun c p a b h0 h1 h2 => q_dec (q_bind (q_u1 h0) (q_bind (q_s2 (h1 (by decide)) (h2 (by decide))) rfl))
theorem qx154 : qOK (154, fun a b => .ifCond .ne (ClassFile.Reader.signed 16 (a * 256 + b)), 3) := fun c p a b h0 h1 h2 => q_dec (q_bind (q_u1 h0) (q_bind (q_s2 (h1 (by decide)) (h2 (by decide))) rfl))
theorem qx155 : qOK (155, fun a b => .ifCond .lt (ClassFile.Reader.signed 16 (a * 256 + b)), 3) := fun c p a b h0 h1 h2 => q_dec (q_bind (q_u1 h0) (q_bind (q_s2 (h1 (by decide)) (h2 (by decide))) rfl))
theorem qx156 : qOK (156, fun a b => .ifCond .ge (ClassFile.Reader.signed 16 (a * 256 + b)), 3) := fun c p a b h0 h1 h2 => q_dec (q_bind (q_u1 h0) (q_bind (q_s2 (h1 (by decide)) (h2 (by decide))) rfl))
theorem qx157 : qOK (157, fun a b => .ifCond .gt (ClassFile.Reader.signed 16 (a * 256 + b)), 3) := fun c p a b h0 h1 h2 => q_dec (q_bind (q_u1 h0) (q_bind (q_s2 (h1 (by decide)) (h2 (by decide))) rfl))
theorem qx158 : qOK (158, fun a b => .ifCond .le (ClassFile.Reader.signed 16 (a * 256 + b)), 3) := fun c p a b h0 h1 h2 => q_dec (q_bind (q_u1 h0) (q_bind (q_s2 (h1 (by decide)) (h2 (by decide))) rfl))
theorem qx159 : qOK (159, fun a b => .if_icmp .eq (ClassFile.Reader.signed 16 (a * 256 + b)), 3) := fun c p a b h0 h1 h2 => q_dec (q_bind (q_u1 h0) (q_bind (q_s2 (h1 (by decide)) (h2 (by decide))) rfl))
theorem qx160 : qOK (160, fun a b => .if_icmp .ne (ClassFile.Reader.signed 16 (a * 256 + b)), 3) := fun c p a b h0 h1 h2 => q_dec (q_bind (q_u1 h0) (q_bind (q_s2 (h1 (by decide)) (h2 (by decide))) rfl))
theorem qx161 : qOK (161, fun a b => .if_icmp .lt (ClassFile.Reader.signed 16 (a * 256 + b)), 3) := fun c p a b h0 h1 h2 => q_dec (q_bind (q_u1 h0) (q_bind (q_s2 (h1 (by decide)) (h2 (by decide))) rfl))
theorem qx162 : qOK (162, fun a b => .if_icmp .ge (ClassFile.Reader.signed 16 (a * 256 + b)), 3) := fun c p a b h0 h1 h2 => q_dec (q_bind (q_u1 h0) (q_bind (q_s2 (h1 (by decide)) (h2 (by decide))) rfl))
theorem qx163 : qOK (163, fun a b => .if_icmp .gt (ClassFile.Reader.signed 16 (a * 256 + b)), 3) := fun c p a b h0 h1 h2 => q_dec (q_bind (q_u1 h0) (q_bind (q_s2 (h1 (by decide)) (h2 (by decide))) rfl))
theorem qx164 : qOK (164, fun a b => .if_icmp .le (ClassFile.Reader.signed 16 (a * 256 + b)), 3) := fun c p a b h0 h1 h2 => q_dec (q_bind (q_u1 h0) (q_bind (q_s2 (h1 (by decide)) (h2 (by decide))) rfl))
theorem qx167 : qOK (167, fun a b => .goto (ClassFile.Reader.signed 16 (a * 256 + b)), 3) := fun c p a b h0 h1 h2 => q_dec (q_bind (q_u1 h0) (q_bind (q_s2 (h1 (by decide)) (h2 (by decide))) rfl))
theorem qx172 : qOK (172, fun _ _ => .ireturn, 1) := fun c p a b h0 h1 h2 => q_dec (q_bind (q_u1 h0) rfl)
theorem qx173 : qOK (173, fun _ _ => .lreturn, 1) := fun c p a b h0 h1 h2 => q_dec (q_bind (q_u1 h0) rfl)
theorem qx177 : qOK (177, fun _ _ => .return_, 1) := fun c p a b h0 h1 h2 => q_dec (q_bind (q_u1 h0) rfl)
theorem qx178 : qOK (178, fun a b => .getstatic (a * 256 + b), 3) := fun c p a b h0 h1 h2 => q_dec (q_bind (q_u1 h0) (q_bind (q_u2 (h1 (by decide)) (h2 (by decide))) rfl))
theorem qx180 : qOK (180, fun a b => .getfield (a * 256 + b), 3) := fun c p a b h0 h1 h2 => q_dec (q_bind (q_u1 h0) (q_bind (q_u2 (h1 (by decide)) (h2 (by decide))) rfl))
theorem qx181 : qOK (181, fun a b => .putfield (a * 256 + b), 3) := fun c p a b h0 h1 h2 => q_dec (q_bind (q_u1 h0) (q_bind (q_u2 (h1 (by decide)) (h2 (by decide))) rfl))
theorem qx182 : qOK (182, fun a b => .invokevirtual (a * 256 + b), 3) := fun c p a b h0 h1 h2 => q_dec (q_bind (q_u1 h0) (q_bind (q_u2 (h1 (by decide)) (h2 (by decide))) rfl))
theorem qx183 : qOK (183, fun a b => .invokespecial (a * 256 + b), 3) := fun c p a b h0 h1 h2 => q_dec (q_bind (q_u1 h0) (q_bind (q_u2 (h1 (by decide)) (h2 (by decide))) rfl))
theorem qx184 : qOK (184, fun a b => .invokestatic (a * 256 + b), 3) := fun c p a b h0 h1 h2 => q_dec (q_bind (q_u1 h0) (q_bind (q_u2 (h1 (by decide)) (h2 (by decide))) rfl))
theorem qx187 : qOK (187, fun a b => .new (a * 256 + b), 3) := fun c p a b h0 h1 h2 => q_dec (q_bind (q_u1 h0) (q_bind (q_u2 (h1 (by decide)) (h2 (by decide))) rfl))
theorem qx189 : qOK (189, fun a b => .anewarray (a * 256 + b), 3) := fun c p a b h0 h1 h2 => q_dec (q_bind (q_u1 h0) (q_bind (q_u2 (h1 (by decide)) (h2 (by decide))) rfl))
theorem qx190 : qOK (190, fun _ _ => .arraylength, 1) := fun c p a b h0 h1 h2 => q_dec (q_bind (q_u1 h0) rfl)
theorem qx191 : qOK (191, fun _ _ => .athrow, 1) := fun c p a b h0 h1 h2 => q_dec (q_bind (q_u1 h0) rfl)
def qT : Lean.RArray qL := .branch 89 (.branch 43 (.branch 20 (.branch 8 (.branch 5 (.branch 3 (.leaf (2, fun a b => .iconst (-1), 1)) (.branch 4 (.leaf (3, fun a b => .iconst 0, 1)) (.leaf (4, fun a b => .iconst 1, 1)))) (.branch 6 (.leaf (5, fun a b => .iconst 2, 1)) (.branch 7 (.leaf (6, fun a b => .iconst 3, 1)) (.leaf (7, fun a b => .iconst 4, 1))))) (.branch 17 (.branch 9 (.leaf (8, fun a b => .iconst 5, 1)) (.branch 16 (.leaf (9, fun a b => .lconst 0, 1)) (.leaf (16, fun a b => .bipush (ClassFile.Reader.signed 8 a), 2)))) (.branch 18 (.leaf (17, fun a b => .sipush (ClassFile.Reader.signed 16 (a * 256 + b)), 3)) (.branch 19 (.leaf (18, fun a b => .ldc a, 2)) (.leaf (19, fun a b => .ldc_w (a * 256 + b), 3)))))) (.branch 28 (.branch 25 (.branch 21 (.leaf (20, fun a b => .ldc2_w (a * 256 + b), 3)) (.branch 22 (.leaf (21, fun a b => .iload a, 2)) (.leaf (22, fun a b => .lload a, 2)))) (.branch 26 (.leaf (25, fun a b => .aload a, 2)) (.branch 27 (.leaf (26, fun a b => .iload_n 0, 1)) (.leaf (27, fun a b => .iload_n 1, 1))))) (.branch 31 (.branch 29 (.leaf (28, fun a b => .iload_n 2, 1)) (.branch 30 (.leaf (29, fun a b => .iload_n 3, 1)) (.leaf (30, fun a b => .lload_n 0, 1)))) (.branch 32 (.leaf (31, fun a b => .lload_n 1, 1)) (.branch 42 (.leaf (32, fun a b => .lload_n 2, 1)) (.leaf (42, fun a b => .aload_n 0, 1))))))) (.branch 61 (.branch 51 (.branch 46 (.branch 44 (.leaf (43, fun a b => .aload_n 1, 1)) (.branch 45 (.leaf (44, fun a b => .aload_n 2, 1)) (.leaf (45, fun a b => .aload_n 3, 1)))) (.branch 47 (.leaf (46, fun a b => .iaload, 1)) (.branch 50 (.leaf (47, fun a b => .laload, 1)) (.leaf (50, fun a b => .aaload, 1))))) (.branch 58 (.branch 54 (.leaf (51, fun a b => .baload, 1)) (.branch 55 (.leaf (54, fun a b => .istore a, 2)) (.leaf (55, fun a b => .lstore a, 2)))) (.branch 59 (.leaf (58, fun a b => .astore a, 2)) (.branch 60 (.leaf (59, fun a b => .istore_n 0, 1)) (.leaf (60, fun a b => .istore_n 1, 1)))))) (.branch 79 (.branch 76 (.branch 62 (.leaf (61, fun a b => .istore_n 2, 1)) (.branch 64 (.leaf (62, fun a b => .istore_n 3, 1)) (.leaf (64, fun a b => .lstore_n 1, 1)))) (.branch 77 (.leaf (76, fun a b => .astore_n 1, 1)) (.branch 78 (.leaf (77, fun a b => .astore_n 2, 1)) (.leaf (78, fun a b => .astore_n 3, 1))))) (.branch 84 (.branch 80 (.leaf (79, fun a b => .iastore, 1)) (.branch 83 (.leaf (80, fun a b => .lastore, 1)) (.leaf (83, fun a b => .aastore, 1)))) (.branch 87 (.leaf (84, fun a b => .bastore, 1)) (.branch 88 (.leaf (87, fun a b => .pop, 1)) (.leaf (88, fun a b => .pop2, 1)))))))) (.branch 155 (.branch 124 (.branch 109 (.branch 100 (.branch 92 (.leaf (89, fun a b => .dup, 1)) (.branch 96 (.leaf (92, fun a b => .dup2, 1)) (.leaf (96, fun a b => .iadd, 1)))) (.branch 104 (.leaf (100, fun a b => .isub, 1)) (.branch 108 (.leaf (104, fun a b => .imul, 1)) (.leaf (108, fun a b => .idiv, 1))))) (.branch 120 (.branch 112 (.leaf (109, fun a b => .ldiv, 1)) (.branch 113 (.leaf (112, fun a b => .irem, 1)) (.leaf (113, fun a b => .lrem, 1)))) (.branch 121 (.leaf (120, fun a b => .ishl, 1)) (.branch 122 (.leaf (121, fun a b => .lshl, 1)) (.leaf (122, fun a b => .ishr, 1)))))) (.branch 133 (.branch 129 (.branch 126 (.leaf (124, fun a b => .iushr, 1)) (.branch 128 (.leaf (126, fun a b => .iand, 1)) (.leaf (128, fun a b => .ior, 1)))) (.branch 130 (.leaf (129, fun a b => .lor, 1)) (.branch 132 (.leaf (130, fun a b => .ixor, 1)) (.leaf (132, fun a b => .iinc a (ClassFile.Reader.signed 8 b), 3))))) (.branch 148 (.branch 145 (.leaf (133, fun a b => .i2l, 1)) (.branch 146 (.leaf (145, fun a b => .i2b, 1)) (.leaf (146, fun a b => .i2c, 1)))) (.branch 153 (.leaf (148, fun a b => .lcmp, 1)) (.branch 154 (.leaf (153, fun a b => .ifCond .eq (ClassFile.Reader.signed 16 (a * 256 + b)), 3)) (.leaf (154, fun a b => .ifCond .ne (ClassFile.Reader.signed 16 (a * 256 + b)), 3))))))) (.branch 173 (.branch 161 (.branch 158 (.branch 156 (.leaf (155, fun a b => .ifCond .lt (ClassFile.Reader.signed 16 (a * 256 + b)), 3)) (.branch 157 (.leaf (156, fun a b => .ifCond .ge (ClassFile.Reader.signed 16 (a * 256 + b)), 3)) (.leaf (157, fun a b => .ifCond .gt (ClassFile.Reader.signed 16 (a * 256 + b)), 3)))) (.branch 159 (.leaf (158, fun a b => .ifCond .le (ClassFile.Reader.signed 16 (a * 256 + b)), 3)) (.branch 160 (.leaf (159, fun a b => .if_icmp .eq (ClassFile.Reader.signed 16 (a * 256 + b)), 3)) (.leaf (160, fun a b => .if_icmp .ne (ClassFile.Reader.signed 16 (a * 256 + b)), 3))))) (.branch 164 (.branch 162 (.leaf (161, fun a b => .if_icmp .lt (ClassFile.Reader.signed 16 (a * 256 + b)), 3)) (.branch 163 (.leaf (162, fun a b => .if_icmp .ge (ClassFile.Reader.signed 16 (a * 256 + b)), 3)) (.leaf (163, fun a b => .if_icmp .gt (ClassFile.Reader.signed 16 (a * 256 + b)), 3)))) (.branch 167 (.leaf (164, fun a b => .if_icmp .le (ClassFile.Reader.signed 16 (a * 256 + b)), 3)) (.branch 172 (.leaf (167, fun a b => .goto (ClassFile.Reader.signed 16 (a * 256 + b)), 3)) (.leaf (172, fun a b => .ireturn, 1)))))) (.branch 183 (.branch 180 (.branch 177 (.leaf (173, fun a b => .lreturn, 1)) (.branch 178 (.leaf (177, fun a b => .return_, 1)) (.leaf (178, fun a b => .getstatic (a * 256 + b), 3)))) (.branch 181 (.leaf (180, fun a b => .getfield (a * 256 + b), 3)) (.branch 182 (.leaf (181, fun a b => .putfield (a * 256 + b), 3)) (.leaf (182, fun a b => .invokevirtual (a * 256 + b), 3))))) (.branch 189 (.branch 184 (.leaf (183, fun a b => .invokespecial (a * 256 + b), 3)) (.branch 187 (.leaf (184, fun a b => .invokestatic (a * 256 + b), 3)) (.leaf (187, fun a b => .new (a * 256 + b), 3)))) (.branch 190 (.leaf (189, fun a b => .anewarray (a * 256 + b), 3)) (.branch 191 (.leaf (190, fun a b => .arraylength, 1)) (.leaf (191, fun a b => .athrow, 1))))))))
set_option maxRecDepth 100000 in
theorem qT_ok : ∀ l ∈ qFl qT, qOK l := by
  have e : qFl qT = [(2, fun a b => .iconst (-1), 1), (3, fun a b => .iconst 0, 1), (4, fun a b => .iconst 1, 1), (5, fun a b => .iconst 2, 1), (6, fun a b => .iconst 3, 1), (7, fun a b => .iconst 4, 1), (8, fun a b => .iconst 5, 1), (9, fun a b => .lconst 0, 1), (16, fun a b => .bipush (ClassFile.Reader.signed 8 a), 2), (17, fun a b => .sipush (ClassFile.Reader.signed 16 (a * 256 + b)), 3), (18, fun a b => .ldc a, 2), (19, fun a b => .ldc_w (a * 256 + b), 3), (20, fun a b => .ldc2_w (a * 256 + b), 3), (21, fun a b => .iload a, 2), (22, fun a b => .lload a, 2), (25, fun a b => .aload a, 2), (26, fun a b => .iload_n 0, 1), (27, fun a b => .iload_n 1, 1), (28, fun a b => .iload_n 2, 1), (29, fun a b => .iload_n 3, 1), (30, fun a b => .lload_n 0, 1), (31, fun a b => .lload_n 1, 1), (32, fun a b => .lload_n 2, 1), (42, fun a b => .aload_n 0, 1), (43, fun a b => .aload_n 1, 1), (44, fun a b => .aload_n 2, 1), (45, fun a b => .aload_n 3, 1), (46, fun a b => .iaload, 1), (47, fun a b => .laload, 1), (50, fun a b => .aaload, 1), (51, fun a b => .baload, 1), (54, fun a b => .istore a, 2), (55, fun a b => .lstore a, 2), (58, fun a b => .astore a, 2), (59, fun a b => .istore_n 0, 1), (60, fun a b => .istore_n 1, 1), (61, fun a b => .istore_n 2, 1), (62, fun a b => .istore_n 3, 1), (64, fun a b => .lstore_n 1, 1), (76, fun a b => .astore_n 1, 1), (77, fun a b => .astore_n 2, 1), (78, fun a b => .astore_n 3, 1), (79, fun a b => .iastore, 1), (80, fun a b => .lastore, 1), (83, fun a b => .aastore, 1), (84, fun a b => .bastore, 1), (87, fun a b => .pop, 1), (88, fun a b => .pop2, 1), (89, fun a b => .dup, 1), (92, fun a b => .dup2, 1), (96, fun a b => .iadd, 1), (100, fun a b => .isub, 1), (104, fun a b => .imul, 1), (108, fun a b => .idiv, 1), (109, fun a b => .ldiv, 1), (112, fun a b => .irem, 1), (113, fun a b => .lrem, 1), (120, fun a b => .ishl, 1), (121, fun a b => .lshl, 1), (122, fun a b => .ishr, 1), (124, fun a b => .iushr, 1), (126, fun a b => .iand, 1), (128, fun a b => .ior, 1), (129, fun a b => .lor, 1), (130, fun a b => .ixor, 1), (132, fun a b => .iinc a (ClassFile.Reader.signed 8 b), 3), (133, fun a b => .i2l, 1), (145, fun a b => .i2b, 1), (146, fun a b => .i2c, 1), (148, fun a b => .lcmp, 1), (153, fun a b => .ifCond .eq (ClassFile.Reader.signed 16 (a * 256 + b)), 3), (154, fun a b => .ifCond .ne (ClassFile.Reader.signed 16 (a * 256 + b)), 3), (155, fun a b => .ifCond .lt (ClassFile.Reader.signed 16 (a * 256 + b)), 3), (156, fun a b => .ifCond .ge (ClassFile.Reader.signed 16 (a * 256 + b)), 3), (157, fun a b => .ifCond .gt (ClassFile.Reader.signed 16 (a * 256 + b)), 3), (158, fun a b => .ifCond .le (ClassFile.Reader.signed 16 (a * 256 + b)), 3), (159, fun a b => .if_icmp .eq (ClassFile.Reader.signed 16 (a * 256 + b)), 3), (160, fun a b => .if_icmp .ne (ClassFile.Reader.signed 16 (a * 256 + b)), 3), (161, fun a b => .if_icmp .lt (ClassFile.Reader.signed 16 (a * 256 + b)), 3), (162, fun a b => .if_icmp .ge (ClassFile.Reader.signed 16 (a * 256 + b)), 3), (163, fun a b => .if_icmp .gt (ClassFile.Reader.signed 16 (a * 256 + b)), 3), (164, fun a b => .if_icmp .le (ClassFile.Reader.signed 16 (a * 256 + b)), 3), (167, fun a b => .goto (ClassFile.Reader.signed 16 (a * 256 + b)), 3), (172, fun a b => .ireturn, 1), (173, fun a b => .lreturn, 1), (177, fun a b => .return_, 1), (178, fun a b => .getstatic (a * 256 + b), 3), (180, fun a b => .getfield (a * 256 + b), 3), (181, fun a b => .putfield (a * 256 + b), 3), (182, fun a b => .invokevirtual (a * 256 + b), 3), (183, fun a b => .invokespecial (a * 256 + b), 3), (184, fun a b => .invokestatic (a * 256 + b), 3), (187, fun a b => .new (a * 256 + b), 3), (189, fun a b => .anewarray (a * 256 + b), 3), (190, fun a b => .arraylength, 1), (191, fun a b => .athrow, 1)] := rfl
  rw [e]
  exact List.forall_mem_cons.mpr ⟨qx2, List.forall_mem_cons.mpr ⟨qx3, List.forall_mem_cons.mpr ⟨qx4, List.forall_mem_cons.mpr ⟨qx5, List.forall_mem_cons.mpr ⟨qx6, List.forall_mem_cons.mpr ⟨qx7, List.forall_mem_cons.mpr ⟨qx8, List.forall_mem_cons.mpr ⟨qx9, List.forall_mem_cons.mpr ⟨qx16, List.forall_mem_cons.mpr ⟨qx17, List.forall_mem_cons.mpr ⟨qx18, List.forall_mem_cons.mpr ⟨qx19, List.forall_mem_cons.mpr ⟨qx20, List.forall_mem_cons.mpr ⟨qx21, List.forall_mem_cons.mpr ⟨qx22, List.forall_mem_cons.mpr ⟨qx25, List.forall_mem_cons.mpr ⟨qx26, List.forall_mem_cons.mpr ⟨qx27, List.forall_mem_cons.mpr ⟨qx28, List.forall_mem_cons.mpr ⟨qx29, List.forall_mem_cons.mpr ⟨qx30, List.forall_mem_cons.mpr ⟨qx31, List.forall_mem_cons.mpr ⟨qx32, List.forall_mem_cons.mpr ⟨qx42, List.forall_mem_cons.mpr ⟨qx43, List.forall_mem_cons.mpr ⟨qx44, List.forall_mem_cons.mpr ⟨qx45, List.forall_mem_cons.mpr ⟨qx46, List.forall_mem_cons.mpr ⟨qx47, List.forall_mem_cons.mpr ⟨qx50, List.forall_mem_cons.mpr ⟨qx51, List.forall_mem_cons.mpr ⟨qx54, List.forall_mem_cons.mpr ⟨qx55, List.forall_mem_cons.mpr ⟨qx58, List.forall_mem_cons.mpr ⟨qx59, List.forall_mem_cons.mpr ⟨qx60, List.forall_mem_cons.mpr ⟨qx61, List.forall_mem_cons.mpr ⟨qx62, List.forall_mem_cons.mpr ⟨qx64, List.forall_mem_cons.mpr ⟨qx76, List.forall_mem_cons.mpr ⟨qx77, List.forall_mem_cons.mpr ⟨qx78, List.forall_mem_cons.mpr ⟨qx79, List.forall_mem_cons.mpr ⟨qx80, List.forall_mem_cons.mpr ⟨qx83, List.forall_mem_cons.mpr ⟨qx84, List.forall_mem_cons.mpr ⟨qx87, List.forall_mem_cons.mpr ⟨qx88, List.forall_mem_cons.mpr ⟨qx89, List.forall_mem_cons.mpr ⟨qx92, List.forall_mem_cons.mpr ⟨qx96, List.forall_mem_cons.mpr ⟨qx100, List.forall_mem_cons.mpr ⟨qx104, List.forall_mem_cons.mpr ⟨qx108, List.forall_mem_cons.mpr ⟨qx109, List.forall_mem_cons.mpr ⟨qx112, List.forall_mem_cons.mpr ⟨qx113, List.forall_mem_cons.mpr ⟨qx120, List.forall_mem_cons.mpr ⟨qx121, List.forall_mem_cons.mpr ⟨qx122, List.forall_mem_cons.mpr ⟨qx124, List.forall_mem_cons.mpr ⟨qx126, List.forall_mem_cons.mpr ⟨qx128, List.forall_mem_cons.mpr ⟨qx129, List.forall_mem_cons.mpr ⟨qx130, List.forall_mem_cons.mpr ⟨qx132, List.forall_mem_cons.mpr ⟨qx133, List.forall_mem_cons.mpr ⟨qx145, List.forall_mem_cons.mpr ⟨qx146, List.forall_mem_cons.mpr ⟨qx148, List.forall_mem_cons.mpr ⟨qx153, List.forall_mem_cons.mpr ⟨qx154, List.forall_mem_cons.mpr ⟨qx155, List.forall_mem_cons.mpr ⟨qx156, List.forall_mem_cons.mpr ⟨qx157, List.forall_mem_cons.mpr ⟨qx158, List.forall_mem_cons.mpr ⟨qx159, List.forall_mem_cons.mpr ⟨qx160, List.forall_mem_cons.mpr ⟨qx161, List.forall_mem_cons.mpr ⟨qx162, List.forall_mem_cons.mpr ⟨qx163, List.forall_mem_cons.mpr ⟨qx164, List.forall_mem_cons.mpr ⟨qx167, List.forall_mem_cons.mpr ⟨qx172, List.forall_mem_cons.mpr ⟨qx173, List.forall_mem_cons.mpr ⟨qx177, List.forall_mem_cons.mpr ⟨qx178, List.forall_mem_cons.mpr ⟨qx180, List.forall_mem_cons.mpr ⟨qx181, List.forall_mem_cons.mpr ⟨qx182, List.forall_mem_cons.mpr ⟨qx183, List.forall_mem_cons.mpr ⟨qx184, List.forall_mem_cons.mpr ⟨qx187, List.forall_mem_cons.mpr ⟨qx189, List.forall_mem_cons.mpr ⟨qx190, List.forall_mem_cons.mpr ⟨qx191, List.forall_mem_nil _⟩⟩⟩⟩⟩⟩⟩⟩⟩⟩⟩⟩⟩⟩⟩⟩⟩⟩⟩⟩⟩⟩⟩⟩⟩⟩⟩⟩⟩⟩⟩⟩⟩⟩⟩⟩⟩⟩⟩⟩⟩⟩⟩⟩⟩⟩⟩⟩⟩⟩⟩⟩⟩⟩⟩⟩⟩⟩⟩⟩⟩⟩⟩⟩⟩⟩⟩⟩⟩⟩⟩⟩⟩⟩⟩⟩⟩⟩⟩⟩⟩⟩⟩⟩⟩⟩⟩⟩⟩⟩⟩⟩⟩⟩⟩⟩
end Pk3
