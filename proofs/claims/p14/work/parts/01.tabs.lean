-- ===== PART A: goes FIRST, ahead of the names: the tables' words, and 'selects' of the private methods out of them =====
/-- a private method of a class that the tables say can be made, by its rows of tables_1 -/
def lw_okq (q : MethodName × Nat) : Prop := (q.1.cls ≠ "java/lang/invoke/MethodHandle" ∧ q.1.cls ≠ "java/lang/invoke/VarHandle") ∧ Cond.instantiable q.1.cls q.2 ∈ tables_1 ∧ Cond.privateMethod q.1 ∈ tables_1 ∧ Cond.instanceMethod q.1 ∈ tables_1
def lw_gap : List (Nat × Cond) → Nat
  | [] => 0
  | x :: _ => x.1
noncomputable def lw_wk : List Cond → Nat → List (Nat × Cond) → Bool
  | _, _, [] => true
  | [], _, _ :: _ => false
  | c :: t, 0, x :: xs => decide (c = x.2) && lw_wk t (lw_gap xs) xs
  | _ :: t, n + 1, x :: xs => lw_wk t n (x :: xs)
theorem lw_wk_mem : ∀ (t : List Cond) (n : Nat) (xs : List (Nat × Cond)), lw_wk t n xs = true → ∀ x ∈ xs, x.2 ∈ t
  | _, _, [], _, x, hx => absurd hx List.not_mem_nil
  | [], n, y :: ys, h, x, hx => by
    cases n with
    | zero => exact absurd (show false = true from h) (by decide)
    | succ n => exact absurd (show false = true from h) (by decide)
  | c :: t, 0, y :: ys, h, x, hx => by
    have h : (decide (c = y.2) && lw_wk t (lw_gap ys) ys) = true := h
    rw [Bool.and_eq_true] at h
    rcases List.mem_cons.mp hx with e | hx
    · exact List.mem_cons.mpr (.inl (by rw [e]; exact (of_decide_eq_true h.1).symm))
    · exact List.mem_cons_of_mem _ (lw_wk_mem t (lw_gap ys) ys h.2 x hx)
  | c :: t, n + 1, y :: ys, h, x, hx => List.mem_cons_of_mem _ (lw_wk_mem t n (y :: ys) h x hx)
def lw_cl : List ((String × Nat) × Nat) := [(("WhalePost", 16), 27), (("WhalePost$Reader", 13), 222), (("WhalePost$Songs", 6), 87), (("WhalePost$Sea", 7), 29), (("WhalePost$Paths", 4), 29), (("WhalePost$Matching", 5), 20), (("java/lang/Throwable", 6), 802), (("WhalePostModel", 39), 28)]
def lw_ms_0 : List ((MethodName × Nat) × Nat × Nat) := [((⟨"WhalePost", "appendBytes", "(I)V"⟩, 16), 499, 0), ((⟨"WhalePost", "refused", "(I)I"⟩, 16), 6, 0), ((⟨"WhalePost$Reader", "readLine", "()Z"⟩, 13), 13, 1), ((⟨"WhalePost$Reader", "nextToken", "()V"⟩, 13), 2, 1), ((⟨"WhalePost$Reader", "passAll", "(CC)Z"⟩, 13), 2, 1), ((⟨"WhalePost$Reader", "sortOfLine", "()I"⟩, 13), 2, 1), ((⟨"WhalePost$Reader", "isToken", "(Ljava/lang/String;)Z"⟩, 13), 3, 1), ((⟨"WhalePost$Reader", "faulty", "(I)Z"⟩, 13), 55, 1), ((⟨"WhalePost$Reader", "readHead", "()Z"⟩, 13), 2, 1), ((⟨"WhalePost$Reader", "word", "(Ljava/lang/String;)Z"⟩, 13), 3, 1), ((⟨"WhalePost$Reader", "whole", "(II)Z"⟩, 13), 2, 1), ((⟨"WhalePost$Reader", "readIsland", "()Z"⟩, 13), 5, 1), ((⟨"WhalePost$Reader", "newName", "(II)Z"⟩, 13), 2, 1), ((⟨"WhalePost$Reader", "nameOfToken", "()I"⟩, 13), 2, 1), ((⟨"WhalePost$Reader", "letters", "()J"⟩, 13), 2, 1), ((⟨"WhalePost$Reader", "songOfToken", "()I"⟩, 13), 2, 1), ((⟨"WhalePost$Reader", "readWay", "(LWhalePost$Way;)Z"⟩, 13), 6, 1), ((⟨"WhalePost$Reader", "toldName", "(I)Z"⟩, 13), 2, 1), ((⟨"WhalePost$Reader", "readWhale", "(LWhalePost$Whale;)Z"⟩, 13), 8, 1), ((⟨"WhalePost$Reader", "kindOfToken", "()I"⟩, 13), 2, 1), ((⟨"WhalePost$Reader", "readBox", "(LWhalePost$Box;)Z"⟩, 13), 9, 1), ((⟨"WhalePost$Reader", "readSpout", "(LWhalePost$Spout;)Z"⟩, 13), 6, 1), ((⟨"WhalePost", "takeDraft", "()V"⟩, 16), 6, 0), ((⟨"WhalePost", "granted", "(I)I"⟩, 16), 6, 0), ((⟨"WhalePost", "isWhale", "(I)Z"⟩, 16), 14, 0), ((⟨"WhalePost", "isBox", "(I)Z"⟩, 16), 6, 0), ((⟨"WhalePost", "isIsland", "(I)Z"⟩, 16), 6, 0), ((⟨"WhalePost$Songs", "fallIn", "(I)I"⟩, 6), 10, 2), ((⟨"WhalePost$Songs", "raised", "(III)I"⟩, 6), 2, 2), ((⟨"WhalePost", "isNoteOfBox", "(II)Z"⟩, 16), 10, 0)]
def lw_ms_1 : List ((MethodName × Nat) × Nat × Nat) := [((⟨"WhalePost", "hearerIn", "(II)I"⟩, 16), 10, 0), ((⟨"WhalePost", "areTwoIslands", "(II)Z"⟩, 16), 19, 0), ((⟨"WhalePost", "hasPost", "()Z"⟩, 16), 11, 0), ((⟨"WhalePost", "isWay", "(I)Z"⟩, 16), 10, 0), ((⟨"WhalePost", "sentPart", "(II)I"⟩, 16), 14, 0), ((⟨"WhalePost", "refusalOfNewSong", "(II)I"⟩, 16), 31, 0), ((⟨"WhalePost$Songs", "keepSongsOf", "(II)I"⟩, 6), 6, 2), ((⟨"WhalePost$Songs", "isOfNotes", "(II)Z"⟩, 6), 3, 2), ((⟨"WhalePost$Songs", "isFarFromKept", "(III)Z"⟩, 6), 2, 2), ((⟨"WhalePost$Sea", "findFirstDays", "(III)V"⟩, 7), 30, 3), ((⟨"WhalePost$Sea", "goes", "(ILWhalePost$Way;II)Z"⟩, 7), 7, 3), ((⟨"WhalePost", "solveMatch", "()V"⟩, 16), 57, 0), ((⟨"WhalePost$Matching", "worth", "(III)I"⟩, 5), 7, 5), ((⟨"WhalePost$Matching", "choose", "(II)V"⟩, 5), 4, 5), ((⟨"WhalePost$Matching", "firstBest", "(III)I"⟩, 5), 2, 5), ((⟨"WhalePost$Sea", "isFitting", "(I)Z"⟩, 7), 27, 3), ((⟨"WhalePost$Sea", "whalesReaching", "(II)I"⟩, 7), 21, 3), ((⟨"WhalePost$Paths", "waysOutOf", "(I)I"⟩, 4), 14, 4), ((⟨"WhalePost$Paths", "findShortest", "(I)V"⟩, 4), 11, 4), ((⟨"WhalePost$Paths", "findRests", "()V"⟩, 4), 5, 4), ((⟨"WhalePost$Paths", "daysOver", "(III)I"⟩, 4), 2, 4), ((⟨"WhalePost$Paths", "nextOf", "(II)I"⟩, 4), 2, 4), ((⟨"WhalePost", "heardWithSlips", "(I)I"⟩, 16), 11, 0), ((⟨"WhalePost$Songs", "draw", "()I"⟩, 6), 6, 2), ((⟨"WhalePost", "keepForUndo", "()V"⟩, 16), 10, 0), ((⟨"WhalePost", "hasRefused", "(I)Z"⟩, 16), 14, 0), ((⟨"WhalePost", "hasGranted", "()Z"⟩, 16), 3, 0), ((⟨"java/lang/Throwable", "fillInStackTrace", "(I)Ljava/lang/Throwable;"⟩, 6), 72, 6), ((⟨"WhalePostModel", "good", "()V"⟩, 39), 161, 7), ((⟨"WhalePostModel", "no", "(I)I"⟩, 39), 5, 7)]
def lw_ms_2 : List ((MethodName × Nat) × Nat × Nat) := [((⟨"WhalePostModel", "next", "()V"⟩, 39), 2, 7), ((⟨"WhalePostModel", "look", "(I)I"⟩, 39), 2, 7), ((⟨"WhalePostModel", "readLine", "()V"⟩, 39), 8, 7), ((⟨"WhalePostModel", "isWord", "(Ljava/lang/String;)Z"⟩, 39), 3, 7), ((⟨"WhalePostModel", "postLine", "()V"⟩, 39), 4, 7), ((⟨"WhalePostModel", "wrong", "(II)V"⟩, 39), 2, 7), ((⟨"WhalePostModel", "after", "(Ljava/lang/String;II)I"⟩, 39), 3, 7), ((⟨"WhalePostModel", "must", "(Ljava/lang/String;)V"⟩, 39), 2, 7), ((⟨"WhalePostModel", "takesWord", "(Ljava/lang/String;)Z"⟩, 39), 2, 7), ((⟨"WhalePostModel", "number", "(II)I"⟩, 39), 2, 7), ((⟨"WhalePostModel", "begins", "(Ljava/lang/String;Z)Z"⟩, 39), 6, 7), ((⟨"WhalePostModel", "islandLine", "()V"⟩, 39), 2, 7), ((⟨"WhalePostModel", "newName", "(I)V"⟩, 39), 2, 7), ((⟨"WhalePostModel", "mustName", "()V"⟩, 39), 2, 7), ((⟨"WhalePostModel", "find", "()I"⟩, 39), 6, 7), ((⟨"WhalePostModel", "isSong", "(I)Z"⟩, 39), 2, 7), ((⟨"WhalePostModel", "wayLine", "()V"⟩, 39), 2, 7), ((⟨"WhalePostModel", "islandPassed", "()I"⟩, 39), 2, 7), ((⟨"WhalePostModel", "named", "(II)I"⟩, 39), 2, 7), ((⟨"WhalePostModel", "whaleLine", "()V"⟩, 39), 7, 7), ((⟨"WhalePostModel", "islandBehind", "(Ljava/lang/String;)I"⟩, 39), 7, 7), ((⟨"WhalePostModel", "boxLine", "()V"⟩, 39), 4, 7), ((⟨"WhalePostModel", "spoutLine", "()V"⟩, 39), 6, 7), ((⟨"WhalePostModel", "isWhale", "(I)Z"⟩, 39), 17, 7), ((⟨"WhalePostModel", "ofWhale", "(II)I"⟩, 39), 2, 7), ((⟨"WhalePostModel", "isBox", "(I)Z"⟩, 39), 6, 7), ((⟨"WhalePostModel", "ofBox", "(II)I"⟩, 39), 2, 7), ((⟨"WhalePostModel", "isIsland", "(I)Z"⟩, 39), 6, 7), ((⟨"WhalePostModel", "songLong", "(I)I"⟩, 39), 2, 7), ((⟨"WhalePostModel", "noteIn", "(III)I"⟩, 39), 6, 7)]
def lw_ms_3 : List ((MethodName × Nat) × Nat × Nat) := [((⟨"WhalePostModel", "boxLong", "(I)I"⟩, 39), 6, 7), ((⟨"WhalePostModel", "heardNow", "(I)I"⟩, 39), 6, 7), ((⟨"WhalePostModel", "hearsIn", "(IIII)I"⟩, 39), 2, 7), ((⟨"WhalePostModel", "unlike", "(IIIII)I"⟩, 39), 2, 7), ((⟨"WhalePostModel", "wayOf", "(II)I"⟩, 39), 6, 7), ((⟨"WhalePostModel", "isClosed", "(I)Z"⟩, 39), 2, 7), ((⟨"WhalePostModel", "nearOf", "(IZ)I"⟩, 39), 9, 7), ((⟨"WhalePostModel", "apartOf", "(II)I"⟩, 39), 14, 7), ((⟨"WhalePostModel", "songWhy", "(II)I"⟩, 39), 14, 7), ((⟨"WhalePostModel", "newSongs", "(IIZ)I"⟩, 39), 2, 7), ((⟨"WhalePostModel", "power", "(I)I"⟩, 39), 2, 7), ((⟨"WhalePostModel", "digitsApart", "(III)I"⟩, 39), 2, 7), ((⟨"WhalePostModel", "hearsItself", "(II)Z"⟩, 39), 14, 7), ((⟨"WhalePostModel", "setsOut", "(III)I"⟩, 39), 14, 7), ((⟨"WhalePostModel", "arrivalOf", "(IIII)I"⟩, 39), 6, 7), ((⟨"WhalePostModel", "layDays", "(III)V"⟩, 39), 2, 7), ((⟨"WhalePostModel", "goesBy", "(III)V"⟩, 39), 3, 7), ((⟨"WhalePostModel", "dayBy", "(III)I"⟩, 39), 2, 7), ((⟨"WhalePostModel", "bringsOf", "(II)I"⟩, 39), 6, 7), ((⟨"WhalePostModel", "lays", "(II)Z"⟩, 39), 2, 7), ((⟨"WhalePostModel", "surestBut", "(II)I"⟩, 39), 13, 7), ((⟨"WhalePostModel", "seekMatch", "()V"⟩, 39), 18, 7), ((⟨"WhalePostModel", "tryMatch", "(IIII)V"⟩, 39), 2, 7), ((⟨"WhalePostModel", "fitsAll", "(I)Z"⟩, 39), 18, 7), ((⟨"WhalePostModel", "reachOf", "(II)I"⟩, 39), 6, 7), ((⟨"WhalePostModel", "doLead", "(III)Z"⟩, 39), 13, 7), ((⟨"WhalePostModel", "seekRound", "(I)I"⟩, 39), 6, 7), ((⟨"WhalePostModel", "layFar", "()V"⟩, 39), 2, 7), ((⟨"WhalePostModel", "tryRound", "(III)V"⟩, 39), 2, 7), ((⟨"WhalePostModel", "note1", "()V"⟩, 39), 16, 7)]
def lw_ms_4 : List ((MethodName × Nat) × Nat × Nat) := [((⟨"WhalePostModel", "isNot", "(I)Z"⟩, 39), 6, 7)]
def lw_ms : List ((MethodName × Nat) × Nat × Nat) := lw_ms_0 ++ (lw_ms_1 ++ (lw_ms_2 ++ (lw_ms_3 ++ (lw_ms_4))))
def lw_cx : List (Nat × Cond) := lw_cl.map (fun c => (c.2, Cond.instantiable c.1.1 c.1.2))
def lw_mx : List (Nat × Cond) := lw_ms.flatMap (fun m => [(m.2.1, Cond.privateMethod m.1.1), (0, Cond.instanceMethod m.1.1)])
theorem lw_k1 : lw_wk tables_1 (lw_gap lw_cx) lw_cx = true := by decide +kernel
theorem lw_k2 : lw_cl.all (fun c => decide (c.1.1 ≠ "java/lang/invoke/MethodHandle") && decide (c.1.1 ≠ "java/lang/invoke/VarHandle")) = true := by decide +kernel
theorem lw_k3 : lw_wk tables_1 (lw_gap lw_mx) lw_mx = true := by decide +kernel
theorem lw_k4 : lw_ms.all (fun m => decide ((lw_cl.map (fun c => c.1))[m.2.2]? = some (m.1.1.cls, m.1.2))) = true := by decide +kernel
def lw_privs : List (MethodName × Nat) := lw_ms.map (fun m => m.1)
def lw_tbl : List Cond := k2_sels lw_privs ++ tables_1
theorem lw_privs_ok : ∀ q ∈ lw_privs, lw_okq q := by
  intro q hq
  obtain ⟨m, hm, rfl⟩ := List.mem_map.mp hq
  have h4 := of_decide_eq_true (List.all_eq_true.mp lw_k4 m hm)
  obtain ⟨c, hc, e⟩ := List.mem_map.mp (List.mem_of_getElem? h4)
  have h2 := List.all_eq_true.mp lw_k2 c hc
  rw [Bool.and_eq_true] at h2
  have e1 : c.1.1 = m.1.1.cls := congrArg Prod.fst e
  have e2 : c.1.2 = m.1.2 := congrArg Prod.snd e
  have h1 : Cond.instantiable c.1.1 c.1.2 ∈ tables_1 := lw_wk_mem _ _ _ lw_k1 (c.2, Cond.instantiable c.1.1 c.1.2) (List.mem_map.mpr ⟨c, hc, rfl⟩)
  have a1 := of_decide_eq_true h2.1
  have a2 := of_decide_eq_true h2.2
  rw [e1] at a1 a2
  rw [e1, e2] at h1
  have hp : Cond.privateMethod m.1.1 ∈ tables_1 := lw_wk_mem _ _ _ lw_k3 (m.2.1, Cond.privateMethod m.1.1) (List.mem_flatMap.mpr ⟨m, hm, List.mem_cons.mpr (.inl rfl)⟩)
  have hi : Cond.instanceMethod m.1.1 ∈ tables_1 := lw_wk_mem _ _ _ lw_k3 (0, Cond.instanceMethod m.1.1) (List.mem_flatMap.mpr ⟨m, hm, List.mem_cons.mpr (.inr (List.mem_cons.mpr (.inl rfl)))⟩)
  exact ⟨⟨a1, a2⟩, h1, hp, hi⟩
