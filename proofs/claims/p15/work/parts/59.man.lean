section Pk0
/-! contracts by hand: what they say -/
def ct_X5_isToken_0 : aCt := (mX5_isToken, [.inr (.inl [82]), .inr (.inl [1000010, 1000011, 1000012, 1000013, 1000014, 1000015, 1000016, 1000017, 1000018, 1000019, 1000020, 1000021, 1000022, 1000023, 1000024, 1000025, 1000026, 1000027, 1000028, 1000029, 1000030, 1000031, 1000032])], ([], []), [(some (.inl [(0, 0, 1)]), [], [], []), (some (.inl [(1, 1, 1)]), [], [], [])], [], [], 0)
def ct_X12_isWord_0 : aCt := (mX12_isWord, [.inr (.inl [196]), .inr (.inl [1000034, 1000035, 1000036, 1000037, 1000038, 1000039, 1000040, 1000041, 1000042, 1000043, 1000044, 1000045, 1000046, 1000047, 1000048, 1000049, 1000050, 1000051, 1000052, 1000053, 1000054, 1000055, 1000056])], ([], []), [(some (.inl [(0, 0, 1)]), [], [], []), (some (.inl [(1, 1, 1)]), [], [((196, 6), [(2, 2, 1)]), ((196, 13), [(0, 0, 1)]), ((196, 8), [(1, 8, 1)])], [])], [(1000002, 0, 0)], [], 0)
def ct_X12_isWord_1 : aCt := (mX12_isWord, [.inr (.inl [196]), .inr (.inl [1000034, 1000035, 1000036, 1000037, 1000038, 1000039, 1000040, 1000041, 1000042, 1000043, 1000044, 1000045, 1000046, 1000047, 1000048, 1000049, 1000050, 1000051, 1000052, 1000053, 1000054, 1000055, 1000056])], ([((196, 6), [(0, 1, 1), (3, 3, 1), (59, 59, 1)])], []), [(some (.inl [(0, 0, 1)]), [], [], [])], [(1000002, 0, 0)], [], 0)
def ct_X12_isWord_2 : aCt := (mX12_isWord, [.inr (.inl [196]), .inr (.inl [1000034, 1000035, 1000036, 1000037, 1000038, 1000039, 1000040, 1000041, 1000042, 1000043, 1000044, 1000045, 1000046, 1000047, 1000048, 1000049, 1000050, 1000051, 1000052, 1000053, 1000054, 1000055, 1000056])], ([((196, 6), [(1, 1, 1), (3, 3, 1)])], []), [(some (.inl [(0, 0, 1)]), [], [], [])], [(1000002, 0, 0)], [], 0)
def ct_X12_isWord_3 : aCt := (mX12_isWord, [.inr (.inl [196]), .inr (.inl [1000034, 1000035, 1000036, 1000037, 1000038, 1000039, 1000040, 1000041, 1000042, 1000043, 1000044, 1000045, 1000046, 1000047, 1000048, 1000049, 1000050, 1000051, 1000052, 1000053, 1000054, 1000055, 1000056])], ([((196, 6), [(59, 59, 1)])], []), [(some (.inl [(0, 0, 1)]), [], [], [])], [(1000002, 0, 0)], [], 0)
def ct_X12_isWord_4 : aCt := (mX12_isWord, [.inr (.inl [196]), .inr (.inl [1000034, 1000035, 1000036, 1000037, 1000038, 1000039, 1000040, 1000041, 1000042, 1000043, 1000044, 1000045, 1000046, 1000047, 1000048, 1000049, 1000050, 1000051, 1000052, 1000053, 1000054, 1000055, 1000056])], ([((196, 6), [(0, 0, 1)])], []), [(some (.inl [(0, 0, 1)]), [], [], [])], [(1000002, 0, 0)], [], 0)
def ct_X12_copy_0 : aCt := (mX12_copy, [.inr (.inl [200]), .inl [(0, 0, 1)], .inr (.inl [199]), .inl [(0, 0, 1)], .inl [(363, 363, 1)]], ([((200, 0), [(2, 4, 1)]), ((200, 4), [(1, 1, 1)]), ((200, 7), [(0, 0, 1)]), ((200, 9), [(1, 1, 1)]), ((200, 184), [(0, 0, 1)]), ((200, 185), [(0, 0, 1)]), ((200, 186), [(0, 0, 1)]), ((200, 187), [(0, 0, 1)]), ((200, 188), [(0, 0, 1)]), ((200, 189), [(0, 0, 1)])], []), [(none, [], [((199, 0), [(2, 4, 1)]), ((199, 4), [(1, 1, 1)]), ((199, 7), [(0, 0, 1)]), ((199, 9), [(1, 1, 1)]), ((199, 184), [(0, 0, 1)]), ((199, 185), [(0, 0, 1)]), ((199, 186), [(0, 0, 1)]), ((199, 187), [(0, 0, 1)]), ((199, 188), [(0, 0, 1)]), ((199, 189), [(0, 0, 1)])], [])], [(199, 0, 363)], [], 1)
def ct_X12_isWord_5 : aCt := (mX12_isWord, [.inr (.inl [196]), .inr (.inl [1000034, 1000035, 1000036, 1000037, 1000038, 1000039, 1000040, 1000041, 1000042, 1000043, 1000044, 1000045, 1000046, 1000047, 1000048, 1000049, 1000050, 1000051, 1000052, 1000053, 1000054, 1000055, 1000056])], ([((196, 6), [(0, 0, 1), (59, 59, 1)])], []), [(some (.inl [(0, 0, 1)]), [], [], [])], [(1000002, 0, 0)], [], 0)
def ct_X12_copy_1 : aCt := (mX12_copy, [.inr (.inl [200]), .inl [(0, 0, 1)], .inr (.inl [199]), .inl [(0, 0, 1)], .inl [(363, 363, 1)]], ([((200, 0), [(2, 4, 1)]), ((200, 4), [(2, 2, 1)]), ((200, 9), [(1, 1, 1)]), ((200, 185), [(0, 0, 1)]), ((200, 186), [(0, 0, 1)]), ((200, 187), [(0, 0, 1)]), ((200, 188), [(0, 0, 1)]), ((200, 189), [(0, 0, 1)])], []), [(none, [], [((199, 0), [(2, 4, 1)]), ((199, 4), [(2, 2, 1)]), ((199, 9), [(1, 1, 1)]), ((199, 185), [(0, 0, 1)]), ((199, 186), [(0, 0, 1)]), ((199, 187), [(0, 0, 1)]), ((199, 188), [(0, 0, 1)]), ((199, 189), [(0, 0, 1)])], [])], [(199, 0, 363)], [], 1)
def ct_X12_copy_2 : aCt := (mX12_copy, [.inr (.inl [200]), .inl [(0, 0, 1)], .inr (.inl [199]), .inl [(0, 0, 1)], .inl [(363, 363, 1)]], ([((200, 0), [(2, 4, 1)]), ((200, 4), [(1, 1, 1)]), ((200, 9), [(1, 1, 1)]), ((200, 184), [(0, 0, 1)]), ((200, 185), [(0, 0, 1)]), ((200, 186), [(0, 0, 1)]), ((200, 187), [(0, 0, 1)]), ((200, 188), [(0, 0, 1)]), ((200, 189), [(0, 0, 1)])], []), [(none, [], [((199, 0), [(2, 4, 1)]), ((199, 4), [(1, 1, 1)]), ((199, 9), [(1, 1, 1)]), ((199, 184), [(0, 0, 1)]), ((199, 185), [(0, 0, 1)]), ((199, 186), [(0, 0, 1)]), ((199, 187), [(0, 0, 1)]), ((199, 188), [(0, 0, 1)]), ((199, 189), [(0, 0, 1)])], [])], [(199, 0, 363)], [], 1)
def ct_X12_copy_3 : aCt := (mX12_copy, [.inr (.inl [200]), .inl [(0, 0, 1)], .inr (.inl [199]), .inl [(0, 0, 1)], .inl [(363, 363, 1)]], ([((200, 0), [(2, 4, 1)]), ((200, 4), [(3, 3, 1)]), ((200, 9), [(1, 1, 1)]), ((200, 186), [(0, 0, 1)]), ((200, 187), [(0, 0, 1)]), ((200, 188), [(0, 0, 1)]), ((200, 189), [(0, 0, 1)])], []), [(none, [], [((199, 0), [(2, 4, 1)]), ((199, 4), [(3, 3, 1)]), ((199, 9), [(1, 1, 1)]), ((199, 186), [(0, 0, 1)]), ((199, 187), [(0, 0, 1)]), ((199, 188), [(0, 0, 1)]), ((199, 189), [(0, 0, 1)])], [])], [(199, 0, 363)], [], 1)
def ct_X12_copy_4 : aCt := (mX12_copy, [.inr (.inl [200]), .inl [(0, 0, 1)], .inr (.inl [199]), .inl [(0, 0, 1)], .inl [(363, 363, 1)]], ([((200, 0), [(2, 4, 1)]), ((200, 4), [(4, 4, 1)]), ((200, 9), [(1, 1, 1)]), ((200, 187), [(0, 0, 1)]), ((200, 188), [(0, 0, 1)]), ((200, 189), [(0, 0, 1)])], []), [(none, [], [((199, 0), [(2, 4, 1)]), ((199, 4), [(4, 4, 1)]), ((199, 9), [(1, 1, 1)]), ((199, 187), [(0, 0, 1)]), ((199, 188), [(0, 0, 1)]), ((199, 189), [(0, 0, 1)])], [])], [(199, 0, 363)], [], 1)
def ct_X12_copy_5 : aCt := (mX12_copy, [.inr (.inl [200]), .inl [(0, 0, 1)], .inr (.inl [199]), .inl [(0, 0, 1)], .inl [(363, 363, 1)]], ([((200, 0), [(2, 4, 1)]), ((200, 4), [(5, 5, 1)]), ((200, 9), [(1, 1, 1)]), ((200, 188), [(0, 0, 1)]), ((200, 189), [(0, 0, 1)])], []), [(none, [], [((199, 0), [(2, 4, 1)]), ((199, 4), [(5, 5, 1)]), ((199, 9), [(1, 1, 1)]), ((199, 188), [(0, 0, 1)]), ((199, 189), [(0, 0, 1)])], [])], [(199, 0, 363)], [], 1)
def ct_X12_copy_6 : aCt := (mX12_copy, [.inr (.inl [200]), .inl [(0, 0, 1)], .inr (.inl [199]), .inl [(0, 0, 1)], .inl [(363, 363, 1)]], ([((200, 0), [(2, 4, 1)]), ((200, 4), [(6, 6, 1)]), ((200, 9), [(1, 1, 1)]), ((200, 189), [(0, 0, 1)])], []), [(none, [], [((199, 0), [(2, 4, 1)]), ((199, 4), [(6, 6, 1)]), ((199, 9), [(1, 1, 1)]), ((199, 189), [(0, 0, 1)])], [])], [(199, 0, 363)], [], 1)
def ct_X12_copy_7 : aCt := (mX12_copy, [.inr (.inl [200]), .inl [(0, 0, 1)], .inr (.inl [199]), .inl [(0, 0, 1)], .inl [(363, 363, 1)]], ([((200, 0), [(2, 4, 1)]), ((200, 4), [(7, 7, 1)]), ((200, 9), [(1, 1, 1)])], []), [(none, [], [((199, 0), [(2, 4, 1)]), ((199, 4), [(7, 7, 1)]), ((199, 9), [(1, 1, 1)])], [])], [(199, 0, 363)], [], 1)
def ct_X12_copy_15 : aCt := (mX12_copy, [.inr (.inl [199]), .inl [(11, 53, 7)], .inr (.inl [201]), .inl [(28, 70, 6)], .inl [(6, 6, 1)]], ([], []), [(none, [], [], [])], [(201, 28, 76)], [], 1)
def ct_X12_setsOut_0 : aCt := (mX12_setsOut, [.inr (.inl [196]), .inl [(11, 11, 1)], .inl [(0, 3, 1)], .inl aTop], ([((199, 5), [(12, 12, 1)])], []), [(some (.inl aTop), [], [], [])], [], [], 2)
def ct_X12_setsOut_1 : aCt := (mX12_setsOut, [.inr (.inl [196]), .inl [(10, 10, 1)], .inl [(0, 3, 1)], .inl aTop], ([((199, 5), [(11, 12, 1)])], []), [(some (.inl aTop), [], [], [])], [], [], 2)
def ct_X12_setsOut_2 : aCt := (mX12_setsOut, [.inr (.inl [196]), .inl [(9, 9, 1)], .inl [(0, 3, 1)], .inl aTop], ([((199, 5), [(10, 12, 1)])], []), [(some (.inl aTop), [], [], [])], [], [], 2)
def ct_X12_setsOut_3 : aCt := (mX12_setsOut, [.inr (.inl [196]), .inl [(8, 8, 1)], .inl [(0, 3, 1)], .inl aTop], ([((199, 5), [(9, 12, 1)])], []), [(some (.inl aTop), [], [], [])], [], [], 2)
def ct_X12_setsOut_4 : aCt := (mX12_setsOut, [.inr (.inl [196]), .inl [(7, 7, 1)], .inl [(0, 3, 1)], .inl aTop], ([((199, 5), [(8, 12, 1)])], []), [(some (.inl aTop), [], [], [])], [], [], 2)
def ct_X12_setsOut_5 : aCt := (mX12_setsOut, [.inr (.inl [196]), .inl [(6, 6, 1)], .inl [(0, 3, 1)], .inl aTop], ([((199, 5), [(7, 12, 1)])], []), [(some (.inl aTop), [], [], [])], [], [], 2)
def ct_X12_setsOut_6 : aCt := (mX12_setsOut, [.inr (.inl [196]), .inl [(5, 5, 1)], .inl [(0, 3, 1)], .inl aTop], ([((199, 5), [(6, 12, 1)])], []), [(some (.inl aTop), [], [], [])], [], [], 2)
def ct_X12_setsOut_7 : aCt := (mX12_setsOut, [.inr (.inl [196]), .inl [(4, 4, 1)], .inl [(0, 3, 1)], .inl aTop], ([((199, 5), [(5, 12, 1)])], []), [(some (.inl aTop), [], [], [])], [], [], 2)
def ct_X12_setsOut_8 : aCt := (mX12_setsOut, [.inr (.inl [196]), .inl [(3, 3, 1)], .inl [(0, 3, 1)], .inl aTop], ([((199, 5), [(4, 12, 1)])], []), [(some (.inl aTop), [], [], [])], [], [], 2)
def ct_X12_setsOut_9 : aCt := (mX12_setsOut, [.inr (.inl [196]), .inl [(2, 2, 1)], .inl [(0, 3, 1)], .inl aTop], ([((199, 5), [(3, 12, 1)])], []), [(some (.inl aTop), [], [], [])], [], [], 2)
def ct_X12_setsOut_10 : aCt := (mX12_setsOut, [.inr (.inl [196]), .inl [(1, 1, 1)], .inl [(0, 3, 1)], .inl aTop], ([((199, 5), [(2, 12, 1)])], []), [(some (.inl aTop), [], [], [])], [], [], 2)
def ct_X12_setsOut_11 : aCt := (mX12_setsOut, [.inr (.inl [196]), .inl [(0, 0, 1)], .inl [(0, 3, 1)], .inl aTop], ([((199, 5), [(1, 12, 1)])], []), [(some (.inl aTop), [], [], [])], [], [], 2)
def ct_X12_lowest_0 : aCt := (mX12_lowest, [.inr (.inr false), .inr (.inr true), .inl [(0, 1, 1)]], ([], []), [(some (.inr ()), [], [], [])], [], [], 1)
def ct_X12_copy_16 : aCt := (mX12_copy, [.inr (.inl [207]), .inl [(0, 0, 1)], .inr (.inl [208]), .inl [(0, 0, 1)], .inl [(0, 0, 1)]], ([], []), [(none, [], [], [])], [(208, 0, 0)], [], 1)
def ct_X12_copy_17 : aCt := (mX12_copy, [.inr (.inl [207]), .inl [(0, 0, 1)], .inr (.inl [208]), .inl [(0, 0, 1)], .inl [(1, 1, 1)]], ([], []), [(none, [], [], [])], [(208, 0, 1)], [], 1)
def ct_X12_copy_18 : aCt := (mX12_copy, [.inr (.inl [207]), .inl [(0, 0, 1)], .inr (.inl [208]), .inl [(0, 0, 1)], .inl [(2, 2, 1)]], ([], []), [(none, [], [], [])], [(208, 0, 2)], [], 1)
def ct_X12_copy_19 : aCt := (mX12_copy, [.inr (.inl [207]), .inl [(0, 0, 1)], .inr (.inl [208]), .inl [(0, 0, 1)], .inl [(3, 3, 1)]], ([], []), [(none, [], [], [])], [(208, 0, 3)], [], 1)
def ct_X12_copy_20 : aCt := (mX12_copy, [.inr (.inl [207]), .inl [(0, 0, 1)], .inr (.inl [208]), .inl [(0, 0, 1)], .inl [(4, 4, 1)]], ([], []), [(none, [], [], [])], [(208, 0, 4)], [], 1)
def ct_X12_copy_21 : aCt := (mX12_copy, [.inr (.inl [207]), .inl [(0, 0, 1)], .inr (.inl [208]), .inl [(0, 0, 1)], .inl [(5, 5, 1)]], ([], []), [(none, [], [], [])], [(208, 0, 5)], [], 1)
def ct_X12_copy_22 : aCt := (mX12_copy, [.inr (.inl [207]), .inl [(0, 0, 1)], .inr (.inl [208]), .inl [(0, 0, 1)], .inl [(6, 6, 1)]], ([], []), [(none, [], [], [])], [(208, 0, 6)], [], 1)
def ct_X12_copy_23 : aCt := (mX12_copy, [.inr (.inl [207]), .inl [(0, 0, 1)], .inr (.inl [208]), .inl [(0, 0, 1)], .inl [(7, 7, 1)]], ([], []), [(none, [], [], [])], [(208, 0, 7)], [], 1)
def ct_X12_copy_24 : aCt := (mX12_copy, [.inr (.inl [207]), .inl [(0, 0, 1)], .inr (.inl [208]), .inl [(0, 0, 1)], .inl [(8, 8, 1)]], ([], []), [(none, [], [], [])], [(208, 0, 8)], [], 1)
def ct_X12_doLead_0 : aCt := (mX12_doLead, [.inr (.inl [196]), .inl [(0, 6, 1)], .inl [(0, 6, 1)], .inl aTop], ([], []), [(some (.inl [(0, 1, 1)]), [], [], [])], [], [], 3)
def ct_X12_copy_25 : aCt := (mX12_copy, [.inr (.inl [211]), .inl [(0, 0, 1)], .inr (.inl [212]), .inl [(0, 0, 1)], .inl [(1, 1, 1)]], ([], []), [(none, [], [], [])], [(212, 0, 1)], [], 1)
def ct_X12_copy_26 : aCt := (mX12_copy, [.inr (.inl [211]), .inl [(0, 0, 1)], .inr (.inl [212]), .inl [(0, 0, 1)], .inl [(2, 2, 1)]], ([], []), [(none, [], [], [])], [(212, 0, 2)], [], 1)
def ct_X12_copy_27 : aCt := (mX12_copy, [.inr (.inl [211]), .inl [(0, 0, 1)], .inr (.inl [212]), .inl [(0, 0, 1)], .inl [(3, 3, 1)]], ([], []), [(none, [], [], [])], [(212, 0, 3)], [], 1)
def ct_X12_copy_28 : aCt := (mX12_copy, [.inr (.inl [211]), .inl [(0, 0, 1)], .inr (.inl [212]), .inl [(0, 0, 1)], .inl [(4, 4, 1)]], ([], []), [(none, [], [], [])], [(212, 0, 4)], [], 1)
def ct_X12_copy_29 : aCt := (mX12_copy, [.inr (.inl [211]), .inl [(0, 0, 1)], .inr (.inl [212]), .inl [(0, 0, 1)], .inl [(5, 5, 1)]], ([], []), [(none, [], [], [])], [(212, 0, 5)], [], 1)
def ct_X12_copy_30 : aCt := (mX12_copy, [.inr (.inl [211]), .inl [(0, 0, 1)], .inr (.inl [212]), .inl [(0, 0, 1)], .inl [(6, 6, 1)]], ([], []), [(none, [], [], [])], [(212, 0, 6)], [], 1)
def ct_X12_copy_31 : aCt := (mX12_copy, [.inr (.inl [211]), .inl [(0, 0, 1)], .inr (.inl [212]), .inl [(0, 0, 1)], .inl [(7, 7, 1)]], ([], []), [(none, [], [], [])], [(212, 0, 7)], [], 1)
def ct_X12_note1_0 : aCt := (mX12_note1, [.inr (.inl [196])], ([], []), [(none, [], [((196, 20), [(1, 12, 1)])], [])], [(196, 20, 21), (202, 0, 912)], [], 2)
def ct_X12_copy_32 : aCt := (mX12_copy, [.inr (.inl [202]), .inl [(0, 836, 76)], .inr (.inl [201]), .inl [(0, 0, 1)], .inl [(76, 76, 1)]], ([], []), [(none, [], [], [])], [(201, 0, 76)], [], 1)
def ct_X12_copy_33 : aCt := (mX12_copy, [.inr (.inl [201]), .inl [(0, 0, 1)], .inr (.inl [203]), .inl [(0, 152, 76)], .inl [(76, 76, 1)]], ([], []), [(none, [], [], [])], [(203, 0, 228)], [], 1)
def ct_X12_copy_34 : aCt := (mX12_copy, [.inr (.inl [203]), .inl [(0, 152, 76)], .inr (.inl [201]), .inl [(0, 0, 1)], .inl [(76, 76, 1)]], ([], []), [(none, [], [], [])], [(201, 0, 76)], [], 1)
end Pk0
section Pk1
/-! by hand: rows that change whole, copy, note1 -/
theorem ags_c {vs : List zV} {p : aAg} {ps : List aAg} (h : aArgs vs (p :: ps)) : ∃ v t, vs = v :: t ∧ aAgR v p ∧ aArgs t ps := by
  cases vs with
  | nil => exact False.elim h
  | cons v t => exact ⟨v, t, rfl, h.1, h.2⟩
theorem ags_n {vs : List zV} (h : aArgs vs []) : vs = [] := by
  cases vs with
  | nil => rfl
  | cons v t => exact False.elim h
theorem zn_ge {a b : Nat} (h : b ≤ a) (ha : a < 2 ^ 31) : zcond .ge (nI a) (nI b) = true := decide_eq_true (nI_le h ha)
theorem zn_nge {a b : Nat} (h : a < b) (hb : b < 2 ^ 31) : zcond .ge (nI a) (nI b) = false := decide_eq_false (nI_ge h hb)
theorem zn_in {k n : Nat} (h : k < n) (hn : n < 2 ^ 31) : zin (nI k) n = true := decide_eq_true (vp_in_nI h hn)
theorem nI_at {x : Int32} {k : Nat} (h : x.toInt = (k : Int)) : x = nI k := by
  have := i32_rg x
  exact Int32.toInt_inj.mp (by rw [h, nI_toInt (by omega)])
theorem zH_ext {h h' : zH} (e1 : h.1 = h'.1) (e2 : ∀ x j, h.2.1 x j = h'.2.1 x j) (e3 : h.2.2 = h'.2.2) : h = h' := by
  obtain ⟨a, b, c⟩ := h
  obtain ⟨a', b', c'⟩ := h'
  have e4 : b = b' := by funext x j; exact e2 x j
  dsimp only at e1 e3
  rw [e1, e4, e3]
/-- no implication speaks of this cell -/
def aNoC (w : aWd) (g : Nat) : Bool := w.2.2.2.all (fun i => !(Nat.beq i.2.1.1 g) && i.1.all (fun c => !(Nat.beq c.1.1 g)))
def aNoS (w : aWd) (g k : Nat) : Bool := w.2.2.2.all (fun i => !(Nat.beq i.2.1.1 g && Nat.beq i.2.1.2 k) && i.1.all (fun c => !(Nat.beq c.1.1 g && Nat.beq c.1.2 k)))
theorem hOK_row {w : aWd} {h h' : zH} {g : Nat} (e1 : h'.1 = h.1) (e2 : h'.2.2.2.1 = h.2.2.2.1) (hs : ∀ x j, x ≠ g → h'.2.1 x j = h.2.1 x j) (hn : ∀ j, aIn (h'.2.1 g j).toInt (gSeg (w.2.1 g) j)) (hno : aNoC w g = true) (ho : hOK w h) : hOK w h' := by
  obtain ⟨c5, c6, c7, c8, c9⟩ := ho
  refine ⟨fun a q hq => ?_, fun a k => ?_, fun a k b hb => by rw [e2]; exact c7 a k b hb, fun i hi => ?_, by rw [e1]; exact c9⟩
  · have := c5 a q hq
    unfold zsh at this ⊢
    rw [e1]; exact this
  · by_cases e : a = g
    · rw [e]; exact hn k
    · rw [hs a k e]; exact c6 a k
  · have hno := List.all_eq_true.mp hno i hi
    simp only [Bool.and_eq_true, Bool.not_eq_true', List.all_eq_true] at hno
    have hold := c8 i hi
    intro hc
    rw [hs _ _ (nbeq_f hno.1)]
    refine hold (fun c hcm => ?_)
    have := hc c hcm
    rw [hs _ _ (nbeq_f (hno.2 c hcm))] at this
    exact this
theorem hOK_set {w : aWd} {h : zH} {g k : Nat} {v : Int32} (hv : aIn v.toInt (gSeg (w.2.1 g) k)) (hno : aNoS w g k = true) (ho : hOK w h) : hOK w (zsI h g k v) := by
  obtain ⟨c5, c6, c7, c8, c9⟩ := ho
  refine ⟨c5, fun a j => ?_, c7, fun i hi => ?_, c9⟩
  · rw [zsI_at]
    split
    · next e => rw [e.1, e.2]; exact hv
    · exact c6 a j
  · have hno := List.all_eq_true.mp hno i hi
    simp only [Bool.and_eq_true, Bool.not_eq_true', List.all_eq_true] at hno
    have hne : ∀ {a b : Nat}, (Nat.beq a g && Nat.beq b k) = false → ¬ (a = g ∧ b = k) := by
      intro a b hq z
      rw [z.1, z.2] at hq
      simp at hq
    have hold := c8 i hi
    intro hc
    rw [zsI_no (hne hno.1)]
    refine hold (fun c hcm => ?_)
    have := hc c hcm
    rw [zsI_no (hne (hno.2 c hcm))] at this
    exact this
/-! copy -/
def cpyH (h : zH) (f a g b n : Nat) : zH := (h.1, zrow h.2.1 g (fun j => if b ≤ j ∧ j < b + n then h.2.1 f (a + (j - b)) else h.2.1 g j), h.2.2.1, h.2.2.2.1, h.2.2.2.2)
section HCPY
variable {h : zH} {f a g b n x j k : Nat}
theorem cpyH_at : (cpyH h f a g b n).2.1 x j = if x = g ∧ b ≤ j ∧ j < b + n then h.2.1 f (a + (j - b)) else h.2.1 x j := by
  simp only [cpyH, zrow]
  by_cases e : x = g
  · subst e
    by_cases q : b ≤ j ∧ j < b + n
    · rw [if_pos rfl, if_pos q, if_pos ⟨rfl, q⟩]
    · rw [if_pos rfl, if_neg q, if_neg (fun z => q z.2)]
  · rw [if_neg e, if_neg (fun z => e z.1)]
theorem cpyH_0 : cpyH h f a g b 0 = h := zH_ext rfl (fun x j => by rw [cpyH_at, if_neg (by omega)]) rfl
theorem cpyH_s : zsI (cpyH h f a g b k) g (b + k) (h.2.1 f (a + k)) = cpyH h f a g b (k + 1) := zH_ext rfl (fun x j => by
  rw [zsI_at, cpyH_at, cpyH_at]
  by_cases e : x = g ∧ j = b + k
  · rw [if_pos e, if_pos ⟨e.1, by omega, by omega⟩]
    have : a + (j - b) = a + k := by omega
    rw [this]
  · rw [if_neg e]
    by_cases q : x = g ∧ b ≤ j ∧ j < b + k
    · rw [if_pos q, if_pos ⟨q.1, q.2.1, by omega⟩]
    · rw [if_neg q, if_neg (fun z => q ⟨z.1, z.2.1, by have : j ≠ b + k := fun y => e ⟨z.1, y⟩; omega⟩)]) rfl
end HCPY
theorem lp_copy {d : Nat} {h : zH} {f g nf ng a b n : Nat} (sf : zsh h f = some (14, nf)) (sg : zsh h g = some (14, ng)) (hne : f ≠ g) (ha : a + n ≤ nf) (hb : b + n ≤ ng) (hn : nf < 100000) (hn2 : ng < 100000) : ∀ r k : Nat, k + r = n → zEx none d mX12_copy (3, [(5, .inl (nI k)), (0, .inr (.inr (some f))), (1, .inl (nI a)), (2, .inr (.inr (some g))), (3, .inl (nI b)), (4, .inl (nI n))], [], cpyH h f a g b k) (fun v h' => v = none ∧ h' = cpyH h f a g b n) := by
  intro r
  induction r with
  | zero =>
    intro k hk
    obtain rfl : k = n := by omega
    refine ex_iload (pc' := 5) dX12_copy_3 rfl rfl ?_
    refine ex_iload (pc' := 7) dX12_copy_5 rfl rfl ?_
    refine ex_icmp_t (pc' := 28) dX12_copy_7 (zn_ge (Nat.le_refl _) (by omega)) (by decide) ?_
    exact ex_vret dX12_copy_28 rfl ⟨rfl, rfl⟩
  | succ r ih =>
    intro k hk
    refine ex_iload (pc' := 5) dX12_copy_3 rfl rfl ?_
    refine ex_iload (pc' := 7) dX12_copy_5 rfl rfl ?_
    refine ex_icmp_f (pc' := 10) dX12_copy_7 (zn_nge (by omega) (by omega)) (by decide) rfl ?_
    refine ex_aload_n (pc' := 11) dX12_copy_10 rfl rfl ?_
    refine ex_iload_n (pc' := 12) dX12_copy_11 rfl rfl ?_
    refine ex_iload (pc' := 14) dX12_copy_12 rfl rfl ?_
    refine ex_iadd (pc' := 15) (v := nI (b + k)) dX12_copy_14 (nI_add _ _) rfl ?_
    refine ex_aload_n (pc' := 16) dX12_copy_15 rfl rfl ?_
    refine ex_iload_n (pc' := 17) dX12_copy_16 rfl rfl ?_
    refine ex_iload (pc' := 19) dX12_copy_17 rfl rfl ?_
    refine ex_iadd (pc' := 20) (v := nI (a + k)) dX12_copy_19 (nI_add _ _) rfl ?_
    refine ex_iald (pc' := 21) (n := nf) (v := h.2.1 f (a + k)) dX12_copy_20 sf (zn_in (by omega) (by omega)) (by rw [nI_clamp (by omega), cpyH_at, if_neg (fun z => hne z.1)]) rfl ?_
    refine en_iast (pc' := 22) (n := ng) (jj := b + k) (h2 := cpyH h f a g b (k + 1)) dX12_copy_21 sg ⟨zn_in (by omega) (by omega), nI_clamp (by omega)⟩ cpyH_s rfl ?_
    refine ex_iinc (pc' := 25) (v := nI (k + 1)) (ls' := [(5, .inl (nI (k + 1))), (0, .inr (.inr (some f))), (1, .inl (nI a)), (2, .inr (.inr (some g))), (3, .inl (nI b)), (4, .inl (nI n))]) dX12_copy_22 rfl (by decide) (nI_1 k) rfl rfl ?_
    refine ex_goto (pc' := 3) dX12_copy_25 (by decide) ?_
    exact ih (k + 1) (by omega)
theorem k_copy {d : Nat} {h : zH} {f g nf ng a b n : Nat} (sf : zsh h f = some (14, nf)) (sg : zsh h g = some (14, ng)) (hne : f ≠ g) (ha : a + n ≤ nf) (hb : b + n ≤ ng) (hn : nf < 100000) (hn2 : ng < 100000) : zCv d mX12_copy [.inr (.inr (some f)), .inl (nI a), .inr (.inr (some g)), .inl (nI b), .inl (nI n)] h (fun h' => h' = cpyH h f a g b n) := by
  show zEx none d mX12_copy (0, [(0, .inr (.inr (some f))), (1, .inl (nI a)), (2, .inr (.inr (some g))), (3, .inl (nI b)), (4, .inl (nI n))], [], h) _
  refine ex_iconst (v := nI 0) (pc' := 1) dX12_copy_0 rfl rfl ?_
  refine ex_istore (pc' := 3) (ls' := [(5, .inl (nI 0)), (0, .inr (.inr (some f))), (1, .inl (nI a)), (2, .inr (.inr (some g))), (3, .inl (nI b)), (4, .inl (nI n))]) dX12_copy_1 (by decide) rfl rfl ?_
  have := lp_copy (d := d) (h := h) sf sg hne ha hb hn hn2 n 0 (by omega)
  rw [cpyH_0] at this
  exact this
/-- each place's range fits the other's -/
def cpyChk (w : aWd) (f g nf ng : Nat) (A B N : aI) (lo hi : Nat) : Bool :=
  aNoC w g && (!(Nat.beq f g) && (!(Nat.beq g 196) && (Nat.blt nf 100000 && (Nat.blt ng 100000 &&
  (aEn A).all (fun a => (aEn B).all (fun b => (aEn N).all (fun n => ile 0 a && (ile 0 b && (ile 0 n && (Nat.ble (a.toNat + n.toNat) nf && (Nat.ble (b.toNat + n.toNat) ng && (Nat.ble lo b.toNat && (Nat.ble (b.toNat + n.toNat) hi &&
    (List.range n.toNat).all (fun j => aLe (gSeg (w.2.1 f) (a.toNat + j)) (gSeg (w.2.1 g) (b.toNat + j)))))))))))))))) 
theorem S_cpy {w : aWd} {f g nf ng : Nat} {A B N : aI} {lo hi D : Nat} {pre : List ((Nat × Nat) × aI) × aU} (hw1 : w.1 f = some (14, nf)) (hw2 : w.1 g = some (14, ng)) (hck : cpyChk w f g nf ng A B N lo hi = true) : aSpec w (mX12_copy, [.inr (.inl [f]), .inl A, .inr (.inl [g]), .inl B, .inl N], pre, [(none, [], [], [])], [(g, lo, hi)], [], D) := by
  intro d hd vs h hargs hok hpre
  obtain ⟨v0, ta0, rfl, ga0, ha0⟩ := ags_c hargs
  obtain ⟨v1, ta1, rfl, ga1, ha1⟩ := ags_c ha0
  obtain ⟨v2, ta2, rfl, ga2, ha2⟩ := ags_c ha1
  obtain ⟨v3, ta3, rfl, ga3, ha3⟩ := ags_c ha2
  obtain ⟨v4, ta4, rfl, ga4, ha4⟩ := ags_c ha3
  obtain rfl := ags_n ha4
  obtain ⟨q0, m0, e0⟩ := ga0
  obtain ⟨x1, e1, i1⟩ := ga1
  obtain ⟨q2, m2, e2⟩ := ga2
  obtain ⟨x3, e3, i3⟩ := ga3
  obtain ⟨x4, e4, i4⟩ := ga4
  have m0 : q0 = f := by simpa using m0
  have m2 : q2 = g := by simpa using m2
  subst e0; subst e1; subst e2; subst e3; subst e4; subst m0; subst m2
  simp only [cpyChk, Bool.and_eq_true, List.all_eq_true, ile_iff, Nat.ble_eq, Nat.blt_eq, Bool.not_eq_true'] at hck
  obtain ⟨k1, k2, k3, k4, k5, k6⟩ := hck
  obtain ⟨a0, b0, n0, y1, y2, y3, y4, y5⟩ := k6 _ (aEn_in i1) _ (aEn_in i3) _ (aEn_in i4)
  have ex1 : x1 = nI x1.toInt.toNat := nI_at (by omega)
  have ex3 : x3 = nI x3.toInt.toNat := nI_at (by omega)
  have ex4 : x4 = nI x4.toInt.toNat := nI_at (by omega)
  generalize x1.toInt.toNat = a at *
  generalize x3.toInt.toNat = b at *
  generalize x4.toInt.toNat = n at *
  subst ex1; subst ex3; subst ex4
  refine zEx.mono (k_copy (d := d) (hok.1 _ _ hw1) (hok.1 _ _ hw2) (nbeq_f k2) y1 y2 k4 k5) (fun v h' hq => ?_)
  obtain ⟨rfl, rfl⟩ := hq
  refine ⟨hOK_row (h := h) (g := q2) rfl rfl (fun x j hx => by rw [cpyH_at, if_neg (fun z => hx z.1)]) (fun j => ?_) k1 hok, ⟨rfl, rfl, fun x j hm => ?_, fun _ _ _ => rfl, fun hm => ?_⟩, _, List.mem_cons_self, rfl, trivial, (fun q hq => nomatch hq), (fun q hq => nomatch hq)⟩
  · rw [cpyH_at]
    split
    · next z =>
      have := aLe_in (y5 (j - b) (List.mem_range.mpr (by omega))) (hok.2.1 q0 (a + (j - b)))
      have e : b + (j - b) = j := by omega
      rw [e] at this
      exact this
    · exact hok.2.1 q2 j
  · rw [cpyH_at, if_neg]
    intro z
    have : inM [(q2, lo, hi)] x j = true := by
      refine List.any_eq_true.mpr ⟨_, List.mem_cons_self, ?_⟩
      simp only [Bool.and_eq_true, Nat.beq_eq, Nat.ble_eq, Nat.blt_eq]
      exact ⟨z.1.symm, by omega, by omega⟩
    rw [this] at hm
    cases hm
  · exact hMn.eq (by rw [cpyH_at, if_neg (fun z => nbeq_f k3 z.1.symm)]) (by rw [cpyH_at, if_neg (fun z => nbeq_f k3 z.1.symm)])
end Pk1
section Pk2
/-! by hand: note1 -/
def shfH (h : zH) (k : Nat) : zH := (h.1, zrow h.2.1 202 (fun j => if j < k then h.2.1 202 (j + 76) else h.2.1 202 j), h.2.2.1, h.2.2.2.1, h.2.2.2.2)
theorem shfH_at {h : zH} {k x j : Nat} : (shfH h k).2.1 x j = if x = 202 ∧ j < k then h.2.1 202 (j + 76) else h.2.1 x j := by
  simp only [shfH, zrow]
  by_cases e : x = 202
  · subst e
    by_cases q : j < k
    · rw [if_pos rfl, if_pos q, if_pos ⟨rfl, q⟩]
    · rw [if_pos rfl, if_neg q, if_neg (fun z => q z.2)]
  · rw [if_neg e, if_neg (fun z => e z.1)]
theorem shfH_0 {h : zH} : shfH h 0 = h := zH_ext rfl (fun x j => by rw [shfH_at, if_neg (by omega)]) rfl
theorem shfH_s {h : zH} {k : Nat} : zsI (shfH h k) 202 k (h.2.1 202 (k + 76)) = shfH h (k + 1) := zH_ext rfl (fun x j => by
  rw [zsI_at, shfH_at, shfH_at]
  by_cases e : x = 202 ∧ j = k
  · rw [if_pos e, if_pos ⟨e.1, by omega⟩, e.2]
  · rw [if_neg e]
    by_cases q : x = 202 ∧ j < k
    · rw [if_pos q, if_pos ⟨q.1, by omega⟩]
    · rw [if_neg q, if_neg (fun z => q ⟨z.1, by have : j ≠ k := fun y => e ⟨z.1, y⟩; omega⟩)]) rfl
theorem lp_shift {d : Nat} {h : zH} {Q : Option zV → zH → Prop} (s0 : zsh h 196 = some (12, 39)) (s2 : zsh h 202 = some (14, 912)) (r2 : h.2.2.2.1 196 18 = some 202) (kk : zEx none d mX12_note1 (39, [(1, .inl (nI 836)), (0, .inr (.inr (some 196)))], [], shfH h 836) Q) : ∀ r k : Nat, k + r = 836 → zEx none d mX12_note1 (11, [(1, .inl (nI k)), (0, .inr (.inr (some 196)))], [], shfH h k) Q := by
  intro r
  induction r with
  | zero =>
    intro k hk
    obtain rfl : k = 836 := by omega
    refine ex_iload_n (pc' := 12) dX12_note1_11 rfl rfl ?_
    refine ex_sipush (v := nI 836) (pc' := 15) dX12_note1_12 (by decide) rfl ?_
    refine ex_icmp_t (pc' := 39) dX12_note1_15 (zn_ge (Nat.le_refl _) (by omega)) (by decide) ?_
    exact kk
  | succ r ih =>
    intro k hk
    refine ex_iload_n (pc' := 12) dX12_note1_11 rfl rfl ?_
    refine ex_sipush (v := nI 836) (pc' := 15) dX12_note1_12 (by decide) rfl ?_
    refine ex_icmp_f (pc' := 18) dX12_note1_15 (zn_nge (by omega) (by omega)) (by decide) rfl ?_
    refine ex_aload_n (pc' := 19) dX12_note1_18 rfl rfl ?_
    refine ex_getR (pc' := 22) (n := 39) (r := 202) dX12_note1_19 fl_12_29 s0 (by decide) r2 rfl ?_
    refine ex_iload_n (pc' := 23) dX12_note1_22 rfl rfl ?_
    refine ex_aload_n (pc' := 24) dX12_note1_23 rfl rfl ?_
    refine ex_getR (pc' := 27) (n := 39) (r := 202) dX12_note1_24 fl_12_29 s0 (by decide) r2 rfl ?_
    refine ex_iload_n (pc' := 28) dX12_note1_27 rfl rfl ?_
    refine ex_bipush (v := nI 76) (pc' := 30) dX12_note1_28 (by decide) rfl ?_
    refine ex_iadd (pc' := 31) (v := nI (k + 76)) dX12_note1_30 (nI_add _ _) rfl ?_
    refine ex_iald (pc' := 32) (n := 912) (v := h.2.1 202 (k + 76)) dX12_note1_31 s2 (zn_in (by omega) (by omega)) (by rw [nI_clamp (by omega), shfH_at, if_neg (by omega)]) rfl ?_
    refine en_iast (pc' := 33) (n := 912) (jj := k) (h2 := shfH h (k + 1)) dX12_note1_32 s2 ⟨zn_in (by omega) (by omega), nI_clamp (by omega)⟩ shfH_s rfl ?_
    refine ex_iinc (pc' := 36) (v := nI (k + 1)) (ls' := [(1, .inl (nI (k + 1))), (0, .inr (.inr (some 196)))]) dX12_note1_33 rfl (by decide) (nI_1 k) rfl rfl ?_
    refine ex_goto (pc' := 11) dX12_note1_36 (by decide) ?_
    exact ih (k + 1) (by omega)
/-- behind the shift: the row is copied, one more counts -/
theorem n1_tail {d u : Nat} {h : zH} {ls : zL} {Q : Option zV → zH → Prop} (s0 : zsh h 196 = some (12, 39)) (s1 : zsh h 201 = some (14, 76)) (s2 : zsh h 202 = some (14, 912)) (r1 : h.2.2.2.1 196 17 = some 201) (r2 : h.2.2.2.1 196 18 = some 202) (hu : h.2.1 196 20 = nI u) (hu2 : u ≤ 11) (hl : zget ls 0 = some (.inr (.inr (some 196))))
    (hQ : Q none (zsI (cpyH h 201 0 202 (76 * u) 76) 196 20 (nI (u + 1)))) : zEx none (d + 1) mX12_note1 (49, ls, [], h) Q := by
  refine ex_aload_n (pc' := 50) dX12_note1_49 hl rfl ?_
  refine ex_getR (pc' := 53) (n := 39) (r := 201) dX12_note1_50 fl_12_26 s0 (by decide) r1 rfl ?_
  refine ex_iconst (v := nI 0) (pc' := 54) dX12_note1_53 rfl rfl ?_
  refine ex_aload_n (pc' := 55) dX12_note1_54 hl rfl ?_
  refine ex_getR (pc' := 58) (n := 39) (r := 202) dX12_note1_55 fl_12_29 s0 (by decide) r2 rfl ?_
  refine ex_bipush (v := nI 76) (pc' := 60) dX12_note1_58 (by decide) rfl ?_
  refine ex_aload_n (pc' := 61) dX12_note1_60 hl rfl ?_
  refine ex_getI (pc' := 64) (n := 39) (v := nI u) dX12_note1_61 fl_12_183 s0 (by decide) hu rfl ?_
  have em : nI 76 * nI u = nI (76 * u) := by
    refine Int32.toInt_inj.mp ?_
    rw [Int32.toInt_mul, nI_toInt (by omega), nI_toInt (by omega), nI_toInt (by omega)]
    rw [bmod_fit (by omega) (by omega)]
    omega
  refine ex_imul (pc' := 65) (v := nI (76 * u)) dX12_note1_64 em rfl ?_
  refine ex_bipush (v := nI 76) (pc' := 67) dX12_note1_65 (by decide) rfl ?_
  refine ex_callsV (pc' := 70) (vs := [.inr (.inr (some 201)), .inl (nI 0), .inr (.inr (some 202)), .inl (nI (76 * u)), .inl (nI 76)]) (rest := []) dX12_note1_67 ml_12_176 (Or.inl rfl) ⟨zble rfl, zble rfl⟩ rfl rfl (zble rfl) rfl (k_copy s1 s2 (by decide) (by omega) (by omega) (by decide) (by decide)) ?_
  intro h' e
  subst e
  refine ex_aload_n (pc' := 71) dX12_note1_70 hl rfl ?_
  refine ex_dup (pc' := 72) dX12_note1_71 rfl rfl ?_
  refine ex_getI (pc' := 75) (n := 39) (v := nI u) dX12_note1_72 fl_12_183 s0 (by decide) (by rw [cpyH_at, if_neg (by omega)]; exact hu) rfl ?_
  refine ex_iconst (v := nI 1) (pc' := 76) dX12_note1_75 rfl rfl ?_
  refine ex_iadd (pc' := 77) (v := nI (u + 1)) dX12_note1_76 (nI_add _ _) rfl ?_
  refine ex_putI (pc' := 80) (n := 39) dX12_note1_77 fl_12_183 s0 (Or.inl rfl) (Or.inl rfl) rfl ?_
  exact ex_vret dX12_note1_80 rfl hQ
def n1Chk (w : aWd) : Bool := aNoC w 202 && (aNoS w 196 20 && ((List.range 836).all (fun j => aLe (gSeg (w.2.1 202) (j + 76)) (gSeg (w.2.1 202) j)) && ((List.range 12).all (fun u => (List.range 76).all (fun j => aLe (gSeg (w.2.1 201) j) (gSeg (w.2.1 202) (76 * u + j)))) && aLe [(0, 12, 1)] (gSeg (w.2.1 196) 20) && aLe (gSeg (w.2.1 196) 20) [(0, 12, 1)])))
set_option maxRecDepth 100000 in
theorem n1Chk_wd : n1Chk wd = true := by decide +kernel
theorem S_X12_note1_0 : aSpec wd ct_X12_note1_0 := by
  intro d hd vs h hargs hok hpre
  match vs, hargs with
  | [v0], ⟨⟨q0, m0, e0⟩, _⟩ =>
    have m0 : q0 = 196 := by simpa using m0
    subst e0; subst m0
    have hck := n1Chk_wd
    simp only [n1Chk, Bool.and_eq_true, List.all_eq_true] at hck
    obtain ⟨k1, k2, k3, ⟨k4, k5⟩, k6⟩ := hck
    obtain ⟨d', rfl⟩ : ∃ d', d = d' + 1 := ⟨d - 1, by have : 2 ≤ d := hd; omega⟩
    have s0 : zsh h 196 = some (12, 39) := hok.1 196 (12, 39) (by decide +kernel)
    have s1 : zsh h 201 = some (14, 76) := hok.1 201 (14, 76) (by decide +kernel)
    have s2 : zsh h 202 = some (14, 912) := hok.1 202 (14, 912) (by decide +kernel)
    have r1 : h.2.2.2.1 196 17 = some 201 := hok.2.2.1 196 17 201 (by decide +kernel)
    have r2 : h.2.2.2.1 196 18 = some 202 := hok.2.2.1 196 18 202 (by decide +kernel)
    have hu := aHull_in (aLe_in k6 (hok.2.1 196 20))
    have hu0 : (0 : Int) ≤ (h.2.1 196 20).toInt := hu.1
    have hu1 : (h.2.1 196 20).toInt ≤ (12 : Int) := hu.2
    obtain ⟨u, hu12, eu⟩ : ∃ u : Nat, u ≤ 12 ∧ h.2.1 196 20 = nI u := ⟨(h.2.1 196 20).toInt.toNat, by omega, nI_at (by omega)⟩
    have fin : ∀ (h1 : zH) (u : Nat), u ≤ 11 → hOK wd h1 → h1.1 = h.1 → h1.2.2.2 = h.2.2.2 → (∀ x j, ¬ (x = 196 ∧ j = 20) → ¬ (x = 202 ∧ j < 912) → h1.2.1 x j = h.2.1 x j) → (fun (v : Option zV) (h' : zH) => hOK wd h' ∧ hFr ct_X12_note1_0.2.2.2.2.1 ct_X12_note1_0.2.2.2.2.2.1 h h' ∧ ∃ p ∈ ct_X12_note1_0.2.2.2.1, aPst [.inr (.inr (some 196))] v h' p) none (zsI (cpyH h1 201 0 202 (76 * u) 76) 196 20 (nI (u + 1))) := by
      intro h1 u hu ho1 e1 e2 e3
      have hv : aIn (nI (u + 1)).toInt [(0, 12, 1)] := by
        rw [nI_toInt (by omega)]
        exact aR1_in (lo := 0) (hi := 12) (by omega) (by omega)
      refine ⟨hOK_set (aLe_in k5 hv) k2 (hOK_row (h := h1) (g := 202) rfl rfl (fun x j hx => by rw [cpyH_at, if_neg (fun z => hx z.1)]) (fun j => ?_) k1 ho1), ⟨e1, by show h1.2.2.2.2 = _; rw [e2], fun x j hm => ?_, fun x j _ => by show h1.2.2.2.1 x j = _; rw [e2], fun hm => absurd hm (by decide)⟩, _, List.mem_cons_self, rfl, trivial, fun q hq => ?_, fun q hq => nomatch hq⟩
      · rw [cpyH_at]
        split
        · next z =>
          have := aLe_in (k4 u (List.mem_range.mpr (by omega)) (j - 76 * u) (List.mem_range.mpr (by omega))) (ho1.2.1 201 (0 + (j - 76 * u)) |> fun q => by rw [Nat.zero_add] at q; exact q)
          have e : 76 * u + (j - 76 * u) = j := by omega
          rw [e] at this
          rw [Nat.zero_add]
          exact this
        · exact ho1.2.1 202 j
      · have hm2 : ¬ (x = 196 ∧ j = 20) ∧ ¬ (x = 202 ∧ j < 912) := by
          refine ⟨fun z => ?_, fun z => ?_⟩
          · rw [z.1, z.2] at hm
            exact absurd hm (by decide)
          · have : inM ct_X12_note1_0.2.2.2.2.1 x j = true := by
              refine List.any_eq_true.mpr ⟨(202, 0, 912), by simp [ct_X12_note1_0], ?_⟩
              simp only [Bool.and_eq_true, Nat.beq_eq, Nat.ble_eq, Nat.blt_eq]
              exact ⟨z.1.symm, by omega, z.2⟩
            rw [this] at hm
            cases hm
        rw [zsI_no hm2.1, cpyH_at, if_neg (fun z => hm2.2 ⟨z.1, by omega⟩)]
        exact e3 x j hm2.1 hm2.2
      · have hq : q = ((196, 20), [(1, 12, 1)]) := by simpa [ct_X12_note1_0] using hq
        subst hq
        show aIn ((zsI _ 196 20 (nI (u + 1))).2.1 196 20).toInt _
        rw [zsI_at, if_pos ⟨rfl, rfl⟩, nI_toInt (by omega)]
        exact aR1_in (lo := 1) (hi := 12) (by omega) (by omega)
    show zEx none (d' + 1) mX12_note1 (0, [(0, .inr (.inr (some 196)))], [], h) _
    refine ex_aload_n (pc' := 1) dX12_note1_0 rfl rfl ?_
    refine ex_getI (pc' := 4) (n := 39) (v := nI u) dX12_note1_1 fl_12_183 s0 (by decide) eu rfl ?_
    refine ex_bipush (v := nI 12) (pc' := 6) dX12_note1_4 (by decide) rfl ?_
    by_cases hq : u = 12
    · subst hq
      refine ex_icmp_f (pc' := 9) dX12_note1_6 (by decide) (by decide) rfl ?_
      refine ex_iconst (v := nI 0) (pc' := 10) dX12_note1_9 rfl rfl ?_
      refine ex_istore_n (pc' := 11) (ls' := [(1, .inl (nI 0)), (0, .inr (.inr (some 196)))]) dX12_note1_10 (by decide) rfl rfl ?_
      have hsh : hOK wd (shfH h 836) := hOK_row (h := h) (g := 202) rfl rfl (fun x j hx => by rw [shfH_at, if_neg (fun z => hx z.1)]) (fun j => by
        rw [shfH_at]
        split
        · next z => exact aLe_in (k3 j (List.mem_range.mpr z.2)) (hok.2.1 202 (j + 76))
        · exact hok.2.1 202 j) k1 hok
      have hv : aIn (nI 11).toInt (gSeg (wd.2.1 196) 20) := aLe_in k5 (aR1_in (lo := 0) (hi := 12) (by decide) (by decide))
      have lp := lp_shift (d := d' + 1) (h := h) (Q := fun v h' => hOK wd h' ∧ hFr ct_X12_note1_0.2.2.2.2.1 ct_X12_note1_0.2.2.2.2.2.1 h h' ∧ ∃ p ∈ ct_X12_note1_0.2.2.2.1, aPst [.inr (.inr (some 196))] v h' p) s0 s2 r2 ?_ 836 0 (by omega)
      · rw [shfH_0] at lp
        exact lp
      · refine ex_aload_n (pc' := 40) dX12_note1_39 rfl rfl ?_
        refine ex_dup (pc' := 41) dX12_note1_40 rfl rfl ?_
        refine ex_getI (pc' := 44) (n := 39) (v := nI 12) dX12_note1_41 fl_12_183 s0 (by decide) (by rw [shfH_at, if_neg (by omega)]; exact eu) rfl ?_
        refine ex_iconst (v := nI 1) (pc' := 45) dX12_note1_44 rfl rfl ?_
        refine ex_isub (pc' := 46) (v := nI 11) dX12_note1_45 (by decide) rfl ?_
        refine ex_putI (pc' := 49) (n := 39) dX12_note1_46 fl_12_183 s0 (Or.inl rfl) (Or.inl rfl) rfl ?_
        refine n1_tail (u := 11) s0 s1 s2 r1 r2 (by rw [zsI_at, if_pos ⟨rfl, rfl⟩]) (by decide) rfl ?_
        exact fin (zsI (shfH h 836) 196 20 (nI 11)) 11 (by decide) (hOK_set hv k2 hsh) rfl rfl (fun x j h1 h2 => by rw [zsI_no h1, shfH_at, if_neg (fun z => h2 ⟨z.1, by omega⟩)])
    · refine ex_icmp_t (pc' := 49) dX12_note1_6 ?_ (by decide) ?_
      · simp only [zcond, decide_eq_true_eq]
        intro e
        exact hq ((nI_eq (by omega) (by omega)).mp e)
      · exact n1_tail (u := u) s0 s1 s2 r1 r2 eu (by omega) rfl (fin h u (by omega) hok rfl rfl (fun x j _ _ => rfl))
end Pk2
section Pk3
/-! by hand: lowest, setsOut -/
theorem i64_rg (x : Int64) : -9223372036854775808 ≤ x.toInt ∧ x.toInt ≤ 9223372036854775807 := by
  have h1 := Int64.le_toInt x
  have h2 := Int64.toInt_lt x
  omega
theorem rem64 {x y : Int64} (hy : y ≠ 0) : (x - x / y * y).toInt.natAbs < y.toInt.natAbs := by
  have ry := i64_rg y
  have hy0 : y.toInt ≠ 0 := fun e => hy (Int64.toInt_inj.mp e)
  have e0 : x.toInt.tdiv y.toInt * y.toInt + x.toInt.tmod y.toInt = x.toInt := Int.tdiv_mul_add_tmod _ _
  have hm : (x.toInt.tmod y.toInt).natAbs < y.toInt.natAbs := by
    rw [Int.natAbs_tmod]
    exact Nat.mod_lt _ (by omega)
  have e1 : (x - x / y * y).toInt = (x.toInt.tmod y.toInt).bmod (2 ^ 64) := by
    rw [Int64.toInt_sub, Int64.toInt_mul, Int64.toInt_div, Int.bmod_mul_bmod, Int.sub_bmod_bmod]
    congr 1
    omega
  have e2 : (x.toInt.tmod y.toInt).bmod (2 ^ 64) = x.toInt.tmod y.toInt := by
    rw [Int.bmod_eq_of_le] <;> omega
  rw [e1, e2]
  exact hm
theorem lg_cmp0 {y : Int64} : (lg_cmp y 0 = 0) ↔ y = 0 := by
  unfold lg_cmp
  split
  · next q => exact ⟨fun e => absurd e (by decide), fun e => by subst e; exact absurd q (by decide)⟩
  · split
    · next q => exact ⟨fun _ => q, fun _ => rfl⟩
    · next q => exact ⟨fun e => absurd e (by decide), fun e => absurd e q⟩
theorem lp_low {d : Nat} {h : zH} {up down : Int64} {lw : Int32} : ∀ (N : Nat) (x y : Int64) (ls : zL), y.toInt.natAbs ≤ N → (y = 0 → x ≠ 0) → zget ls 5 = some (.inr (.inl x)) → zget ls 7 = some (.inr (.inl y)) → zget ls 0 = some (.inr (.inl up)) → zget ls 2 = some (.inr (.inl down)) → zget ls 4 = some (.inl lw) →
    zEx none d mX12_lowest (6, ls, [], h) (fun v h' => (∃ r : Int64, v = some (.inr (.inl r))) ∧ h' = h) := by
  intro N
  induction N with
  | zero =>
    intro x y ls hN hx g5 g7 g0 g2 g4
    have hy : y = 0 := Int64.toInt_inj.mp (by have e : (0 : Int64).toInt = 0 := rfl; omega)
    have hx := hx hy
    refine ex_lload (pc' := 8) dX12_lowest_6 g7 rfl ?_
    refine ex_lconst (v := 0) (pc' := 9) dX12_lowest_8 rfl rfl ?_
    refine ex_lcmp (pc' := 10) (v := 0) dX12_lowest_9 (lg_cmp0.mpr hy) rfl ?_
    refine ex_if_t (pc' := 31) dX12_lowest_10 (by decide) (by decide) ?_
    refine ex_iload (pc' := 33) dX12_lowest_31 g4 rfl ?_
    refine ex_if (pc' := 40) (pc2 := 36) dX12_lowest_33 (by decide) rfl (fun _ => ?_) (fun _ => ?_)
    · refine ex_lload_n (pc' := 41) dX12_lowest_40 g0 rfl ?_
      refine ex_lload (pc' := 43) dX12_lowest_41 g5 rfl ?_
      refine ex_ldiv (pc' := 44) dX12_lowest_43 hx rfl rfl ?_
      exact ex_lret dX12_lowest_44 rfl ⟨⟨_, rfl⟩, rfl⟩
    · refine ex_lload_n (pc' := 37) dX12_lowest_36 g2 rfl ?_
      refine ex_goto (pc' := 41) dX12_lowest_37 (by decide) ?_
      refine ex_lload (pc' := 43) dX12_lowest_41 g5 rfl ?_
      refine ex_ldiv (pc' := 44) dX12_lowest_43 hx rfl rfl ?_
      exact ex_lret dX12_lowest_44 rfl ⟨⟨_, rfl⟩, rfl⟩
  | succ N ih =>
    intro x y ls hN hx g5 g7 g0 g2 g4
    by_cases hy : y = 0
    · exact ih x y ls (by rw [hy]; exact Nat.zero_le _) hx g5 g7 g0 g2 g4
    · refine ex_lload (pc' := 8) dX12_lowest_6 g7 rfl ?_
      refine ex_lconst (v := 0) (pc' := 9) dX12_lowest_8 rfl rfl ?_
      refine ex_lcmp (pc' := 10) dX12_lowest_9 rfl rfl ?_
      refine ex_if_f (pc' := 13) dX12_lowest_10 ?_ (by decide) rfl ?_
      · simp only [zcond, decide_eq_false_iff_not]
        exact fun e => hy (lg_cmp0.mp e)
      refine ex_lload (pc' := 15) dX12_lowest_13 g5 rfl ?_
      refine ex_lload (pc' := 17) dX12_lowest_15 g7 rfl ?_
      refine ex_lrem (pc' := 18) dX12_lowest_17 hy rfl rfl ?_
      refine ex_lstore (pc' := 20) dX12_lowest_18 (by decide) rfl rfl ?_
      refine ex_lload (pc' := 22) (v := y) dX12_lowest_20 (zget_s2 g7 (by decide) (by decide) (by omega)) rfl ?_
      refine ex_lstore (pc' := 24) dX12_lowest_22 (by decide) rfl rfl ?_
      refine ex_lload (pc' := 26) (v := x - x / y * y) dX12_lowest_24 (zget_s2 zget_s2e (by decide) (by decide) (by omega)) rfl ?_
      refine ex_lstore (pc' := 28) dX12_lowest_26 (by decide) rfl rfl ?_
      refine ex_goto (pc' := 6) dX12_lowest_28 (by decide) ?_
      have hr := rem64 (x := x) hy
      refine ih y (x - x / y * y) _ (by omega) (fun _ => hy) ?_ zget_s2e ?_ ?_ ?_
      · exact zget_s2 zget_s2e (by decide) (by decide) (by omega)
      · exact zget_s2 (zget_s2 (zget_s2 g0 (by decide) (by decide) (by omega)) (by decide) (by decide) (by omega)) (by decide) (by decide) (by omega)
      · exact zget_s2 (zget_s2 (zget_s2 g2 (by decide) (by decide) (by omega)) (by decide) (by decide) (by omega)) (by decide) (by decide) (by omega)
      · exact zget_s2 (zget_s2 (zget_s2 g4 (by decide) (by decide) (by omega)) (by decide) (by decide) (fun z => absurd (show (1 : Nat) = 2 from z.2) (by decide))) (by decide) (by decide) (by omega)
theorem k_lowest {d : Nat} {h : zH} {up down : Int64} {lw : Int32} (hd : down ≠ 0) : zEx none d mX12_lowest (0, zargs 0 [.inr (.inl up), .inr (.inl down), .inl lw], [], h) (fun v h' => (∃ r : Int64, v = some (.inr (.inl r))) ∧ h' = h) := by
  show zEx none d mX12_lowest (0, [(0, .inr (.inl up)), (2, .inr (.inl down)), (4, .inl lw)], [], h) _
  refine ex_lload_n (pc' := 1) dX12_lowest_0 rfl rfl ?_
  refine ex_lstore (pc' := 3) dX12_lowest_1 (by decide) rfl rfl ?_
  refine ex_lload_n (pc' := 4) (v := up) dX12_lowest_3 rfl rfl ?_
  refine ex_lstore (pc' := 6) dX12_lowest_4 (by decide) rfl rfl ?_
  exact lp_low _ down up _ (Nat.le_refl _) (fun _ => hd) rfl rfl rfl rfl rfl
/-- lowest, whatever is known -/
theorem S_low {w : aWd} {A : aI} {b : Bool} {pre : List ((Nat × Nat) × aI) × aU} {D : Nat} {md : aMd} : aSpec w (mX12_lowest, [.inr (.inr b), .inr (.inr true), .inl A], pre, [(some (.inr ()), [], [], [])], md, [], D) := by
  intro d hd vs h hargs hok hpre
  match vs, hargs with
  | [v0, v1, v2], ⟨⟨x0, e0, _⟩, ⟨x1, e1, n1⟩, ⟨x2, e2, i2⟩, _⟩ =>
    subst e0; subst e1; subst e2
    refine zEx.mono (k_lowest (d := d) (n1 rfl)) (fun v h' hq => ?_)
    obtain ⟨⟨r, rfl⟩, rfl⟩ := hq
    exact ⟨hok, ⟨rfl, rfl, fun _ _ _ => rfl, fun _ _ _ => rfl, fun _ => hMn.rf⟩, _, List.mem_cons_self, ⟨r, rfl⟩, trivial, (fun q hq => nomatch hq), (fun q hq => nomatch hq)⟩
/-! setsOut: it ends, whatever the day -/
def sOf (x : Int32) : Int32 := x / 90 - x / 90 / 4 * 4
def hBit (s k : Int32) : Int32 := if ((s >>> (k &&& 31)) &&& 1) = 1 then 1 else 0
theorem k_season {d : Nat} {h : zH} {x : Int32} : zCi d mX12_seasonOf [.inl x] h (fun y h' => y = sOf x ∧ h' = h) := by
  show zEx none d mX12_seasonOf (0, [(0, .inl x)], [], h) _
  refine ex_iload_n (pc' := 1) dX12_seasonOf_0 rfl rfl ?_
  refine ex_bipush (v := 90) (pc' := 3) dX12_seasonOf_1 (by decide) rfl ?_
  refine ex_idiv (pc' := 4) dX12_seasonOf_3 (by decide) rfl rfl ?_
  refine ex_iconst (v := 4) (pc' := 5) dX12_seasonOf_4 (by decide) rfl ?_
  refine ex_irem (pc' := 6) dX12_seasonOf_5 (by decide) rfl rfl ?_
  exact ex_iretI dX12_seasonOf_6 rfl rfl ⟨rfl, rfl⟩
theorem k_hasBit {d : Nat} {h : zH} {s k : Int32} : zCi d mX12_hasBit [.inl s, .inl k] h (fun y h' => y = hBit s k ∧ h' = h) := by
  show zEx none d mX12_hasBit (0, [(0, .inl s), (1, .inl k)], [], h) _
  refine ex_iload_n (pc' := 1) dX12_hasBit_0 rfl rfl ?_
  refine ex_iload_n (pc' := 2) dX12_hasBit_1 rfl rfl ?_
  refine ex_ishr (pc' := 3) dX12_hasBit_2 rfl rfl ?_
  refine ex_iconst (v := 1) (pc' := 4) dX12_hasBit_3 (by decide) rfl ?_
  refine ex_iand (pc' := 5) dX12_hasBit_4 rfl rfl ?_
  refine ex_iconst (v := 1) (pc' := 6) dX12_hasBit_5 (by decide) rfl ?_
  refine ex_icmp (pc' := 13) (pc2 := 9) dX12_hasBit_6 (by decide) rfl (fun c => ?_) (fun c => ?_)
  · refine ex_iconst (v := 0) (pc' := 14) dX12_hasBit_13 (by decide) rfl ?_
    refine ex_iretI dX12_hasBit_14 rfl (by decide) ⟨?_, rfl⟩
    simp only [zcond, decide_eq_true_eq] at c
    unfold hBit
    rw [if_neg c]
  · refine ex_iconst (v := 1) (pc' := 10) dX12_hasBit_9 (by decide) rfl ?_
    refine ex_goto (pc' := 14) dX12_hasBit_10 (by decide) ?_
    refine ex_iretI dX12_hasBit_14 rfl (by decide) ⟨?_, rfl⟩
    simp only [zcond, decide_eq_false_iff_not, Decidable.not_not] at c
    unfold hBit
    rw [if_pos c]
end Pk3
