/-! the constant texts, as the Statement gives them -/
def ztbl : List (Nat × Nat × Nat × List Int32 × Nat × Nat × Nat × Nat × List Nat) := [(1000010, 5, 263, [112, 111, 115, 116], 106, 107, 108, 109, [110, 111, 112, 113]),
  (1000011, 5, 264, [105, 115, 108, 97, 110, 100], 114, 115, 116, 117, [118, 119, 120, 121, 122, 123]),
  (1000012, 5, 265, [119, 97, 121], 124, 125, 126, 127, [128, 129, 130]),
  (1000013, 5, 266, [119, 104, 97, 108, 101], 131, 132, 133, 134, [135, 136, 137, 138, 139]),
  (1000014, 5, 267, [98, 111, 120], 140, 141, 142, 143, [144, 145, 146]),
  (1000015, 5, 268, [115, 112, 111, 117, 116], 147, 148, 149, 150, [151, 152, 153, 154, 155]),
  (1000016, 5, 137, [110, 111, 116, 101, 115], 156, 157, 158, 159, [160, 161, 162, 163, 164]),
  (1000017, 5, 146, [101, 114, 114, 111, 114, 115], 165, 166, 167, 168, [169, 170, 171, 172, 173, 174]),
  (1000018, 5, 150, [100, 114, 105, 102, 116], 175, 176, 177, 178, [179, 180, 181, 182, 183]),
  (1000019, 5, 154, [115, 108, 105, 112], 184, 185, 186, 187, [188, 189, 190, 191]),
  (1000020, 5, 187, [100, 97, 121, 115], 192, 193, 194, 195, [196, 197, 198, 199]),
  (1000021, 5, 191, [111, 112, 101, 110], 200, 201, 202, 203, [204, 205, 206, 207]),
  (1000022, 5, 255, [99, 97, 108, 102], 208, 209, 210, 211, [212, 213, 214, 215]),
  (1000023, 5, 257, [99, 111, 119], 216, 217, 218, 219, [220, 221, 222]),
  (1000024, 5, 259, [98, 117, 108, 108], 223, 224, 225, 226, [227, 228, 229, 230]),
  (1000025, 5, 261, [111, 108, 100], 231, 232, 233, 234, [235, 236, 237]),
  (1000026, 5, 203, [97, 116], 238, 239, 240, 241, [242, 243]),
  (1000027, 5, 207, [107, 101, 101, 112, 115], 244, 245, 246, 247, [248, 249, 250, 251, 252]),
  (1000028, 5, 211, [108, 111, 115, 116], 253, 254, 255, 256, [257, 258, 259, 260]),
  (1000029, 5, 215, [102, 114, 111, 109], 261, 262, 263, 264, [265, 266, 267, 268]),
  (1000030, 5, 221, [116, 111], 269, 270, 271, 272, [273, 274]),
  (1000031, 5, 225, [119, 101, 105, 103, 104, 115], 275, 276, 277, 278, [279, 280, 281, 282, 283, 284]),
  (1000032, 5, 229, [100, 97, 121], 285, 286, 287, 288, [289, 290, 291]),
  (1000034, 12, 131, [112, 111, 115, 116], 315, 316, 317, 318, [319, 320, 321, 322]),
  (1000035, 12, 211, [110, 111, 116, 101, 115], 324, 325, 326, 327, [328, 329, 330, 331, 332]),
  (1000036, 12, 217, [101, 114, 114, 111, 114, 115], 334, 335, 336, 337, [338, 339, 340, 341, 342, 343]),
  (1000037, 12, 219, [100, 114, 105, 102, 116], 345, 346, 347, 348, [349, 350, 351, 352, 353]),
  (1000038, 12, 221, [115, 108, 105, 112], 355, 356, 357, 358, [359, 360, 361, 362]),
  (1000039, 12, 133, [105, 115, 108, 97, 110, 100], 364, 365, 366, 367, [368, 369, 370, 371, 372, 373]),
  (1000040, 12, 135, [119, 97, 121], 375, 376, 377, 378, [379, 380, 381]),
  (1000041, 12, 137, [119, 104, 97, 108, 101], 383, 384, 385, 386, [387, 388, 389, 390, 391]),
  (1000042, 12, 139, [98, 111, 120], 393, 394, 395, 396, [397, 398, 399]),
  (1000043, 12, 141, [115, 112, 111, 117, 116], 401, 402, 403, 404, [405, 406, 407, 408, 409]),
  (1000044, 12, 234, [100, 97, 121, 115], 411, 412, 413, 414, [415, 416, 417, 418]),
  (1000045, 12, 235, [111, 112, 101, 110], 420, 421, 422, 423, [424, 425, 426, 427]),
  (1000046, 12, 237, [99, 97, 108, 102], 429, 430, 431, 432, [433, 434, 435, 436]),
  (1000047, 12, 239, [99, 111, 119], 438, 439, 440, 441, [442, 443, 444]),
  (1000048, 12, 241, [98, 117, 108, 108], 446, 447, 448, 449, [450, 451, 452, 453]),
  (1000049, 12, 243, [111, 108, 100], 455, 456, 457, 458, [459, 460, 461]),
  (1000050, 12, 245, [97, 116], 463, 464, 465, 466, [467, 468]),
  (1000051, 12, 250, [107, 101, 101, 112, 115], 470, 471, 472, 473, [474, 475, 476, 477, 478]),
  (1000052, 12, 252, [108, 111, 115, 116], 480, 481, 482, 483, [484, 485, 486, 487]),
  (1000053, 12, 254, [102, 114, 111, 109], 489, 490, 491, 492, [493, 494, 495, 496]),
  (1000054, 12, 256, [116, 111], 498, 499, 500, 501, [502, 503]),
  (1000055, 12, 258, [119, 101, 105, 103, 104, 115], 505, 506, 507, 508, [509, 510, 511, 512, 513, 514]),
  (1000056, 12, 260, [100, 97, 121], 516, 517, 518, 519, [520, 521, 522])]
abbrev zNL : List Jvm.Cond := flatC (Jvm.Cond.and given_1 narrow_1)
def zTs (o k : Nat) : Term := .string (zRn o) k
def zTv (o k : Nat) : Term := .field (zTs o k) "java/lang/String" "value" "[B"
def ztK (e : Nat × Nat × Nat × List Int32 × Nat × Nat × Nat × Nat × List Nat) : Bool :=
  decide (zNL[e.2.2.2.2.1]? = some (.exactly (zTs e.2.1 e.2.2.1) "java/lang/String")) && (decide (zNL[e.2.2.2.2.2.1]? = some (.eq (.field (zTs e.2.1 e.2.2.1) "java/lang/String" "coder" "B") (.int 0))) && (decide (zNL[e.2.2.2.2.2.2.1]? = some (.arrayOf (zTv e.2.1 e.2.2.1) .byte)) && (decide (zNL[e.2.2.2.2.2.2.2.1]? = some (.eq (.length (zTv e.2.1 e.2.2.1)) (.int (Int32.ofNat e.2.2.2.1.length)))) && ((List.range e.2.2.2.1.length).all (fun j => decide (zNL[e.2.2.2.2.2.2.2.2.getD j 0]? = some (.eq (.elem (zTv e.2.1 e.2.2.1) (.int (Int32.ofNat j))) (.int (e.2.2.2.1.getD j 0))))) && (decide (e.2.2.2.1.length < 100) && zsr.any (fun q => decide (q.2.2.2.1 = e.1 ∧ q.1 = e.2.1 ∧ q.2.1 = e.2.2.1)))))))
set_option maxRecDepth 100000 in
theorem ztKs : ztbl.all ztK = true := by decide +kernel
set_option maxRecDepth 100000 in
theorem ztA : zscT.all (fun q => ztbl.any (fun e => decide (e.1 = q.1 ∧ e.2.2.2.1 = q.2))) = true := by decide +kernel
section Z29s
variable {s : State} {args : Array Value}
theorem zst_txt {A : Nat → Prop} {sp : Nat → Nat} (hgv : (Jvm.Cond.and given_1 narrow_1).before args s = true) (hsp : ∀ q ∈ zsr, vk_R (zRn q.1) q.2.1 q.2.2.1 (sp q.2.2.2.1) s) (hA : ∀ a : Nat, a < s.heap.size → ¬ A a) (a : Nat) (bs : List Int32) (hz : zsc a = some bs) : zSf sp A a bs s s.heap := by
  have hs := flat_of_before _ hgv
  have hm := List.all_eq_true.mp ztA _ (zlook_mem hz)
  obtain ⟨e, he, he2⟩ := List.any_eq_true.mp hm
  obtain ⟨ea, eb⟩ := of_decide_eq_true he2
  dsimp only at ea eb
  subst ea
  subst eb
  have hk := List.all_eq_true.mp ztKs e he
  unfold ztK at hk
  simp only [Bool.and_eq_true, decide_eq_true_eq, List.all_eq_true, List.any_eq_true, List.mem_range] at hk
  obtain ⟨k1, k2, k3, k4, k5, k6, q, hq, hqa, hqo, hqk⟩ := hk
  have h1 := hs _ (List.mem_of_getElem? k1)
  have h2 := hs _ (List.mem_of_getElem? k2)
  have h3 := hs _ (List.mem_of_getElem? k3)
  have h4 := hs _ (List.mem_of_getElem? k4)
  have ht : (zTs e.2.1 e.2.2.1).eval args s none [] s = some (.ref (sp e.1)) := by
    have := (hsp q hq).2
    rw [hqa, hqo, hqk] at this
    exact this
  obtain ⟨t, q3, q4⟩ := va_Tof (A := A) (N := e.2.2.2.1.length) (f := fun j => .int (e.2.2.2.1.getD j 0)) (by omega) h3 (va_eqt h4) (fun j hj => va_eqt (hs _ (List.mem_of_getElem? (k5 j hj)))) hA
  exact ⟨t, va_Oof h1 ht hA, vk_OFof ht (va_eqt h2) hA, vk_OFof ht q3 hA, q4⟩
theorem zst_sg {sp : Nat → Nat} {cc : Nat} (hgv : (Jvm.Cond.and given_1 narrow_1).before args s = true) (hts0 : ∀ w ∈ lw_tbl, w.before args s = true) (hsp : ∀ q ∈ zsr, vk_R (zRn q.1) q.2.1 q.2.2.1 (sp q.2.2.2.1) s) (h1 : sp 1000001 = cc) (hc : (Term.static "WhalePost" "CAN_CARRY" "[I").eval args s none [] s = some (.ref cc)) : zSg s.heap.size sp s s.heap := by
  have hs := flat_of_before _ hgv
  have hA : ∀ a : Nat, a < s.heap.size → ¬ zAr s.heap.size a := fun a h1 h2 => absurd h1 (Nat.not_lt.mpr h2)
  refine ⟨zst_txt hgv hsp hA, va_Zof (hts0 _ (by decide +kernel)) (hts0 _ (by decide +kernel)) (va_eqt (hs _ (by decide +kernel))) hA, va_Zqof (hts0 _ (by decide +kernel)) (hts0 _ (by decide +kernel)) (hs _ (by decide +kernel)) hA, va_Zof (hts0 _ (by decide +kernel)) (hts0 _ (by decide +kernel)) (by rw [h1]; exact hc) hA, ?_⟩
  obtain ⟨t, q3, q4⟩ := va_Tof (tm := .static "WhalePost" "CAN_CARRY" "[I") (ty := .int) (A := zAr s.heap.size) (N := 4) (f := fun j => .int (zcc j)) (by decide) (hs _ (by decide +kernel)) (va_eqt (z := 4) (hs _ (by decide +kernel))) (fun j hj => by
    have hj : j = 0 ∨ j = 1 ∨ j = 2 ∨ j = 3 := by omega
    rcases hj with rfl | rfl | rfl | rfl
    · exact va_eqt (z := 3) (hs (Cond.eq (.elem (.static "WhalePost" "CAN_CARRY" "[I") (.int 0)) (.int 3)) (by decide +kernel))
    · exact va_eqt (z := 9) (hs (Cond.eq (.elem (.static "WhalePost" "CAN_CARRY" "[I") (.int 1)) (.int 9)) (by decide +kernel))
    · exact va_eqt (z := 99) (hs (Cond.eq (.elem (.static "WhalePost" "CAN_CARRY" "[I") (.int 2)) (.int 99)) (by decide +kernel))
    · exact va_eqt (z := 9) (hs (Cond.eq (.elem (.static "WhalePost" "CAN_CARRY" "[I") (.int 3)) (.int 9)) (by decide +kernel))) hA
  cases hc.symm.trans q3
  rw [h1]
  exact q4
end Z29s
/-! the context at the law's entry, out of the tables' words -/
section Z29
variable {s : State} {args : Array Value}
theorem zst_cl (hts : ∀ w ∈ zws, w.before args s = true) : ∃ D : va_G, ∀ (c : Nat) (q : vw_C), vwCl[c]? = some q → u_Kn s q.1 q.2.1 q.2.2 (D.1 c) (D.2 c) := by
  have h : ∀ c : Nat, ∃ (cC : ClassId) (iS : Nat → Nat), ∀ q : vw_C, vwCl[c]? = some q → u_Kn s q.1 q.2.1 q.2.2 cC iS := by
    intro c
    by_cases hc : c < 13
    · obtain ⟨cC, iS, hk⟩ := u_known hts (zcl_ws hc) (hts _ (zins_get hc).1)
      refine ⟨cC, iS, fun q hq => ?_⟩
      rw [zcl_cl hc] at hq
      cases hq
      exact hk
    · refine ⟨0, fun _ => 0, fun q hq => ?_⟩
      rw [List.getElem?_eq_none (show vwCl.length ≤ c from Nat.not_lt.mp hc)] at hq
      cases hq
  exact ⟨(fun c => Classical.choose (h c), fun c => Classical.choose (Classical.choose_spec (h c))), fun c q hq => Classical.choose_spec (Classical.choose_spec (h c)) q hq⟩
theorem zst_prim {t : FieldType} (h : (Cond.arrayClass t).before args s = true) : ∃ c : ClassId, ArrOfT s c t ∧ s.vm.findClass ("[" ++ t.toString) = some c := by
  obtain ⟨c, k, comp, h1, h2, h3⟩ := Cond.arrayClass_spec h
  exact ⟨c, fun N z => ⟨fun k h => (by cases h), k, h2, comp, h3⟩, h1⟩
theorem zst_obj {C : String} (h : va_AO C s) : ∃ c : ClassId, ArrOfT s c (.object C) ∧ va_RA s c (.object C) := by
  obtain ⟨comp, c, k, h1, h2, h3, h4, h5⟩ := Cond.arrayOver_spec h
  exact ⟨c, fun N z => ⟨fun k h => (by cases h), k, h3, comp, h4⟩, k, comp, h3, h4, h1, h5⟩
theorem zst_arr (hts : ∀ w ∈ zws, w.before args s = true) (hao : ∀ k, 16 ≤ k → k ≤ 20 → va_AO (zRn (zrc k)) s) : ∃ cA : Nat → ClassId, ∀ (k : Nat) (q : ClassId × FieldType), (ztys cA)[k]? = some q → ArrOfT s q.1 q.2 ∧ va_RA s q.1 q.2 := by
  obtain ⟨c13, a13, b13⟩ := zst_prim (hts _ zarrK.1)
  obtain ⟨c14, a14, b14⟩ := zst_prim (hts _ zarrK.2.1)
  obtain ⟨c15, a15, b15⟩ := zst_prim (hts _ zarrK.2.2)
  obtain ⟨c16, q16⟩ := zst_obj (hao 16 (by decide) (by decide))
  obtain ⟨c17, q17⟩ := zst_obj (hao 17 (by decide) (by decide))
  obtain ⟨c18, q18⟩ := zst_obj (hao 18 (by decide) (by decide))
  obtain ⟨c19, q19⟩ := zst_obj (hao 19 (by decide) (by decide))
  obtain ⟨c20, q20⟩ := zst_obj (hao 20 (by decide) (by decide))
  refine ⟨fun k => if k = 13 then c13 else if k = 14 then c14 else if k = 15 then c15 else if k = 16 then c16 else if k = 17 then c17 else if k = 18 then c18 else if k = 19 then c19 else c20, fun k q hq => ?_⟩
  match k, hq with
  | 0, hq => have e : (c13, FieldType.byte) = q := Option.some.inj hq; subst e; exact ⟨a13, b13⟩
  | 1, hq => have e : (c14, FieldType.int) = q := Option.some.inj hq; subst e; exact ⟨a14, b14⟩
  | 2, hq => have e : (c15, FieldType.long) = q := Option.some.inj hq; subst e; exact ⟨a15, b15⟩
  | 3, hq => have e : (c16, FieldType.object RX0) = q := Option.some.inj hq; subst e; exact q16
  | 4, hq => have e : (c17, FieldType.object RX2) = q := Option.some.inj hq; subst e; exact q17
  | 5, hq => have e : (c18, FieldType.object RX8) = q := Option.some.inj hq; subst e; exact q18
  | 6, hq => have e : (c19, FieldType.object RX9) = q := Option.some.inj hq; subst e; exact q19
  | 7, hq => have e : (c20, FieldType.object RX10) = q := Option.some.inj hq; subst e; exact q20
  | n + 8, hq => exact absurd hq (by simp [ztys])
set_option maxRecDepth 20000 in
theorem zsrK : zsr.all (fun q => decide (zpc q.2.2.2.2 = some (Cond.stringRef (zRn q.1) q.2.1 q.2.2.1)) && decide (q.1 < 13) && decide (zsr.find? (fun r => r.2.2.2.1 == q.2.2.2.1) = some q) && decide (q.2.2.2.1 ≠ 1000000) && decide (q.2.2.2.1 ≠ 1000001)) = true := by decide +kernel
theorem zst_str (hts0 : ∀ w ∈ lw_tbl, w.before args s = true) (hown : ∀ o, o < 13 → ∃ cur, s.vm.findClass (zRn o) = some cur) (b cc : Nat) : ∃ sp : Nat → Nat, sp 1000000 = b ∧ sp 1000001 = cc ∧ ∀ q ∈ zsr, vk_R (zRn q.1) q.2.1 q.2.2.1 (sp q.2.2.2.1) s := by
  have h : ∀ q : Nat × Nat × String × Nat × Nat, ∃ a : Nat, q ∈ zsr → vk_R (zRn q.1) q.2.1 q.2.2.1 a s := by
    intro q
    by_cases hq : q ∈ zsr
    · have hc := List.all_eq_true.mp zsrK q hq
      simp only [Bool.and_eq_true, decide_eq_true_eq] at hc
      obtain ⟨cur, hcur⟩ := hown q.1 hc.1.1.1.2
      have hw := hts0 _ (zpc_in hc.1.1.1.1)
      obtain ⟨k, cf, i, a, -, -, -, -, -, h6⟩ := Cond.stringRef_spec hcur hw
      exact ⟨a, fun _ => vk_R.of hw h6⟩
    · exact ⟨0, fun q => absurd q hq⟩
  refine ⟨fun r => if r = 1000000 then b else if r = 1000001 then cc else (match zsr.find? (fun q => q.2.2.2.1 == r) with
    | some q => Classical.choose (h q)
    | none => 0), if_pos rfl, by show (if (1000001 : Nat) = 1000000 then b else _) = cc; rw [if_neg (by decide), if_pos rfl], fun q hq => ?_⟩
  have hc := List.all_eq_true.mp zsrK q hq
  simp only [Bool.and_eq_true, decide_eq_true_eq] at hc
  dsimp only
  rw [if_neg hc.1.2, if_neg hc.2, hc.1.1.2]
  exact Classical.choose_spec (h q) hq
set_option maxRecDepth 20000 in
theorem znmK : znm.all (fun q => decide (zpc q.2.2.2.2 = some (Cond.methodLinkNest (zRn q.1) q.2.1 q.2.2.1.2.2.2.2.1 q.2.2.2.1))) = true := by decide +kernel
theorem zst_nm (hts0 : ∀ w ∈ lw_tbl, w.before args s = true) : ∀ q ∈ znm, va_Nw (.methodLinkNest (zRn q.1) q.2.1 q.2.2.1.2.2.2.2.1 q.2.2.2.1) s := by
  intro q hq
  have hc := List.all_eq_true.mp znmK q hq
  simp only [decide_eq_true_eq] at hc
  exact va_Nw.of rfl (hts0 _ (zpc_in hc))
theorem zst_ao (hts0 : ∀ w ∈ lw_tbl, w.before args s = true) : ∀ k, 16 ≤ k → k ≤ 20 → va_AO (zRn (zrc k)) s := by
  intro k h1 h2
  have h : k = 16 ∨ k = 17 ∨ k = 18 ∨ k = 19 ∨ k = 20 := by omega
  rcases h with rfl | rfl | rfl | rfl | rfl
  · exact va_AO.of (hts0 (.arrayOver (.object (zRn (zrc 16)))) (by decide +kernel))
  · exact va_AO.of (hts0 (.arrayOver (.object (zRn (zrc 17)))) (by decide +kernel))
  · exact va_AO.of (hts0 (.arrayOver (.object (zRn (zrc 18)))) (by decide +kernel))
  · exact va_AO.of (hts0 (.arrayOver (.object (zRn (zrc 19)))) (by decide +kernel))
  · exact va_AO.of (hts0 (.arrayOver (.object (zRn (zrc 20)))) (by decide +kernel))
/-- the context at the law's entry -/
theorem zst_cx (hts0 : ∀ w ∈ lw_tbl, w.before args s = true) (hgv : (Jvm.Cond.and given_1 narrow_1).before args s = true) (b : Nat) : ∃ (sp : Nat → Nat) (cA : Nat → ClassId) (D : va_G), sp 1000000 = b ∧ zCx s.heap.size sp cA D s := by
  have hts : ∀ w ∈ zws, w.before args s = true := fun w hw => hts0 w (List.mem_filter.mp hw).1
  obtain ⟨D, hD⟩ := zst_cl hts
  obtain ⟨cA, hA⟩ := zst_arr hts (zst_ao hts0)
  have hs := flat_of_before _ hgv
  obtain ⟨cc, -, hcc, -, -⟩ := Term.length_spec (va_eqt (z := 4) (hs (Cond.eq (.length (.static "WhalePost" "CAN_CARRY" "[I")) (.int 4)) (by decide +kernel)))
  obtain ⟨sp, h1, h1b, h2⟩ := zst_str hts0 (fun o ho => ⟨_, (hD o _ (zcl_cl ho)).2.1⟩) b cc
  exact ⟨sp, cA, D, h1, ⟨hD, hA⟩, zst_nm hts0, h2, zst_ao hts0, Nat.le_refl _, zst_sg hgv hts0 h2 h1b hcc, va_Nw.of rfl (hts0 _ (by decide +kernel))⟩
/-- the empty heap stands for whatever the law found -/
theorem zst_rel {sp : Nat → Nat} {cA : Nat → ClassId} {D : va_G} : zRel s.heap.size sp cA D hh_0 s.heap := by
  refine ⟨fun k q hq => ?_, ⟨by decide, fun a q hq => ?_⟩, fun _ => rfl⟩
  · cases hq
  · cases hq
end Z29
