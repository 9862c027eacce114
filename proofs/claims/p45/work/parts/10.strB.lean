theorem zmthV {o k na : Nat} {cm : zM} (hz : zmth o k = some (0, na, cm)) : Cond.methodLink (zRn o) k cm.2.2.2.2.1 ∈ zws ∧ Cond.instanceMethod cm.2.2.2.2.1 ∈ zws ∧ Cond.selects (zRn cm.2.1) cm.2.2.2.2.1 cm.2.2.2.2.1 ∈ zws ∧ Cond.initialized cm.2.2.2.2.1.cls ∈ zws ∧ (parseMethodDescriptor cm.2.2.2.2.1.desc).map (fun d => d.parameters.length + 1) = some na ∧ zMok cm := by
  obtain ⟨pl, pi, ps, pn, hcc, hM⟩ := zmth_get hz
  simp only [zmthC, Bool.and_eq_true, decide_eq_true_eq] at hcc
  obtain ⟨⟨⟨⟨⟨⟨⟨⟨w1, g1⟩, w2⟩, g2⟩, w3⟩, g3⟩, w4⟩, g4⟩, w5⟩ := hcc
  exact ⟨zws_in w1 g1, zws_in w2 g2, zws_in w3 g3, zws_in w4 g4, w5, hM (by decide)⟩
theorem zmthS {o k na : Nat} {cm : zM} (hz : zmth o k = some (1, na, cm)) : Cond.methodLink (zRn o) k cm.2.2.2.2.1 ∈ zws ∧ Cond.static cm.2.2.2.2.1 ∈ zws ∧ Cond.initialized cm.2.2.2.2.1.cls ∈ zws ∧ (parseMethodDescriptor cm.2.2.2.2.1.desc).map (fun d => d.parameters.length) = some na ∧ zMok cm := by
  obtain ⟨pl, pi, ps, pn, hcc, hM⟩ := zmth_get hz
  simp only [zmthC, Bool.and_eq_true, decide_eq_true_eq] at hcc
  obtain ⟨⟨⟨⟨⟨⟨w1, g1⟩, w2⟩, g2⟩, w4⟩, g4⟩, w5⟩ := hcc
  exact ⟨zws_in w1 g1, zws_in w2 g2, zws_in w4 g4, w5, hM (by decide)⟩
theorem zpar1 {o : Option MethodDescriptor} {n : Nat} (h : o.map (fun d => d.parameters.length + 1) = some (n + 1)) : o.map (fun d => d.parameters.length) = some n := by
  cases o with
  | none => cases h
  | some sig => simp only [Option.map_some, Option.some.injEq] at h ⊢; omega
set_option maxRecDepth 20000 in
theorem zjF38 : Cond.fieldLink "java/lang/String" 38 "java/lang/String" "COMPACT_STRINGS" "Z" ∈ zws := by decide +kernel
set_option maxRecDepth 20000 in
theorem zjF15 : Cond.fieldLink "java/lang/String" 15 "java/lang/String" "coder" "B" ∈ zws := by decide +kernel
set_option maxRecDepth 20000 in
theorem zjF9 : Cond.fieldLink "java/lang/String" 9 "java/lang/String" "value" "[B" ∈ zws := by decide +kernel
set_option maxRecDepth 20000 in
theorem zjF1053 : Cond.fieldLink "java/lang/String" 1053 "jdk/internal/util/Preconditions" "SIOOBE_FORMATTER" "Ljava/util/function/BiFunction;" ∈ zws := by decide +kernel
section ZSTR2
variable {l : Launch} {B : Nat} {sp : Nat → Nat} {a : Nat} {bs : List Int32}
theorem zj_coder (hz : zsc a = some bs) (H0 : Heap) : Met l yJ0_coder_7d493 (zwsM mJ0_coder_7d493) (zrm0 0) (zPs B sp H0 [.ref (sp a)]) (zQs H0 0) 0 0 (fun _ => False) := by
  refine Met.ofW (cc := cJ0_coder_7d493) (maxL := 1) (ret := some .byte) zoJ0_coder_7d493.2.2.1 rfl ?_
  intro p e s m args below meth c s₁ B' hml hv
  obtain ⟨rfl, hG, rfl⟩ := hv
  have hts : ∀ w ∈ zws, w.before _ s = true := fun w hw => atoms_spec (ws := zwsM mJ0_coder_7d493) B'.pre w (List.mem_cons_of_mem _ hw)
  have hown : s.vm.findClass "java/lang/String" = some m.cls := findClass_of_methodNamed B'.named
  have hlocks := B'.notSynchronized
  have hl := lv_entry ([.ref (sp a)] : List Value) (n := 1) (Nat.le_refl _)
  rw [lg_entry_eq]
  generalize (lg_sl [Value.ref (sp a)] ++ List.replicate (1 - (lg_sl [Value.ref (sp a)]).length) Slot.unset).toArray = lA at hl ⊢
  have h0 : lA[0]? = some (.val (.ref (sp a))) := lv_at hl 0 rfl
  have hSz : va_S (zAr B) s.heap s.heap [] := va_S.rf
  have hS0 : va_S (fun _ => False) s.heap s.heap [] := va_S.rf
  obtain ⟨t, q1, q2, q3, q4⟩ := hG.1 a bs hz
  refine va_gets B'.exec B'.bytes hG.2.1 hSz hown (hts _ zjF38) (fun _ h => h) dj_co0 ?_
  refine lv_if_eq B'.exec B'.bytes dj_co3 (tgt := 13) (by decide) (fun q => absurd q (by decide)) (fun _ => ?_)
  refine lv_aload_n B'.exec B'.bytes dj_co6 rfl h0 ?_
  refine vk_getf B'.exec B'.bytes q2 hSz hown (hts _ zjF15) (fun _ h => h) dj_co7 ?_
  refine lv_goto B'.exec B'.bytes dj_co10 (tgt := 14) (by decide) ?_
  exact W.zret (v := 0) (ty := .byte) B'.exec B'.bytes B'.returns (by decide) (fun t ht hW => ⟨⟨0, (), rfl, rfl, ht⟩, hS0.F ht⟩) hS0.2.2 dj_co14
theorem zj_latin (hz : zsc a = some bs) (H0 : Heap) : Met l yJ0_isLatin1_aae02 (zwsM mJ0_isLatin1_aae02) (zrm0 0) (zPs B sp H0 [.ref (sp a)]) (zQs H0 1) 0 0 (fun _ => False) := by
  refine Met.ofW (cc := cJ0_isLatin1_aae02) (maxL := 1) (ret := some .boolean) zoJ0_isLatin1_aae02.2.2.1 rfl ?_
  intro p e s m args below meth c s₁ B' hml hv
  obtain ⟨rfl, hG, rfl⟩ := hv
  have hts : ∀ w ∈ zws, w.before _ s = true := fun w hw => atoms_spec (ws := zwsM mJ0_isLatin1_aae02) B'.pre w (List.mem_cons_of_mem _ hw)
  have hown : s.vm.findClass "java/lang/String" = some m.cls := findClass_of_methodNamed B'.named
  have hlocks := B'.notSynchronized
  have hl := lv_entry ([.ref (sp a)] : List Value) (n := 1) (Nat.le_refl _)
  rw [lg_entry_eq]
  generalize (lg_sl [Value.ref (sp a)] ++ List.replicate (1 - (lg_sl [Value.ref (sp a)]).length) Slot.unset).toArray = lA at hl ⊢
  have h0 : lA[0]? = some (.val (.ref (sp a))) := lv_at hl 0 rfl
  have hSz : va_S (zAr B) s.heap s.heap [] := va_S.rf
  have hS0 : va_S (fun _ => False) s.heap s.heap [] := va_S.rf
  obtain ⟨t, q1, q2, q3, q4⟩ := hG.1 a bs hz
  refine va_gets B'.exec B'.bytes hG.2.1 hSz hown (hts _ zjF38) (fun _ h => h) dj_la0 ?_
  refine lv_if_eq B'.exec B'.bytes dj_la3 (tgt := 17) (by decide) (fun q => absurd q (by decide)) (fun _ => ?_)
  refine lv_aload_n B'.exec B'.bytes dj_la6 rfl h0 ?_
  refine vk_getf B'.exec B'.bytes q2 hSz hown (hts _ zjF15) (fun _ h => h) dj_la7 ?_
  refine lv_if_ne B'.exec B'.bytes dj_la10 (tgt := 17) (by decide) (fun q => absurd rfl q) (fun _ => ?_)
  refine lv_iconst B'.exec B'.bytes dj_la13 rfl ?_
  refine lv_goto B'.exec B'.bytes dj_la14 (tgt := 18) (by decide) ?_
  exact W.zret (v := 1) (ty := .boolean) B'.exec B'.bytes B'.returns (by decide) (fun t ht hW => ⟨⟨1, (), rfl, rfl, ht⟩, hS0.F ht⟩) hS0.2.2 dj_la18
theorem zj_length (hz : zsc a = some bs) (H0 : Heap) : Met l yJ0_length_8abf5 (zwsM mJ0_length_8abf5) (zrm0 1) (zPs B sp H0 [.ref (sp a)]) (zQs H0 (nI bs.length)) 0 0 (fun _ => False) := by
  refine Met.ofW (cc := cJ0_length_8abf5) (maxL := 1) (ret := some .int) zoJ0_length_8abf5.2.2.1 rfl ?_
  intro p e s m args below meth c s₁ B' hml hv
  obtain ⟨rfl, hG, rfl⟩ := hv
  have hts : ∀ w ∈ zws, w.before _ s = true := fun w hw => atoms_spec (ws := zwsM mJ0_length_8abf5) B'.pre w (List.mem_cons_of_mem _ hw)
  have hown : s.vm.findClass "java/lang/String" = some m.cls := findClass_of_methodNamed B'.named
  have hlocks := B'.notSynchronized
  have hl := lv_entry ([.ref (sp a)] : List Value) (n := 1) (Nat.le_refl _)
  rw [lg_entry_eq]
  generalize (lg_sl [Value.ref (sp a)] ++ List.replicate (1 - (lg_sl [Value.ref (sp a)]).length) Slot.unset).toArray = lA at hl ⊢
  have h0 : lA[0]? = some (.val (.ref (sp a))) := lv_at hl 0 rfl
  have hSz : va_S (zAr B) s.heap s.heap [] := va_S.rf
  have hS0 : va_S (fun _ => False) s.heap s.heap [] := va_S.rf
  obtain ⟨t, q1, q2, q3, q4⟩ := hG.1 a bs hz
  obtain ⟨v1, v2, v3, v4, v5, v6⟩ := zmthV (o := 14) (k := 335) (na := 1) (cm := mJ0_coder_7d493) rfl
  refine lv_aload_n B'.exec B'.bytes dj_len0 rfl h0 ?_
  refine vk_getf B'.exec B'.bytes q3 hSz hown (hts _ zjF9) (fun _ h => h) dj_len1 ?_
  refine va_tlen B'.exec B'.bytes q4 hSz (v := nI bs.length) rfl dj_len4 ?_
  refine lv_aload_n B'.exec B'.bytes dj_len5 rfl h0 ?_
  refine zj_V (nL := 1) (own := "java/lang/String") (As := []) (rest := [.int (nI bs.length)]) (fr := 0) ⟨B'.exec, B'.bytes, hml, hown, hts⟩ v6 hG (fun _ h => h.elim) hS0 hz (zj_coder hz _) v1 v2 v3 v4 (zpar1 v5) hl.1 (Nat.le_of_ble_eq_true rfl) (by decide) (by decide) ⟨Nat.zero_le _, Nat.zero_le _⟩ dj_len6 (fun locs1 hS1 => ?_)
  refine lv_ishr B'.exec B'.bytes dj_len9 ?_
  have e0 : nI bs.length >>> ((0 : Int32) &&& 31) = nI bs.length := by
    have : ((0 : Int32) &&& 31) = 0 := by decide
    rw [this, Int32.shiftRight_zero]
  rw [e0]
  exact W.zret (v := nI bs.length) (ty := .int) B'.exec B'.bytes B'.returns rfl (fun t ht hW => ⟨⟨nI bs.length, (), rfl, rfl, ht⟩, hS1.F ht⟩) hS1.2.2 dj_len10
theorem zj_ck3 {i n : Int32} {v : Value} (hv0 : v = .null ∨ ∃ t, v = .ref t) (hi : ¬ i < 0) (hn : i < n) (H0 : Heap) : Met l yJ3_checkIndex_8e157 (zwsM mJ3_checkIndex_8e157) (zrm0 0) (zPs B sp H0 [.int i, .int n, v]) (zQs H0 i) 0 0 (fun _ => False) := by
  refine Met.ofW (cc := cJ3_checkIndex_8e157) (maxL := 3) (ret := some .int) zoJ3_checkIndex_8e157.2.2.1 rfl ?_
  intro p e s m args below meth c s₁ B' hml hv
  obtain ⟨rfl, hG, rfl⟩ := hv
  have hlocks := B'.notSynchronized
  have hl := lv_entry ([.int i, .int n, v] : List Value) (n := 3) (by rcases hv0 with rfl | ⟨t, rfl⟩ <;> exact Nat.le_refl _)
  rw [lg_entry_eq]
  generalize (lg_sl [Value.int i, .int n, v] ++ List.replicate (3 - (lg_sl [Value.int i, .int n, v]).length) Slot.unset).toArray = lA at hl ⊢
  have h0 : lA[0]? = some (.val (.int i)) := lv_at hl 0 rfl
  have h1 : lA[1]? = some (.val (.int n)) := lv_at hl 1 rfl
  have hS0 : va_S (fun _ => False) s.heap s.heap [] := va_S.rf
  refine lv_iload_n B'.exec B'.bytes dj_c30 rfl h0 ?_
  refine lv_if_lt B'.exec B'.bytes dj_c31 (tgt := 9) (by decide) (fun q => absurd q hi) (fun _ => ?_)
  refine lv_iload_n B'.exec B'.bytes dj_c34 rfl h0 ?_
  refine lv_iload_n B'.exec B'.bytes dj_c35 rfl h1 ?_
  refine lv_icmp_lt B'.exec B'.bytes dj_c36 (tgt := 16) (by decide) (fun _ => ?_) (fun q => absurd hn q)
  refine lv_iload_n B'.exec B'.bytes dj_c3_16 rfl h0 ?_
  exact W.zret (v := i) (ty := .int) B'.exec B'.bytes B'.returns rfl (fun t ht hW => ⟨⟨i, (), rfl, rfl, ht⟩, hS0.F ht⟩) hS0.2.2 dj_c3_17
theorem zj_ck {i n : Int32} (hi : ¬ i < 0) (hn : i < n) (H0 : Heap) : Met l yJ0_checkIndex_df160 (zwsM mJ0_checkIndex_df160) (zrm0 1) (zPs B sp H0 [.int i, .int n]) (zQn H0) 0 0 (fun _ => False) := by
  refine Met.ofW (cc := cJ0_checkIndex_df160) (maxL := 2) (ret := none) zoJ0_checkIndex_df160.2.2.1 rfl ?_
  intro p e s m args below meth c s₁ B' hml hv
  obtain ⟨rfl, hG, rfl⟩ := hv
  have hts : ∀ w ∈ zws, w.before _ s = true := fun w hw => atoms_spec (ws := zwsM mJ0_checkIndex_df160) B'.pre w (List.mem_cons_of_mem _ hw)
  have hown : s.vm.findClass "java/lang/String" = some m.cls := findClass_of_methodNamed B'.named
  have hlocks := B'.notSynchronized
  have hl := lv_entry ([.int i, .int n] : List Value) (n := 2) (Nat.le_refl _)
  rw [lg_entry_eq]
  generalize (lg_sl [Value.int i, .int n] ++ List.replicate (2 - (lg_sl [Value.int i, .int n]).length) Slot.unset).toArray = lA at hl ⊢
  have h0 : lA[0]? = some (.val (.int i)) := lv_at hl 0 rfl
  have h1 : lA[1]? = some (.val (.int n)) := lv_at hl 1 rfl
  have hSz : va_S (zAr B) s.heap s.heap [] := va_S.rf
  have hS0 : va_S (fun _ => False) s.heap s.heap [] := va_S.rf
  obtain ⟨v1, v2, v4, v5, v6⟩ := zmthS (o := 14) (k := 1059) (na := 3) (cm := mJ3_checkIndex_8e157) rfl
  obtain ⟨v, hv0, hZ⟩ : ∃ v : Value, (v = .null ∨ ∃ t, v = .ref t) ∧ va_Z "jdk/internal/util/Preconditions" "SIOOBE_FORMATTER" "Ljava/util/function/BiFunction;" v (zAr B) s s.heap := by
    rcases hG.2.2.1 with h | ⟨t, h⟩
    · exact ⟨_, Or.inl rfl, h⟩
    · exact ⟨_, Or.inr ⟨t, rfl⟩, h⟩
  refine lv_iload_n B'.exec B'.bytes dj_ck0 rfl h0 ?_
  refine lv_iload_n B'.exec B'.bytes dj_ck1 rfl h1 ?_
  refine va_gets B'.exec B'.bytes hZ hSz hown (hts _ zjF1053) (fun _ h => h) dj_ck2 ?_
  refine zj_S (nL := 2) (own := "java/lang/String") (As := [.int i, .int n, v]) (rest := []) (fr := 0) ⟨B'.exec, B'.bytes, hml, hown, hts⟩ v6 hG (fun _ h => h.elim) hS0 (zj_ck3 hv0 hi hn _) v1 v2 v4 v5 hl.1 (Nat.le_of_ble_eq_true rfl) (by decide) (by decide) ⟨Nat.zero_le _, Nat.zero_le _⟩ dj_ck5 (fun locs1 hS1 => ?_)
  refine lv_pop B'.exec B'.bytes dj_ck8 rfl ?_
  exact W.vret B'.exec B'.bytes B'.returns (fun t ht hW => ⟨⟨(), rfl, trivial, ht⟩, hS1.F ht⟩) hS1.2.2 dj_ck9
theorem zj_ch1 {t : Nat} {i : Int32} (hin : zin i bs.length = true) (hz : zsc a = some bs) (H0 : Heap) : Met l yJ1_charAt_3b067 (zwsM mJ1_charAt_3b067) (zrm0 2) (va_Pc [.ref t, .int i] (fun U => (zSg B sp U U.heap ∧ va_T .byte t bs.length (fun j => .int (bs.getD j 0)) (zAr B) U U.heap) ∧ U.heap = H0)) (zQs H0 (bs.getD i.toNatClampNeg 0)) 0 0 (fun _ => False) := by
  refine Met.ofW (cc := cJ1_charAt_3b067) (maxL := 2) (ret := some .char) zoJ1_charAt_3b067.2.2.1 rfl ?_
  intro p e s m args below meth c s₁ B' hml hv
  obtain ⟨rfl, ⟨hG, hT⟩, rfl⟩ := hv
  have hts : ∀ w ∈ zws, w.before _ s = true := fun w hw => atoms_spec (ws := zwsM mJ1_charAt_3b067) B'.pre w (List.mem_cons_of_mem _ hw)
  have hown : s.vm.findClass RJ1 = some m.cls := findClass_of_methodNamed B'.named
  have hlocks := B'.notSynchronized
  have hl := lv_entry ([.ref t, .int i] : List Value) (n := 2) (Nat.le_refl _)
  rw [lg_entry_eq]
  generalize (lg_sl [Value.ref t, .int i] ++ List.replicate (2 - (lg_sl [Value.ref t, .int i]).length) Slot.unset).toArray = lA at hl ⊢
  have h0 : lA[0]? = some (.val (.ref t)) := lv_at hl 0 rfl
  have h1 : lA[1]? = some (.val (.int i)) := lv_at hl 1 rfl
  have hSz : va_S (zAr B) s.heap s.heap [] := va_S.rf
  have hS0 : va_S (fun _ => False) s.heap s.heap [] := va_S.rf
  obtain ⟨v1, v2, v4, v5, v6⟩ := zmthS (o := 15) (k := 9) (na := 2) (cm := mJ0_checkIndex_df160) rfl
  obtain ⟨-, hlen, hbs⟩ := zsc_get hz
  have hvp := vp_in_iff.mp (zin_in hin)
  have hi : ¬ i < 0 := fun q => by have := Int32.lt_iff_toInt_lt.mp q; have e0 : (0 : Int32).toInt = 0 := rfl; omega
  have hn : i < nI bs.length := Int32.lt_iff_toInt_lt.mpr (by rw [nI_toInt (by omega)]; exact hvp.2)
  have ek : (i.toNatClampNeg : Int) = i.toInt := by
    show ((i.toInt.toNat : Nat) : Int) = i.toInt
    omega
  have hmem : bs.getD i.toNatClampNeg 0 ∈ bs := by
    have hk : i.toNatClampNeg < bs.length := by omega
    rw [List.getD_eq_getElem?_getD, List.getElem?_eq_getElem hk]
    exact List.getElem_mem hk
  obtain ⟨c1, c2, c3⟩ := hbs _ hmem
  refine lv_iload_n B'.exec B'.bytes dj_c10 rfl h1 ?_
  refine lv_aload_n B'.exec B'.bytes dj_c11 rfl h0 ?_
  refine va_tlen B'.exec B'.bytes hT hSz (v := nI bs.length) rfl dj_c12 ?_
  refine zj_N (nL := 2) (own := RJ1) (As := [.int i, .int (nI bs.length)]) (rest := []) (fr := 1) ⟨B'.exec, B'.bytes, hml, hown, hts⟩ v6 hG (fun _ h => h.elim) hS0 (zj_ck hi hn _) v1 v2 v4 v5 hl.1 (Nat.le_of_ble_eq_true rfl) (by decide) (by decide) ⟨Nat.zero_le _, Nat.zero_le _⟩ dj_c13 (fun locs1 hS1 => ?_)
  refine lv_aload_n B'.exec B'.bytes dj_c16 rfl h0 ?_
  refine lv_iload_n B'.exec B'.bytes dj_c17 rfl h1 ?_
  refine va_tb B'.exec B'.bytes hT (hS1.wk (fun _ h => h.elim)) (zin_in hin) rfl dj_c18 ?_
  refine lv_sipush B'.exec B'.bytes dj_c19 (v := 255) (by decide) ?_
  refine lv_iand B'.exec B'.bytes dj_c1_12 ?_
  rw [c1]
  refine lv_i2c B'.exec B'.bytes dj_c1_13 c3 ?_
  exact W.zret (v := bs.getD i.toNatClampNeg 0) (ty := .char) B'.exec B'.bytes B'.returns c2 (fun t ht hW => ⟨⟨_, (), rfl, rfl, ht⟩, hS1.F ht⟩) hS1.2.2 dj_c1_14
theorem zj_charAt {i : Int32} (hin : zin i bs.length = true) (hz : zsc a = some bs) (H0 : Heap) : Met l yJ0_charAt_5068e (zwsM mJ0_charAt_5068e) (zrm0 3) (zPs B sp H0 [.ref (sp a), .int i]) (zQs H0 (bs.getD i.toNatClampNeg 0)) 0 0 (fun _ => False) := by
  refine Met.ofW (cc := cJ0_charAt_5068e) (maxL := 2) (ret := some .char) zoJ0_charAt_5068e.2.2.1 rfl ?_
  intro p e s m args below meth c s₁ B' hml hv
  obtain ⟨rfl, hG, rfl⟩ := hv
  have hts : ∀ w ∈ zws, w.before _ s = true := fun w hw => atoms_spec (ws := zwsM mJ0_charAt_5068e) B'.pre w (List.mem_cons_of_mem _ hw)
  have hown : s.vm.findClass "java/lang/String" = some m.cls := findClass_of_methodNamed B'.named
  have hlocks := B'.notSynchronized
  have hl := lv_entry ([.ref (sp a), .int i] : List Value) (n := 2) (Nat.le_refl _)
  rw [lg_entry_eq]
  generalize (lg_sl [Value.ref (sp a), .int i] ++ List.replicate (2 - (lg_sl [Value.ref (sp a), .int i]).length) Slot.unset).toArray = lA at hl ⊢
  have h0 : lA[0]? = some (.val (.ref (sp a))) := lv_at hl 0 rfl
  have h1 : lA[1]? = some (.val (.int i)) := lv_at hl 1 rfl
  have hS0 : va_S (fun _ => False) s.heap s.heap [] := va_S.rf
  obtain ⟨t, q1, q2, q3, q4⟩ := hG.1 a bs hz
  obtain ⟨v1, v2, v3, v4, v5, v6⟩ := zmthV (o := 14) (k := 492) (na := 1) (cm := mJ0_isLatin1_aae02) rfl
  obtain ⟨u1, u2, u4, u5, u6⟩ := zmthS (o := 14) (k := 495) (na := 2) (cm := mJ1_charAt_3b067) rfl
  obtain ⟨-, hlen, hbs⟩ := zsc_get hz
  have hvp := vp_in_iff.mp (zin_in hin)
  have ek : (i.toNatClampNeg : Int) = i.toInt := by
    show ((i.toInt.toNat : Nat) : Int) = i.toInt
    omega
  have hmem : bs.getD i.toNatClampNeg 0 ∈ bs := by
    have hk : i.toNatClampNeg < bs.length := by omega
    rw [List.getD_eq_getElem?_getD, List.getElem?_eq_getElem hk]
    exact List.getElem_mem hk
  obtain ⟨c1, c2, c3⟩ := hbs _ hmem
  refine lv_aload_n B'.exec B'.bytes dj_ch0 rfl h0 ?_
  refine zj_V (nL := 2) (own := "java/lang/String") (As := []) (rest := []) (fr := 0) ⟨B'.exec, B'.bytes, hml, hown, hts⟩ v6 hG (fun _ h => h.elim) hS0 hz (zj_latin hz _) v1 v2 v3 v4 (zpar1 v5) hl.1 (Nat.le_of_ble_eq_true rfl) (by decide) (by decide) ⟨Nat.zero_le _, Nat.zero_le _⟩ dj_ch1 (fun locs1 hS1 => ?_)
  refine lv_if_eq B'.exec B'.bytes dj_ch4 (tgt := 16) (by decide) (fun q => absurd q (by decide)) (fun _ => ?_)
  refine lv_aload_n B'.exec B'.bytes dj_ch7 rfl h0 ?_
  refine vk_getf B'.exec B'.bytes q3 (hS1.wk (fun _ h => h.elim)) hown (hts _ zjF9) (fun _ h => h) dj_ch8 ?_
  refine lv_iload_n B'.exec B'.bytes dj_ch11 rfl h1 ?_
  have hSz := hS1.wk (A' := zAr B) (fun _ h => h.elim)
  have hr := va_runS (As := [.ref t, .int i]) (rest := []) (g := F0 m 12 lA ([.ref t, .int i].reverse ++ [])) (n := 2) (H := s.heap) (locs := locs1) (cells := 0) (slots := 0) (e := e) (below := below) (meth := meth) (R := (headSpec (zwsM mJ0_charAt_5068e) (zrm0 3)).room) (cc := cJ0_charAt_5068e) (nL := 2) (Ts := zws) (own := "java/lang/String") ⟨B'.exec, B'.bytes, hml, hown, hts⟩ (zj_ch1 (l := l) (B := B) (sp := sp) (t := t) hin hz s.heap) ⟨zj_B hts u6 (by decide) (by decide) u1 u4 u5, hts _ u2⟩
    ⟨(by
      intro a U g mk q
      obtain ⟨q0, ⟨q1, q2⟩, q3⟩ := q
      exact ⟨q0, ⟨zSg.moved (u := U) (U := U.calling g mk a) (Vm.Alike.refl U.vm) q1, va_T.moved (u := U) (U := U.calling g mk a) (Vm.Alike.refl U.vm) q2⟩, q3⟩), fun U hU hW => ⟨rfl, ⟨hG.at hSz hU hW, va_T.moved hW.alike (by rw [hU]; exact q4)⟩, hU⟩⟩ rfl rfl hl.1 rfl (Nat.le_of_ble_eq_true rfl) dj_ch12 ⟨Nat.zero_le _, Nat.zero_le _⟩
  refine va_calli hr hS1 (fun q _ h => h.elim) (fun q h => h.elim) (fun r u t2 H1 locs2 ht hvm hw hB hz1 hk1 hS2 => ?_)
  have hw : r = bs.getD i.toNatClampNeg 0 := hw
  have hB : t2.heap = s.heap := hB
  subst hw
  rw [hB] at ht
  subst ht
  exact W.zret (v := bs.getD i.toNatClampNeg 0) (ty := .char) B'.exec B'.bytes B'.returns c2 (fun t ht hW => ⟨⟨_, (), rfl, rfl, ht⟩, hS2.F ht⟩) hS2.2.2 dj_ch15
end ZSTR2
section ZSTR3
variable {p : Program} {l : Launch} {e : Env} {R : Room} {s : State} {m : MethodId} {args : Array Value} {below : List Frame} {meth : Method} {c : Code} {Q : State → Prop} {B : Nat} {sp : Nat → Nat} {cA : Nat → ClassId} {D : va_G} {mi : zM} {c0 s0 : Nat}
variable {pc len : Nat} {ls : zL} {st : List zV} {h : zH}
theorem zs_str {k na : Nat} {cm : zM} {g : zC} (cx : zX p s m args meth c B sp cA D mi) (hd : decode mi.1 pc = .ok (.invokevirtual k, 3)) (hz : zmth mi.2.1 k = some (0, na, cm)) (hs : zstr cm pc ls st h = some (.inl g))
    (hf : 4 ≤ R.frames) (hlo : 240 ≤ R.locals) (hr1 : zc h ≤ c0 + R.cells) (hr2 : zt h ≤ s0 + R.slots)
    (kk : zK p l e R s m args below meth c Q B sp cA D mi c0 s0 g) : zK p l e R s m args below meth c Q B sp cA D mi c0 s0 (pc, ls, st, h) := by
  intro H locs lA cells slots hR hS hl h1 h2
  dsimp only at h1 h2 hl hR
  obtain ⟨hx, hb, hml, hown, hts, hin, hC⟩ := cx
  obtain ⟨v1, v2, v3, v4, v5, v6⟩ := zmthV hz
  have hFix : CallFix p m c mi.1 mi.2.2.1 s args zws (zRn mi.2.1) := ⟨hx, hb, hml, hown, hts⟩
  have e4 : ∀ a, 1000000 ≤ a → zcv B sp (.inr (.inr (some a))) = .ref (sp a) := by
    intro a ha
    show va_rf (some (zad B sp a)) = _
    rw [zad, if_neg (by omega)]
    rfl
  unfold zstr at hs
  split at hs
  · next a st' =>
    split at hs
    · next bs hbs =>
      split at hs
      · next hq =>
        obtain ⟨rfl, hw⟩ := hq
        cases hs
        show W p l e R s m args below meth c H locs cells slots Q (F0 m pc lA (zcv B sp (.inr (.inr (some a))) :: st'.map (zcv B sp)))
        rw [e4 a (zsc_get hbs).1]
        have hn : na = 1 := by
          have q : (parseMethodDescriptor yJ0_length_8abf5.desc).map (fun d => d.parameters.length + 1) = some 1 := by decide +kernel
          exact Option.some.inj (v5.symm.trans q)
        subst hn
        exact zj_V (As := []) (fr := 1) (A0 := zAr B) hFix v6 hC.2.2.2.2.2.1 (fun _ h => h) hS hbs (zj_length hbs _) v1 v2 v3 v4 (zpar1 v5) hl.1 (by rw [zwd_cv]; exact hw) (by omega) (by omega) ⟨by omega, by omega⟩ hd (fun locs1 hS1 => kk H locs1 lA cells slots hR hS1 hl h1 h2)
      · cases hs
    · cases hs
  · next i a st' =>
    split at hs
    · next bs hbs =>
      split at hs
      · next hq =>
        obtain ⟨rfl, hw, hi⟩ := hq
        cases hs
        show W p l e R s m args below meth c H locs cells slots Q (F0 m pc lA (.int i :: zcv B sp (.inr (.inr (some a))) :: st'.map (zcv B sp)))
        rw [e4 a (zsc_get hbs).1]
        have hn : na = 2 := by
          have q : (parseMethodDescriptor yJ0_charAt_5068e.desc).map (fun d => d.parameters.length + 1) = some 2 := by decide +kernel
          exact Option.some.inj (v5.symm.trans q)
        subst hn
        exact zj_V (As := [.int i]) (fr := 3) (A0 := zAr B) hFix v6 hC.2.2.2.2.2.1 (fun _ h => h) hS hbs (zj_charAt hi hbs _) v1 v2 v3 v4 (zpar1 v5) hl.1 (by rw [zwd_cv]; exact hw) (by omega) (by omega) ⟨by omega, by omega⟩ hd (fun locs1 hS1 => kk H locs1 lA cells slots hR hS1 hl h1 h2)
      · cases hs
    · cases hs
  · cases hs
end ZSTR3
