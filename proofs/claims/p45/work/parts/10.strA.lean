/-! String.length and String.charAt on the constants: contracts of the JDK's own -/
theorem dj_len0 : decode cJ0_length_8abf5 0 = .ok (.aload_n 0, 1) := by decide +kernel
theorem dj_len1 : decode cJ0_length_8abf5 1 = .ok (.getfield 9, 3) := by decide +kernel
theorem dj_len4 : decode cJ0_length_8abf5 4 = .ok (.arraylength, 1) := by decide +kernel
theorem dj_len5 : decode cJ0_length_8abf5 5 = .ok (.aload_n 0, 1) := by decide +kernel
theorem dj_len6 : decode cJ0_length_8abf5 6 = .ok (.invokevirtual 335, 3) := by decide +kernel
theorem dj_len9 : decode cJ0_length_8abf5 9 = .ok (.ishr, 1) := by decide +kernel
theorem dj_len10 : decode cJ0_length_8abf5 10 = .ok (.ireturn, 1) := by decide +kernel
theorem dj_ch0 : decode cJ0_charAt_5068e 0 = .ok (.aload_n 0, 1) := by decide +kernel
theorem dj_ch1 : decode cJ0_charAt_5068e 1 = .ok (.invokevirtual 492, 3) := by decide +kernel
theorem dj_ch4 : decode cJ0_charAt_5068e 4 = .ok (.ifCond .eq 12, 3) := by decide +kernel
theorem dj_ch7 : decode cJ0_charAt_5068e 7 = .ok (.aload_n 0, 1) := by decide +kernel
theorem dj_ch8 : decode cJ0_charAt_5068e 8 = .ok (.getfield 9, 3) := by decide +kernel
theorem dj_ch11 : decode cJ0_charAt_5068e 11 = .ok (.iload_n 1, 1) := by decide +kernel
theorem dj_ch12 : decode cJ0_charAt_5068e 12 = .ok (.invokestatic 495, 3) := by decide +kernel
theorem dj_ch15 : decode cJ0_charAt_5068e 15 = .ok (.ireturn, 1) := by decide +kernel
theorem dj_co0 : decode cJ0_coder_7d493 0 = .ok (.getstatic 38, 3) := by decide +kernel
theorem dj_co3 : decode cJ0_coder_7d493 3 = .ok (.ifCond .eq 10, 3) := by decide +kernel
theorem dj_co6 : decode cJ0_coder_7d493 6 = .ok (.aload_n 0, 1) := by decide +kernel
theorem dj_co7 : decode cJ0_coder_7d493 7 = .ok (.getfield 15, 3) := by decide +kernel
theorem dj_co10 : decode cJ0_coder_7d493 10 = .ok (.goto 4, 3) := by decide +kernel
theorem dj_co14 : decode cJ0_coder_7d493 14 = .ok (.ireturn, 1) := by decide +kernel
theorem dj_la0 : decode cJ0_isLatin1_aae02 0 = .ok (.getstatic 38, 3) := by decide +kernel
theorem dj_la3 : decode cJ0_isLatin1_aae02 3 = .ok (.ifCond .eq 14, 3) := by decide +kernel
theorem dj_la6 : decode cJ0_isLatin1_aae02 6 = .ok (.aload_n 0, 1) := by decide +kernel
theorem dj_la7 : decode cJ0_isLatin1_aae02 7 = .ok (.getfield 15, 3) := by decide +kernel
theorem dj_la10 : decode cJ0_isLatin1_aae02 10 = .ok (.ifCond .ne 7, 3) := by decide +kernel
theorem dj_la13 : decode cJ0_isLatin1_aae02 13 = .ok (.iconst 1, 1) := by decide +kernel
theorem dj_la14 : decode cJ0_isLatin1_aae02 14 = .ok (.goto 4, 3) := by decide +kernel
theorem dj_la18 : decode cJ0_isLatin1_aae02 18 = .ok (.ireturn, 1) := by decide +kernel
theorem dj_ck0 : decode cJ0_checkIndex_df160 0 = .ok (.iload_n 0, 1) := by decide +kernel
theorem dj_ck1 : decode cJ0_checkIndex_df160 1 = .ok (.iload_n 1, 1) := by decide +kernel
theorem dj_ck2 : decode cJ0_checkIndex_df160 2 = .ok (.getstatic 1053, 3) := by decide +kernel
theorem dj_ck5 : decode cJ0_checkIndex_df160 5 = .ok (.invokestatic 1059, 3) := by decide +kernel
theorem dj_ck8 : decode cJ0_checkIndex_df160 8 = .ok (.pop, 1) := by decide +kernel
theorem dj_ck9 : decode cJ0_checkIndex_df160 9 = .ok (.return_, 1) := by decide +kernel
theorem dj_c10 : decode cJ1_charAt_3b067 0 = .ok (.iload_n 1, 1) := by decide +kernel
theorem dj_c11 : decode cJ1_charAt_3b067 1 = .ok (.aload_n 0, 1) := by decide +kernel
theorem dj_c12 : decode cJ1_charAt_3b067 2 = .ok (.arraylength, 1) := by decide +kernel
theorem dj_c13 : decode cJ1_charAt_3b067 3 = .ok (.invokestatic 9, 3) := by decide +kernel
theorem dj_c16 : decode cJ1_charAt_3b067 6 = .ok (.aload_n 0, 1) := by decide +kernel
theorem dj_c17 : decode cJ1_charAt_3b067 7 = .ok (.iload_n 1, 1) := by decide +kernel
theorem dj_c18 : decode cJ1_charAt_3b067 8 = .ok (.baload, 1) := by decide +kernel
theorem dj_c19 : decode cJ1_charAt_3b067 9 = .ok (.sipush 255, 3) := by decide +kernel
theorem dj_c1_12 : decode cJ1_charAt_3b067 12 = .ok (.iand, 1) := by decide +kernel
theorem dj_c1_13 : decode cJ1_charAt_3b067 13 = .ok (.i2c, 1) := by decide +kernel
theorem dj_c1_14 : decode cJ1_charAt_3b067 14 = .ok (.ireturn, 1) := by decide +kernel
theorem dj_c30 : decode cJ3_checkIndex_8e157 0 = .ok (.iload_n 0, 1) := by decide +kernel
theorem dj_c31 : decode cJ3_checkIndex_8e157 1 = .ok (.ifCond .lt 8, 3) := by decide +kernel
theorem dj_c34 : decode cJ3_checkIndex_8e157 4 = .ok (.iload_n 0, 1) := by decide +kernel
theorem dj_c35 : decode cJ3_checkIndex_8e157 5 = .ok (.iload_n 1, 1) := by decide +kernel
theorem dj_c36 : decode cJ3_checkIndex_8e157 6 = .ok (.if_icmp .lt 10, 3) := by decide +kernel
theorem dj_c3_16 : decode cJ3_checkIndex_8e157 16 = .ok (.iload_n 0, 1) := by decide +kernel
theorem dj_c3_17 : decode cJ3_checkIndex_8e157 17 = .ok (.ireturn, 1) := by decide +kernel
def zrm0 (fr : Nat) : Room := { frames := fr, cells := 0, slots := 0, locals := 60 * fr }
def zPs (B : Nat) (sp : Nat → Nat) (H0 : Heap) (vs : List Value) : Array Value → State → Prop := va_Pc vs (fun U => zSg B sp U U.heap ∧ U.heap = H0)
def zQs (H0 : Heap) (x : Int32) : Array Value → State → Outcome → State → Prop := va_Qi (S := Unit) (fun r _ => r = x) (fun _ t => t.heap = H0) (fun _ => False)
def zQn (H0 : Heap) : Array Value → State → Outcome → State → Prop := va_Qv (S := Unit) (fun _ => True) (fun _ t => t.heap = H0) (fun _ => False)
theorem zPs_blind {B : Nat} {sp : Nat → Nat} {H0 : Heap} {vs : List Value} : FrameBlind (zPs B sp H0 vs) := by
  intro a U g mk q
  obtain ⟨q0, q1, q2⟩ := q
  exact ⟨q0, zSg.moved (u := U) (U := U.calling g mk a) (Vm.Alike.refl U.vm) q1, q2⟩
theorem zsc_all : zscT.all (fun q => decide (1000000 ≤ q.1) && (decide (q.2.length < 100) && q.2.all (fun b => decide ((b &&& 255) = b) && (decide (narrow .char (.int b) = .int b) && decide ((b.toUInt32 % 65536).toInt32 = b))))) = true := by decide +kernel
theorem zsc_get {a : Nat} {bs : List Int32} (h : zsc a = some bs) : 1000000 ≤ a ∧ bs.length < 100 ∧ ∀ b ∈ bs, (b &&& 255) = b ∧ narrow .char (.int b) = .int b ∧ (b.toUInt32 % 65536).toInt32 = b := by
  have := List.all_eq_true.mp zsc_all _ (zlook_mem h)
  simp only [Bool.and_eq_true, decide_eq_true_eq, List.all_eq_true] at this
  exact ⟨this.1, this.2.1, fun b hb => this.2.2 b hb⟩
theorem va_S.wk {A A' : Nat → Prop} {H0 H : Heap} {locs : List Loc} (h : va_S A H0 H locs) (hA : ∀ q, A q → A' q) : va_S A' H0 H locs := ⟨h.1, fun q h1 h2 => h.2.1 q h1 (fun z => h2 (hA q z)), fun l hl => hA _ (h.2.2 l hl)⟩
section ZSTR
variable {p : Program} {l : Launch} {e : Env} {R : Room} {s : State} {m : MethodId} {args : Array Value} {below : List Frame} {meth : Method} {c : Code} {H : Heap} {locs : List Loc} {cells slots : Nat} {Q : State → Prop}
variable {cc : ByteArray} {nL pc : Nat} {own : String} {lA : Array Slot} {B : Nat} {sp : Nat → Nat} {cm : zM} {a k fr : Nat} {bs : List Int32} {As rest : List Value} {x : Int32} {A0 : Nat → Prop}
theorem zj_B {n : Nat} (hts : ∀ w ∈ zws, w.before args s = true) (hM : zMok cm) (hfr : fr + 1 ≤ R.frames) (hlo : 60 * fr + 60 ≤ R.locals) (w1 : (Cond.methodLink own k cm.2.2.2.2.1) ∈ zws) (w4 : Cond.initialized cm.2.2.2.2.1.cls ∈ zws) (w5 : (parseMethodDescriptor cm.2.2.2.2.1.desc).map (fun d => d.parameters.length) = some n) :
    CallB R s args own k cm.2.2.2.2.1 cm.1 cm.2.2.1 cm.2.2.2.1 (zwsM cm) (zrm0 fr) 0 0 n := by
  refine ⟨rfl, rfl, hfr, ?_, zws_pay hts hM, List.mem_cons_self, hts _ hM.1, hts _ w4, hM.2.2.2.1, fun sig hs => ?_, hts _ w1⟩
  · have := hM.2.2.2.2.1
    show 8 + (cm.2.2.1 + 11) + 60 * fr ≤ R.locals
    omega
  · rw [hs] at w5
    exact (Option.some.inj w5).symm
theorem zSg.at {U : State} (hG : zSg B sp s s.heap) (hS : va_S (zAr B) s.heap H locs) (hU : U.heap = H) (hW : s.WarmedH U.vm) : zSg B sp U U.heap :=
  zSg.moved hW.alike (hG.kept (fun a h1 h2 => by rw [hU]; exact hS.2.1 a h1 h2))
/-- a call on a constant text -/
theorem zj_V (hFix : CallFix p m c cc nL s args zws own) (hM : zMok cm) (hG : zSg B sp s s.heap) (hA : ∀ q, A0 q → zAr B q) (hS : va_S A0 s.heap H locs) (hz : zsc a = some bs)
    (hMet : Met l cm.2.2.2.2.1 (zwsM cm) (zrm0 fr) (zPs B sp H (.ref (sp a) :: As)) (zQs H x) 0 0 (fun _ => False))
    (w1 : (Cond.methodLink own k cm.2.2.2.2.1) ∈ zws) (w2 : Cond.instanceMethod cm.2.2.2.2.1 ∈ zws) (w3 : Cond.selects "java/lang/String" cm.2.2.2.2.1 cm.2.2.2.2.1 ∈ zws) (w4 : Cond.initialized cm.2.2.2.2.1.cls ∈ zws) (w5 : (parseMethodDescriptor cm.2.2.2.2.1.desc).map (fun d => d.parameters.length) = some As.length)
    (hsz : lA.size = nL) (hw : (rest.map fun v => v.category).sum ≤ 8) (hfr : fr + 1 ≤ R.frames) (hlo : 60 * fr + 60 ≤ R.locals) (hc : cells ≤ R.cells ∧ slots ≤ R.slots) (hd : decode cc pc = .ok (.invokevirtual k, 3))
    (kk : ∀ locs1, va_S A0 s.heap H locs1 → W p l e R s m args below meth c H locs1 cells slots Q (F0 m (pc + 3) lA (.int x :: rest))) :
    W p l e R s m args below meth c H locs cells slots Q (F0 m pc lA (As.reverse ++ .ref (sp a) :: rest)) := by
  have hSz := hS.wk hA
  obtain ⟨t, q1, q2, q3, q4⟩ := hG.1 a bs hz
  obtain ⟨cell, c1, c2, c3, -⟩ := q1.kept hSz.2.1
  have hr := va_runV (C := "java/lang/String") (b := sp a) (As := As) (rest := rest) (g := F0 m pc lA (As.reverse ++ .ref (sp a) :: rest)) (n := As.length) (H := H) (locs := locs) (cells := cells) (slots := slots) (e := e) (below := below) (meth := meth) hFix hMet ⟨zj_B hFix.2.2.2.2 hM hfr hlo w1 w4 w5, hFix.2.2.2.2 _ w2, hFix.2.2.2.2 _ w3⟩
    ⟨zPs_blind, ⟨cell, c1, c2, c3⟩, fun U hU hW => ⟨rfl, hG.at hSz hU hW, hU⟩⟩ rfl rfl hsz rfl (by show 2 * 0 + _ ≤ 8; omega) hd ⟨by omega, by omega⟩
  refine va_calli hr hS (fun q _ h => h.elim) (fun q h => h.elim) (fun r u t H1 locs1 ht hvm hw hB hz1 hk1 hS1 => ?_)
  have hw : r = x := hw
  have hB : t.heap = H := hB
  subst hw
  rw [hB] at ht
  subst ht
  exact kk locs1 hS1
theorem zj_S (hFix : CallFix p m c cc nL s args zws own) (hM : zMok cm) (hG : zSg B sp s s.heap) (hA : ∀ q, A0 q → zAr B q) (hS : va_S A0 s.heap H locs)
    (hMet : Met l cm.2.2.2.2.1 (zwsM cm) (zrm0 fr) (zPs B sp H As) (zQs H x) 0 0 (fun _ => False))
    (w1 : (Cond.methodLink own k cm.2.2.2.2.1) ∈ zws) (w2 : Cond.static cm.2.2.2.2.1 ∈ zws) (w4 : Cond.initialized cm.2.2.2.2.1.cls ∈ zws) (w5 : (parseMethodDescriptor cm.2.2.2.2.1.desc).map (fun d => d.parameters.length) = some As.length)
    (hsz : lA.size = nL) (hw : (rest.map fun v => v.category).sum ≤ 8) (hfr : fr + 1 ≤ R.frames) (hlo : 60 * fr + 60 ≤ R.locals) (hc : cells ≤ R.cells ∧ slots ≤ R.slots) (hd : decode cc pc = .ok (.invokestatic k, 3))
    (kk : ∀ locs1, va_S A0 s.heap H locs1 → W p l e R s m args below meth c H locs1 cells slots Q (F0 m (pc + 3) lA (.int x :: rest))) :
    W p l e R s m args below meth c H locs cells slots Q (F0 m pc lA (As.reverse ++ rest)) := by
  have hSz := hS.wk hA
  have hr := va_runS (As := As) (rest := rest) (g := F0 m pc lA (As.reverse ++ rest)) (n := As.length) (H := H) (locs := locs) (cells := cells) (slots := slots) (e := e) (below := below) (meth := meth) hFix hMet ⟨zj_B hFix.2.2.2.2 hM hfr hlo w1 w4 w5, hFix.2.2.2.2 _ w2⟩
    ⟨zPs_blind, fun U hU hW => ⟨rfl, hG.at hSz hU hW, hU⟩⟩ rfl rfl hsz rfl (by show 2 * 0 + _ ≤ 8; omega) hd ⟨by omega, by omega⟩
  refine va_calli hr hS (fun q _ h => h.elim) (fun q h => h.elim) (fun r u t H1 locs1 ht hvm hw hB hz1 hk1 hS1 => ?_)
  have hw : r = x := hw
  have hB : t.heap = H := hB
  subst hw
  rw [hB] at ht
  subst ht
  exact kk locs1 hS1
theorem zj_N (hFix : CallFix p m c cc nL s args zws own) (hM : zMok cm) (hG : zSg B sp s s.heap) (hA : ∀ q, A0 q → zAr B q) (hS : va_S A0 s.heap H locs)
    (hMet : Met l cm.2.2.2.2.1 (zwsM cm) (zrm0 fr) (zPs B sp H As) (zQn H) 0 0 (fun _ => False))
    (w1 : (Cond.methodLink own k cm.2.2.2.2.1) ∈ zws) (w2 : Cond.static cm.2.2.2.2.1 ∈ zws) (w4 : Cond.initialized cm.2.2.2.2.1.cls ∈ zws) (w5 : (parseMethodDescriptor cm.2.2.2.2.1.desc).map (fun d => d.parameters.length) = some As.length)
    (hsz : lA.size = nL) (hw : (rest.map fun v => v.category).sum ≤ 8) (hfr : fr + 1 ≤ R.frames) (hlo : 60 * fr + 60 ≤ R.locals) (hc : cells ≤ R.cells ∧ slots ≤ R.slots) (hd : decode cc pc = .ok (.invokestatic k, 3))
    (kk : ∀ locs1, va_S A0 s.heap H locs1 → W p l e R s m args below meth c H locs1 cells slots Q (F0 m (pc + 3) lA rest)) :
    W p l e R s m args below meth c H locs cells slots Q (F0 m pc lA (As.reverse ++ rest)) := by
  have hSz := hS.wk hA
  have hr := va_runS (As := As) (rest := rest) (g := F0 m pc lA (As.reverse ++ rest)) (n := As.length) (H := H) (locs := locs) (cells := cells) (slots := slots) (e := e) (below := below) (meth := meth) hFix hMet ⟨zj_B hFix.2.2.2.2 hM hfr hlo w1 w4 w5, hFix.2.2.2.2 _ w2⟩
    ⟨zPs_blind, fun U hU hW => ⟨rfl, hG.at hSz hU hW, hU⟩⟩ rfl rfl hsz rfl (by show 2 * 0 + _ ≤ 8; omega) hd ⟨by omega, by omega⟩
  refine va_callv hr hS (fun q _ h => h.elim) (fun q h => h.elim) (fun u t H1 locs1 ht hvm hw hB hz1 hk1 hS1 => ?_)
  have hB : t.heap = H := hB
  rw [hB] at ht
  subst ht
  exact kk locs1 hS1
end ZSTR
