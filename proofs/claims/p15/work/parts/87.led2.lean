/-! led: a method that answers or throws -/
def zAtS : List Cond := (zNat RX11 367).filter vx_no
def zAtP : List Nat := [57, 1022, 1023, 1024, 1025, 1032, 1033, 5220, 5225, 5226, 5227, 5228, 5229, 5230, 5231, 5232, 5233, 5234, 5235, 5236, 5237, 5238, 5239, 6000, 6001, 6002, 6003, 6004, 6005, 6006, 6008, 6009, 6010, 6011, 6012, 6013, 6014, 6015, 6016, 6017, 6018, 6019, 6020, 6021, 6022, 6023, 6025, 6026, 6027, 6028, 6029, 6030, 6031, 6032, 6033, 6034, 6035, 6036, 6038, 6039, 6040, 6041, 6042, 6043, 6044, 6045, 6046, 6047, 6048, 8206]
def zCxL (B : Nat) (sp : Nat → Nat) (cA : Nat → ClassId) (D : va_G) (U : State) : Prop :=
  zCx B sp cA D U ∧ (∀ w ∈ zAtS.filter (fun w => !goodWord w), va_Nw w U) ∧ vx_Zq Bundle.tN "UNASSIGNED_STACK" Bundle.steD (zAr B) U U.heap ∧ vx_Zq Bundle.tN "SUPPRESSED_SENTINEL" Bundle.listD (zAr B) U U.heap
def zPcL (B : Nat) (sp : Nat → Nat) (cA : Nat → ClassId) (D : va_G) (vs : List zV) (h : zH) : Array Value → State → Prop := va_Pc (vs.map (zcv B sp)) (fun U => zCxL B sp cA D U ∧ zRel B sp cA D h U.heap)
/-- led's answer: an int -/
def zQcL (B : Nat) (sp : Nat → Nat) (cA : Nat → ClassId) (D : va_G) (v : Option zV) (h' : zH) : Array Value → State → Outcome → State → Prop := va_Qi (S := Unit) (fun r _ => v = some (.inl r)) (fun _ t => zRel B sp cA D h' t.heap) (zAr B)
/-- .. or its throw -/
def zXCL (B : Nat) (sp : Nat → Nat) (cA : Nat → ClassId) (D : va_G) (v : Option zV) (h' : zH) : String → State → State → Prop := vx_X (S := Unit) (fun _ => v = some (.inr (.inl (-1)))) (fun E _ t => E = zNSE ∧ zRel B sp cA D h' t.heap) (zAr B)
set_option maxRecDepth 20000 in
theorem zAtSK : zAtS.all (fun w => (if goodWord w then (zAtP.any (fun i => decide (zpc i = some w)) || decide (w ∈ zws)) else w.onTables) && vx_ot w) = true := by decide +kernel
set_option maxRecDepth 20000 in
theorem zAtSN : zAtS.filter (fun w => !goodWord w) = [.declares (Bundle.initS "java/lang/RuntimeException"), .declares (Bundle.initS "java/lang/Exception"), .declares (Bundle.initS "java/lang/Throwable"), .castable zNSE zNSE] := by decide +kernel
set_option maxRecDepth 20000 in
theorem zThK : Cond.classLink RX11 363 zNSE ∈ zws ∧ Cond.initialized zNSE ∈ zws := ⟨zws_in (i := 5225) (by decide +kernel) (by decide +kernel), zws_in (i := 1025) (by decide +kernel) (by decide +kernel)⟩
theorem zAtS_at {args : Array Value} {s : State} (hts : ∀ w ∈ zws, w.before args s = true) (hn : ∀ w ∈ zAtS.filter (fun w => !goodWord w), va_Nw w s) : ∀ w ∈ zAtS, w.before args s = true := by
  intro w hw
  have hc := List.all_eq_true.mp zAtSK w hw
  simp only [Bool.and_eq_true] at hc
  by_cases hg : goodWord w = true
  · rw [if_pos hg] at hc
    have h1 := hc.1
    rw [Bool.or_eq_true] at h1
    rcases h1 with h1 | h1
    · obtain ⟨i, -, e⟩ := List.any_eq_true.mp h1
      exact hts w (zws_in (of_decide_eq_true e) hg)
    · exact hts w (of_decide_eq_true h1)
  · rw [if_neg hg] at hc
    exact va_Nw.use hc.1 (hn w (List.mem_filter.mpr ⟨hw, by simp [hg]⟩))
section ZTW
variable {p : Program} {l : Launch} {e : Env} {R : Room} {s : State} {m : MethodId} {args : Array Value} {below : List Frame} {meth : Method} {c : Code} {H : Heap} {locs : List Loc} {cells slots : Nat} {mc ms : Nat} {free : Addr → Prop} {ls : Array Slot} {rest : List Value} {Qc : Array Value → State → Outcome → State → Prop} {XC : String → State → State → Prop}
/-- the throw of led -/
theorem zNthrow {cc : ByteArray} {pc : Nat} (hexec : p.tables.exec = Jvm.exec) (hb : c.code = cc) (hl : l.stackTraces = false) {text : String} {sa : Nat} {A : Nat → Prop} (hown : s.vm.findClass RX11 = some m.cls)
    (hk : (Cond.classLink RX11 363 zNSE).before args s = true) (hini : (Cond.initialized zNSE).before args s = true) (hstr : vk_R RX11 365 text sa s) (hat : ∀ w ∈ zAtS, w.before args s = true) (hgood : ∀ w ∈ Cond.classLink RX11 363 zNSE :: Cond.initialized zNSE :: zAtS, vx_ot w = true)
    (hU : vx_Zq Bundle.tN "UNASSIGNED_STACK" Bundle.steD A s s.heap) (hN : vx_Zq Bundle.tN "SUPPRESSED_SENTINEL" Bundle.listD A s s.heap) (hS : va_S A s.heap H locs) (hsize : ls.size = c.maxLocals)
    (d0 : decode cc pc = .ok (.new 363, 3)) (d3 : decode cc (pc + 3) = .ok (.dup, 1)) (d4 : decode cc (pc + 4) = .ok (.ldc_w 365, 3)) (d7 : decode cc (pc + 7) = .ok (.invokespecial 367, 3)) (d10 : decode cc (pc + 10) = .ok (.athrow, 1))
    (hout : ∀ x ∈ c.exceptionTable.toList, covers x (pc + 10) = false) (hRf : 5 < R.frames) (hRl : (rest.map fun v => v.category).sum + 82 ≤ R.locals) (hRcells : cells + 1 ≤ R.cells) (hRslots : slots + 6 ≤ R.slots) (hlocks : meth.locks = false)
    (hx : ∀ t : State, s.vm.Alike t.vm → H.size ≤ t.heap.size → (∀ q : Nat, q < H.size → t.heap[q]? = H[q]?) → XC zNSE s t) (hf : ∀ z ∈ locs, free z.base) (hc : cells + 1 ≤ mc) (hs : slots + 6 ≤ ms) :
    W p l e R s m args below meth c H locs cells slots (vx_MQ below Qc XC args s mc ms free) (F0 m pc ls rest) := by
  intro T hT X
  have htr : e.platform.stackTraces = false := (show e.platform.stackTraces = l.stackTraces by rw [X.admits.platform]).trans hl
  have Y := vx_rebase X (R' := { frames := R.frames, locals := R.locals, cells := 1, slots := 6 }) (Nat.le_refl _) (Nat.le_refl _) hRcells hRslots
  obtain ⟨s', hA⟩ : ∃ z, z = (T.setVm s.vm).setFrames (.invoking m args :: below) := ⟨_, rfl⟩
  rw [← hA] at Y
  have hvm : s'.vm = s.vm := by rw [hA]; rfl
  have hhp : s'.heap = H := by rw [hA]; exact hT
  have hW0 : s.WarmedH s'.vm := by rw [hvm]; exact State.WarmedH.refl s
  have hat' : ∀ w ∈ zAtS, w.before args s' = true := fun w hw => vx_ot_at hW0 hvm.symm (hgood w (List.mem_cons_of_mem _ (List.mem_cons_of_mem _ hw))) (hat w hw)
  have hk' : (Cond.classLink RX11 363 zNSE).before args s' = true := vx_ot_at hW0 hvm.symm (hgood _ List.mem_cons_self) hk
  have hini' : (Cond.initialized zNSE).before args s' = true := vx_ot_at hW0 hvm.symm (hgood _ (List.mem_cons_of_mem _ List.mem_cons_self)) hini
  have hU' : vx_Zq Bundle.tN "UNASSIGNED_STACK" Bundle.steD A s' s'.heap := by rw [hhp]; exact vx_Zq.moved hW0.alike (hU.kept hS.2.1)
  have hN' : vx_Zq Bundle.tN "SUPPRESSED_SENTINEL" Bundle.listD A s' s'.heap := by rw [hhp]; exact vx_Zq.moved hW0.alike (hN.kept hS.2.1)
  have h : ∀ w ∈ zNat RX11 367, w.before args s' = true := vx_own hat' (vx_isRefq hU'.1) (vx_isRefq hN'.1) hU'.2.word hN'.2.word
  have hown' : s'.vm.findClass RX11 = some m.cls := by rw [hvm]; exact hown
  have hins : (Cond.instantiable zNSE 6).before args s' = true := h _ (by simp [zNat, Bundle.ownAtomsX])
  obtain ⟨vm₁, cX, kX, hfX, hkX, -, -, X₁, st1⟩ := Y.newCold hexec (own := RX11) (C := zNSE) (index := 363) (n := 6) hown' hk' hins hini'
    (g := F0 m pc ls rest) rfl (by rw [hb]; exact d0) (Nat.le_refl _) (Nat.le_refl _)
  generalize hT1 : (T.setVm vm₁).pushCell { cls := cX, slots := kX.instanceTypes.map defaultValue, vm := .none } = T1 at X₁ st1
  have hcellA : T1.heap[T.heap.size]? = some (freshCell cX kX) := by rw [← hT1]; exact State.heap_pushCell_size _ _
  have d3' : decode c.code (pc + 3) = .ok (.dup, 1) := by rw [hb]; exact d3
  have d4' : decode c.code (pc + 4) = .ok (.ldc_w 365, 3) := by rw [hb]; exact d4
  have hstr' : vk_R RX11 365 text sa s' := vk_R.warm hW0 hstr
  obtain ⟨U, hsteps, hrun, hend, hW, hsame, ce, hce, hcv, hcl⟩ := zNctor X₁ hexec htr (own := RX11) (ic := 367) hown' h hfX hkX hcellA (by rw [hhp, hT]; exact Nat.le_refl _) (sa := sa) (pc := pc + 7) (ls := ls) (rest := rest) hsize (by rw [hb]; exact d7) (by rw [hb]; exact d10) hout hRf hRl hlocks
  obtain ⟨f1, f2⟩ := vx_frame hsame
  rw [hhp] at f1 f2
  rw [hvm] at hcl
  have hWs : s.WarmedH U.vm := State.WarmedH.trans hW0 hW
  have hall : s.sameButNew ({ U with vm := s.vm } : State) locs mc ms := by
    subst hA
    obtain ⟨e1, e2⟩ := hsame
    rw [State.setFrames_setFrames] at e1
    have h2 : (T.setVm s.vm).sameButNew ({ U with vm := s.vm } : State) [] (0 + 1) (0 + 6) := ⟨e1, e2⟩
    have h3 := X.same.trans h2
    rw [List.append_nil] at h3
    exact h3.mono hc hs
  refine ⟨U, ?_, .threw T.heap.size, hrun, hend, Or.inr ⟨T.heap.size, rfl, zNSE, ce, locs, hx U hWs.alike f1 (fun q hq => f2 q hq (fun z hz => nomatch hz)), hce, hcv, hcl, hWs, hall, hf⟩⟩
  refine st1 _ ?_
  show Steps p.tables e below (T1.setTop { method := m, pc := pc + 3, locals := ls, stack := .ref T.heap.size :: rest, locked := none }) _
  jvm_step X₁.here [X₁.here.top, hexec, d3', Value.category]
  exact X₁.ldcStringW hexec (own := RX11) (text := text) (index := 365) (a := sa) hown' hstr'.1 hstr'.2
    (g := { method := m, pc := pc + 4, locals := ls, stack := .ref T.heap.size :: .ref T.heap.size :: rest, locked := none }) rfl d4' _ hsteps
end ZTW
theorem zled_ent (vs : List zV) (B : Nat) (sp : Nat → Nat) : (lg_sl (vs.map (zcv B sp))).length = zwd vs := by
  induction vs with
  | nil => rfl
  | cons u us ih =>
    have e1 : lg_sl ((u :: us).map (zcv B sp)) = (if (zcv B sp u).category = 2 then [.val (zcv B sp u), .second] else [.val (zcv B sp u)]) ++ lg_sl (us.map (zcv B sp)) := by simp [lg_sl]
    have e2 : zwd (u :: us) = zcat u + zwd us := by simp [zwd]
    rw [e1, e2, List.length_append, ih, zcat_cv]
    have : zcat u = 1 ∨ zcat u = 2 := by
      match u with
      | .inl _ => exact Or.inl rfl
      | .inr (.inl _) => exact Or.inr rfl
      | .inr (.inr _) => exact Or.inl rfl
    rcases this with q | q <;> rw [q] <;> simp
theorem zled_met (l : Launch) (hlt : l.stackTraces = false) (B : Nat) (sp : Nat → Nat) (cA : Nat → ClassId) (D : va_G) (n d : Nat) (vs : List zV) (h : zH) (v : Option zV) (h' : zH) (hd20 : 20 ≤ d) (hw : zwd vs ≤ 4) (hz : zrun n none d mX11_led (0, zargs 0 vs, [], h) = some (v, h')) :
    vx_Met l yX11_led (zwsM mX11_led) (zrm d (zc h' - zc h) (zt h' - zt h)) (zPcL B sp cA D vs h) (zQcL B sp cA D v h') (zXCL B sp cA D v h') (zc h' - zc h) (zt h' - zt h) (zAr B) := by
  have hle := zrun_h _ _ _ _ _ _ _ hz
  refine vx_ofW (cc := mX11_led.1) (maxL := 4) (ret := some .int) (by decide +kernel) rfl ?_
  intro p e s m args below meth c s₁ B' hml htab hv
  obtain ⟨rfl, ⟨hC, hat, hU, hN⟩, hR⟩ := hv
  have hts := atoms_spec (ws := zwsM mX11_led) B'.pre
  have hown : s.vm.findClass yX11_led.cls = some m.cls := findClass_of_methodNamed B'.named
  have hlocks := B'.notSynchronized
  have htz : ∀ w ∈ zws, w.before (vs.map (zcv B sp)).toArray s = true := fun w hw => hts w (List.mem_cons_of_mem _ hw)
  have cx : zX p s m (vs.map (zcv B sp)).toArray meth c B sp cA D mX11_led := ⟨B'.exec, B'.bytes, hml, hown, htz, fun q => (by cases q), hC⟩
  have hl := lv_entry (vs.map (zcv B sp)) (n := 4) (by rw [zled_ent]; exact hw)
  rw [zargs_lv] at hl
  rw [lg_entry_eq]
  generalize (lg_sl (vs.map (zcv B sp)) ++ List.replicate (4 - (lg_sl (vs.map (zcv B sp))).length) Slot.unset).toArray = lA at hl ⊢
  have hS : va_S (zAr B) s.heap s.heap [] := va_S.rf
  refine zsim_run (R := (headSpec (zwsM mX11_led) (zrm d (zc h' - zc h) (zt h' - zt h))).room) (scr := none) (d := d) (v := v) (h' := h') (c0 := zc h) (s0 := zt h) (mi := mX11_led) cx (fun L xs q => by cases q) (Nat.le_refl (d + 4)) (Nat.le_refl (60 * (d + 4))) ⟨by show zc h' ≤ zc h + (zc h' - zc h); omega, by show zt h' ≤ zt h + (zt h' - zt h); omega⟩ n (fun k _ => zmet_all l B sp cA D k) (fun n k na cm pc ls st h g _ _ _ q => by cases q) ?_ n (0, zargs 0 vs, [], h) (Nat.le_refl n) hz s.heap [] lA 0 0 hR hS hl (by show zc h + 0 = zc h; omega) (by show zt h + 0 = zt h; omega)
  intro k g _ hs H locs lA' cells slots hR' hS' hl' h1 h2
  rcases zs_finL hs with ⟨e0, x, rfl, e1, hd⟩ | ⟨rfl, e1, e2, e3⟩
  · rw [e0] at hR' h1 h2
    have hcl : cells = zc h' - zc h := by omega
    have hsl : slots = zt h' - zt h := by omega
    subst hcl
    subst hsl
    rw [e1]
    exact vx_ret (W.zret (v := x) (ty := .int) cx.1 cx.2.1 (by rw [B'.returns]) rfl (fun t ht hW => ⟨⟨x, (), rfl, rfl, by show zRel B sp cA D h' t.heap; rw [ht]; exact hR'⟩, hS'.F ht⟩) hS'.2.2 hd)
  · subst e1
    have z1 : zc (zthr g.2.2.2) = zc g.2.2.2 + 1 := rfl
    have z2 : zt (zthr g.2.2.2) = zt g.2.2.2 + 6 := by
      show g.2.2.2.1.2.2 + 6 * (g.2.2.2.2.2.2.2 + 1) = g.2.2.2.1.2.2 + 6 * g.2.2.2.2.2.2.2 + 6
      omega
    rw [e2, e3]
    refine zNthrow (text := "no such box is left") (sa := sp 1000033) cx.1 cx.2.1 hlt hown (htz _ zThK.1) (htz _ zThK.2) (hC.2.2.1 (11, 365, "no such box is left", 1000033, 6024) (by decide +kernel)) (zAtS_at htz hat) ?_ hU hN hS' ?_ dX11_led_45 dX11_led_48 dX11_led_49 dX11_led_52 dX11_led_55 (fun x hx => (htab x hx).elim) ?_ ?_ ?_ ?_ hlocks ?_ hS'.2.2 ?_ ?_
    · intro w hw
      rcases List.mem_cons.mp hw with rfl | hw
      · decide +kernel
      · rcases List.mem_cons.mp hw with rfl | hw
        · decide +kernel
        · have hc := List.all_eq_true.mp zAtSK w hw
          simp only [Bool.and_eq_true] at hc
          exact hc.2
    · exact hl'.1.trans hml.symm
    · show 5 < d + 4
      omega
    · show 0 + 82 ≤ 60 * (d + 4)
      omega
    · show cells + 1 ≤ zc (zthr g.2.2.2) - zc h
      omega
    · show slots + 6 ≤ zt (zthr g.2.2.2) - zt h
      omega
    · intro t hA hsz hk
      refine ⟨(), rfl, ⟨rfl, hR'.1.kept (fun k q hq => hk q.1 ((hR'.1 k q hq).lt)), ⟨hR'.2.1.1, fun a q hq => hR'.2.1.2 a q hq⟩, fun q => absurd q (Nat.succ_ne_zero _)⟩, Nat.le_trans hS'.1 hsz, fun q hq hn => ?_⟩
      rw [hk q (Nat.lt_of_lt_of_le hq hS'.1)]
      exact hS'.2.1 q hq hn
    · omega
    · omega
