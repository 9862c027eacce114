/-! the law's own led: it catches what led throws -/
abbrev mL_led : zM := (cL_led, 13, 4, some .int, yL_led, false)
def zwsLL : List Cond := Cond.codeWith yL_led cL_led 4 (some .int) [(0, 9, 12, 13)] :: zws
def zX0 (B : Nat) : String → State → State → Prop := vx_X (S := Unit) (fun _ => False) (fun _ _ _ => True) (zAr B)
set_option maxRecDepth 20000 in
theorem zLLK1 : Cond.codeWith yL_led cL_led 4 (some .int) [(0, 9, 12, 13)] ∈ zws ∧ Cond.classLink RL 13 zNSE ∈ zws := ⟨zws_in (i := 5219) rfl rfl, zws_in (i := 5220) (by decide +kernel) (by decide +kernel)⟩
set_option maxRecDepth 20000 in
theorem zLLK2 : Cond.methodLink RL 7 yX11_led ∈ zws ∧ Cond.instanceMethod yX11_led ∈ zws ∧ Cond.selects RX11 yX11_led yX11_led ∈ zws ∧ Cond.initialized RX11 ∈ zws ∧ Cond.code yX11_led cX11_led 4 (some .int) ∈ zws := ⟨zws_in (i := 5221) (by decide +kernel) (by decide +kernel), zws_in (i := 5222) (by decide +kernel) (by decide +kernel), zws_in (i := 5223) (by decide +kernel) (by decide +kernel), zws_in (i := 1001) (by decide +kernel) (by decide +kernel), zledc⟩
set_option maxRecDepth 20000 in
theorem zLLK3 : Cond.methodLink RL 217 yL_led ∈ zws ∧ Cond.static yL_led ∈ zws ∧ Cond.initialized RL ∈ zws := ⟨zws_in (i := 5217) (by decide +kernel) (by decide +kernel), zws_in (i := 5218) (by decide +kernel) (by decide +kernel), zws_in (i := 1000) (by decide +kernel) (by decide +kernel)⟩
theorem zLLp1 : (∀ sig, parseMethodDescriptor yX11_led.desc = some sig → 1 = sig.parameters.length) := by
  intro sig h
  have h2 : (parseMethodDescriptor yX11_led.desc).map (fun d => d.parameters.length) = some 1 := by decide +kernel
  rw [h] at h2
  exact (Option.some.inj h2).symm
theorem zLLp3 : (∀ sig, parseMethodDescriptor yL_led.desc = some sig → 3 = sig.parameters.length) := by
  intro sig h
  have h2 : (parseMethodDescriptor yL_led.desc).map (fun d => d.parameters.length) = some 3 := by decide +kernel
  rw [h] at h2
  exact (Option.some.inj h2).symm
section ZL3
variable {B : Nat} {sp : Nat → Nat} {cA : Nat → ClassId} {D : va_G}
theorem zCxL.warm {s U : State} (h : zCxL B sp cA D s) (hW : s.WarmedH U.vm) (hz : s.heap.size ≤ U.heap.size) (hk : ∀ a : Nat, a < s.heap.size → ¬ zAr B a → U.heap[a]? = s.heap[a]?) : zCxL B sp cA D U := by
  obtain ⟨h0, h1, h2, h3⟩ := h
  refine ⟨h0.warm hW (Nat.le_trans h0.2.2.2.2.1 hz) hk, ?_, (h2.kept hk).moved hW.alike, (h3.kept hk).moved hW.alike⟩
  rw [zAtSN] at h1 ⊢
  obtain ⟨a1, h1⟩ := List.forall_mem_cons.mp h1
  obtain ⟨a2, h1⟩ := List.forall_mem_cons.mp h1
  obtain ⟨a3, h1⟩ := List.forall_mem_cons.mp h1
  obtain ⟨a4, h1⟩ := List.forall_mem_cons.mp h1
  exact List.forall_mem_cons.mpr ⟨va_Nw.warmD hW a1, List.forall_mem_cons.mpr ⟨va_Nw.warmD hW a2, List.forall_mem_cons.mpr ⟨va_Nw.warmD hW a3, List.forall_mem_cons.mpr ⟨va_Nw.warmC hW a4, fun _ q => nomatch q⟩⟩⟩⟩
theorem zPcL_blind {vs : List zV} {h : zH} : FrameBlind (zPcL B sp cA D vs h) := by
  intro a U g mk q
  obtain ⟨q0, ⟨q1, n1, u1, v1⟩, q2⟩ := q
  refine ⟨q0, ⟨⟨va_K.moved (u := U) (U := U.calling g mk a) (Vm.Alike.refl U.vm) q1.1, fun x hx => va_Nw.same rfl rfl (q1.2.1 x hx), fun x hx => vk_R.same rfl (q1.2.2.1 x hx), fun k h1 h2 => va_AO.moved (u := U) (U := U.calling g mk a) (Vm.Alike.refl U.vm) (q1.2.2.2.1 k h1 h2), q1.2.2.2.2⟩, fun w hw => ?_, vx_Zq.moved (u := U) (U := U.calling g mk a) (Vm.Alike.refl U.vm) u1, vx_Zq.moved (u := U) (U := U.calling g mk a) (Vm.Alike.refl U.vm) v1⟩, q2⟩
  have hc := List.all_eq_true.mp zAtSK w (List.mem_filter.mp hw).1
  have hg : goodWord w = false := by simpa using (List.mem_filter.mp hw).2
  simp only [Bool.and_eq_true, hg] at hc
  exact va_Nw.same (u := U) (U := U.calling g mk a) hc.1 rfl (n1 w hw)
theorem zledL_met (l : Launch) (hlt : l.stackTraces = false) (n d a o : Nat) (p0 : Int32) (h : zH) (v : Option zV) (h' : zH) (r : Int32) (h2 : zH) (hd20 : 20 ≤ d) (ha : zsh h a = some (11, 16)) (ho : zsh h o = some (15, 1))
    (hz : zrun n none d mX11_led (0, zargs 0 [.inr (.inr (some a)), .inl p0], [], h) = some (v, h'))
    (hv : (∃ b : Int32, v = some (.inl b) ∧ r = 0 ∧ h2 = zsL h' o 0 b.toInt64) ∨ (∃ b : Int64, v = some (.inr (.inl b)) ∧ r = 1 ∧ h2 = h')) :
    vx_Met l yL_led zwsLL (zrm (d + 2) (zc h' - zc h) (zt h' - zt h)) (zPcL B sp cA D [.inr (.inr (some a)), .inl p0, .inr (.inr (some o))] h) (zQc B sp cA D (some (.inl r)) h2) (zX0 B) (zc h' - zc h) (zt h' - zt h) (zAr B) := by
  have hle : zc h ≤ zc h' ∧ zt h ≤ zt h' := zrun_h _ _ _ _ _ _ _ hz
  have hge := zrun_g _ _ _ _ _ _ _ hz
  have hc2 : zc h2 = zc h' ∧ zt h2 = zt h' := by
    rcases hv with ⟨b, -, -, rfl⟩ | ⟨b, -, -, rfl⟩
    · exact ⟨rfl, rfl⟩
    · exact ⟨rfl, rfl⟩
  refine vx_ofWH (cc := cL_led) (maxL := 4) (ret := some .int) (hh := [(0, 9, 12, 13)]) (by decide +kernel) rfl ?_
  intro p e s m args below meth c s₁ B' hml hpc
  obtain ⟨rfl, hCL, hR⟩ := hpc
  have hts := atoms_spec (ws := zwsLL) B'.pre
  have hown : s.vm.findClass yL_led.cls = some m.cls := findClass_of_methodNamed B'.named
  have hlocks := B'.notSynchronized
  have htab := vx_table (x := yL_led) B' (hts _ List.mem_cons_self)
  have htz : ∀ w ∈ zws, w.before (([.inr (.inr (some a)), .inl p0, .inr (.inr (some o))] : List zV).map (zcv B sp)).toArray s = true := fun w hw => hts w (List.mem_cons_of_mem _ hw)
  have cx : zX p s m (([.inr (.inr (some a)), .inl p0, .inr (.inr (some o))] : List zV).map (zcv B sp)).toArray meth c B sp cA D mL_led := ⟨B'.exec, B'.bytes, hml, hown, htz, fun q => (by cases q), hCL.1⟩
  have hl := lv_entry (([.inr (.inr (some a)), .inl p0, .inr (.inr (some o))] : List zV).map (zcv B sp)) (n := 4) (by rw [zled_ent]; exact zble rfl)
  rw [zargs_lv] at hl
  rw [lg_entry_eq]
  generalize (lg_sl (([.inr (.inr (some a)), .inl p0, .inr (.inr (some o))] : List zV).map (zcv B sp)) ++ List.replicate (4 - (lg_sl (([.inr (.inr (some a)), .inl p0, .inr (.inr (some o))] : List zV).map (zcv B sp))).length) Slot.unset).toArray = lA at hl ⊢
  obtain ⟨R, hRm⟩ : ∃ R : Room, R = (headSpec zwsLL (zrm (d + 2) (zc h' - zc h) (zt h' - zt h))).room := ⟨_, rfl⟩
  have r1 : R.frames = d + 6 := by rw [hRm]; rfl
  have r2 : R.locals = 60 * (d + 6) := by rw [hRm]; rfl
  have r3 : R.cells = zc h' - zc h := by rw [hRm]; rfl
  have r4 : R.slots = zt h' - zt h := by rw [hRm]; rfl
  rw [← hRm]
  have K : zK p l e R s m (([.inr (.inr (some a)), .inl p0, .inr (.inr (some o))] : List zV).map (zcv B sp)).toArray below meth c (vx_MQ below (zQc B sp cA D (some (.inl r)) h2) (zX0 B) (([.inr (.inr (some a)), .inl p0, .inr (.inr (some o))] : List zV).map (zcv B sp)).toArray s (zc h' - zc h) (zt h' - zt h) (zAr B)) B sp cA D mL_led (zc h) (zt h) (0, zargs 0 [.inr (.inr (some a)), .inl p0, .inr (.inr (some o))], [], h) := by
    refine zs_load (so := 2) (j := 2) cx dL_led_0 (Or.inr (Or.inr (Or.inr (Or.inr (Or.inr ⟨2, rfl, rfl, rfl, rfl⟩))))) rfl ?_
    refine zs_iconst cx dL_led_1 ?_
    refine zs_load (so := 2) (j := 0) cx dL_led_2 (Or.inr (Or.inr (Or.inr (Or.inr (Or.inr ⟨0, rfl, rfl, rfl, rfl⟩))))) rfl ?_
    refine zs_load (so := 0) (j := 1) cx dL_led_3 (Or.inr (Or.inl ⟨1, rfl, rfl, rfl, rfl⟩)) rfl ?_
    intro H locs lA cells slots hR hS hl h1 h2'
    dsimp only at hR hl h1 h2'
    have hc0 : cells = 0 := by omega
    have hs0 : slots = 0 := by omega
    have hWq := zW_get (B := B) (sp := sp) (cA := cA) ha
    rw [zE_obj (by decide)] at hWq
    have hMet := zled_met l hlt B sp cA D n d [.inr (.inr (some a)), .inl p0] h v h' hd20 (zble rfl) hz
    have hrun := vx_runV (p := p) (e := e) (R := R) (s := s) (m := m) (args := (([.inr (.inr (some a)), .inl p0, .inr (.inr (some o))] : List zV).map (zcv B sp)).toArray) (below := below) (meth := meth) (c := c) (H := H) (locs := locs) (cells := cells) (slots := slots) (cc := cL_led) (nL := 4) (Ts := zws) (own := RL) (C := RX11) (index := 7) (b := B + a) (As := [Value.int p0]) (rest := [.inl (Int32.ofInt 0), .inr (.inr (some o))].map (zcv B sp)) (n := 1) (bytes := cX11_led) (maxL := 4) (ret := some .int)
      (g := F0 m 4 lA (([.inl p0, .inr (.inr (some a)), .inl (Int32.ofInt 0), .inr (.inr (some o))] : List zV).map (zcv B sp)))
      ⟨cx.1, cx.2.1, hml, hown, htz⟩ hMet
      ⟨⟨rfl, rfl, by rw [r1]; show d + 4 + 1 ≤ d + 6; omega, by rw [r2]; show 8 + (4 + 11) + 60 * (d + 4) ≤ 60 * (d + 6); omega, fun w hw a' U hW => (by
          have hw' : w ∈ zws := by
            rcases List.mem_cons.mp hw with rfl | q
            · exact zLLK2.2.2.2.2
            · exact q
          exact word_at hW (zws_good w hw') (htz w hw')), List.mem_cons_self, htz _ zLLK2.2.2.2.2, htz _ zLLK2.2.2.2.1, by decide, zLLp1, htz _ zLLK2.1⟩, htz _ zLLK2.2.1, htz _ zLLK2.2.2.1⟩
      ⟨zPcL_blind, va_recv hCL.1.1 hR.1 (zcl_cl (by decide)) hWq, fun U hU hW => by
        have e1 : ([.inr (.inr (some a)), .inl p0] : List zV).map (zcv B sp) = Value.ref (B + a) :: [Value.int p0] := by
          rw [List.map_cons, zcv_ref (zok_lt hR.2.1 ha)]
          rfl
        refine ⟨by rw [e1], hCL.warm hW (by rw [hU]; exact hS.1) (fun x hx hn => by rw [hU]; exact hS.2.1 x hx hn), by rw [hU]; exact hR⟩⟩
      rfl rfl hl.1 (by
        show ([.inl p0, .inr (.inr (some a)), .inl (Int32.ofInt 0), .inr (.inr (some o))] : List zV).map (zcv B sp) = _
        rw [List.map_cons, List.map_cons, zcv_ref (zok_lt hR.2.1 ha)]
        rfl) (by
        show 2 * 0 + _ ≤ 8
        rw [zwd_cv]
        exact zble rfl) dL_led_4 ⟨by rw [r3]; omega, by rw [r4]; omega⟩
    refine vx_calli hrun hS (fun q _ h => h) (fun q h => h) (fun q _ h => h) ?_ ?_
    · -- it throws, and is caught
      intro E ce q9 u t H1 locs1 ht hvm hpx hB hz1 hk1 hS1 hce hcv hcl
      obtain ⟨rfl, hR1⟩ := hB
      rcases hv with ⟨b, e1, -, -⟩ | ⟨b, e1, rfl, rfl⟩
      · rw [e1] at hpx; cases hpx
      · refine vx_catch (own := RL) (name := zNSE) (E := zNSE) hown [] ⟨0, 9, 12, 13⟩ [] htab (fun z hz => nomatch hz) (by show covers ⟨0, 9, 12, 13⟩ 4 = true; decide) (by decide) (htz _ zLLK1.2) (va_Nw.use rfl (hCL.2.1 (.castable zNSE zNSE) (by rw [zAtSN]; exact List.mem_cons_of_mem _ (List.mem_cons_of_mem _ (List.mem_cons_of_mem _ List.mem_cons_self))))) hce hcv hcl ?_
        refine lv_astore_n cx.1 cx.2.1 dL_led_12 rfl hl (by decide) rfl (fun ls' hl' => ?_)
        refine lv_iconst cx.1 cx.2.1 dL_led_13 rfl ?_
        refine W.widen (k := zc h2 - zc h) (n := zt h2 - zt h) (by omega) (by omega) ?_
        exact vx_ret (W.zret (v := 1) (ty := .int) cx.1 cx.2.1 (by rw [B'.returns]) rfl (fun t' ht' hW => ⟨⟨1, (), rfl, rfl, by show zRel B sp cA D h2 t'.heap; rw [ht', ← ht]; exact hR1⟩, hS1.F ht'⟩) hS1.2.2 dL_led_14)
    · intro r9 u t H1 locs1 ht hvm hpx hB hz1 hk1 hS1
      rcases hv with ⟨b, e1, rfl, rfl⟩ | ⟨b, e1, -, -⟩
      · have hpx : v = some (.inl r9) := hpx
        rw [e1] at hpx
        obtain rfl : r9 = b := by cases hpx; rfl
        have hB : zRel B sp cA D h' t.heap := hB
        have K7 : zK p l e R s m (([.inr (.inr (some a)), .inl p0, .inr (.inr (some o))] : List zV).map (zcv B sp)).toArray below meth c (vx_MQ below (zQc B sp cA D (some (.inl 0)) (zsL h' o 0 r9.toInt64)) (zX0 B) (([.inr (.inr (some a)), .inl p0, .inr (.inr (some o))] : List zV).map (zcv B sp)).toArray s (zc h' - zc h) (zt h' - zt h) (zAr B)) B sp cA D mL_led (zc h) (zt h) (7, zargs 0 [.inr (.inr (some a)), .inl p0, .inr (.inr (some o))], [.inl r9, .inl (Int32.ofInt 0), .inr (.inr (some o))], h') := by
          refine zs_un cx dL_led_7 (v := .inr (.inl r9.toInt64)) rfl ?_
          refine zs_last cx dL_led_8 (hge _ _ ho) (by decide) ?_
          refine zs_goto cx dL_led_9 (g := (15, zargs 0 [.inr (.inr (some a)), .inl p0, .inr (.inr (some o))], [], zsL h' o (Int32.ofInt 0).toNatClampNeg r9.toInt64)) rfl ?_
          refine zs_iconst cx dL_led_15 ?_
          intro H2 locs2 lA2 cells2 slots2 hR2 hS2 hl2 g1 g2
          have g1 : zc h + cells2 = zc h' := g1
          have g2 : zt h + slots2 = zt h' := g2
          refine W.widen (k := zc h' - zc h) (n := zt h' - zt h) (by omega) (by omega) ?_
          exact vx_ret (W.zret (v := 0) (ty := .int) cx.1 cx.2.1 (by rw [B'.returns]) rfl (fun t' ht' hW => ⟨⟨0, (), rfl, rfl, by show zRel B sp cA D (zsL h' o 0 r9.toInt64) t'.heap; rw [ht']; exact hR2⟩, hS2.F ht'⟩) hS2.2.2 dL_led_16)
        exact K7 H1 locs1 lA _ _ (by rw [← ht]; exact hB) hS1 hl (by show zc h + (cells + (zc h' - zc h)) = zc h'; have := hle.1; omega) (by show zt h + (slots + (zt h' - zt h)) = zt h'; have := hle.2; omega)
      · have hpx : v = some (.inl r9) := hpx
        rw [e1] at hpx
        cases hpx
  exact K s.heap [] lA 0 0 hR va_S.rf hl (by show zc h + 0 = zc h; omega) (by show zt h + 0 = zt h; omega)
end ZL3
