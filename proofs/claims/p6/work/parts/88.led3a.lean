abbrev mL_led : zM := (cL_led, 13, 4, some .int, yL_led, false)
def zwsLL : List Cond := Cond.codeWith yL_led cL_led 4 (some .int) [(0, 9, 12, 13)] :: zws
def zX0 (B : Nat) : String → State → State → Prop := vx_X (S := Unit) (fun _ => False) (fun _ _ _ => True) (zAr B)
set_option maxRecDepth 20000 in
theorem zLLK1 : Cond.codeWith yL_led cL_led 4 (some .int) [(0, 9, 12, 13)] ∈ zws ∧ Cond.classLink RL 13 zNSE ∈ zws := ⟨by decide +kernel, by decide +kernel⟩
set_option maxRecDepth 20000 in
theorem zLLK2 : Cond.methodLink RL 7 yX11_led ∈ zws ∧ Cond.instanceMethod yX11_led ∈ zws ∧ Cond.selects RX11 yX11_led yX11_led ∈ zws ∧ Cond.initialized RX11 ∈ zws ∧ Cond.code yX11_led cX11_led 4 (some .int) ∈ zws := ⟨by decide +kernel, by decide +kernel, by decide +kernel, by decide +kernel, by decide +kernel⟩
set_option maxRecDepth 20000 in
theorem zLLK3 : Cond.methodLink RL 217 yL_led ∈ zws ∧ Cond.static yL_led ∈ zws ∧ Cond.initialized RL ∈ zws := ⟨by decide +kernel, by decide +kernel, by decide +kernel⟩
theorem zLLp1 : (∀ sig, parseMethodDescriptor yX11_led.desc = some sig → 1 = sig.parameters.length) := by
  intro sig h
  have h2 : (parseMethodDescriptor yX11_led.desc).map (fun d => d.parameters.length) = some 1 := by decide +kernel
  rw [h] at h2
  exact (Option.some.inj h2).symm
theorem zLLp3 : (∀ sig, parseMethodDescriptor yL_led.desc = some sig → 3 = sig.parameters.length) := by
  intro sig h
  have h2 : (parseMethodDescriptor yL_led.desc).map (fun d => d.parameters.length) = some 3 := by decide +kernel
  rw [h] at h2
  exact (Option.some.inj h2).symm
section Qx
variable {B : Nat} {sp : Nat → Nat} {cA : Nat → ClassId} {D : va_G}
theorem zCxL.warm {s U : State} (h : zCxL B sp cA D s) (hW : s.WarmedH U.vm) (hz : s.heap.size ≤ U.heap.size) (hk : ∀ a : Nat, a < s.heap.size → ¬ zAr B a → U.heap[a]? = s.heap[a]?) : zCxL B sp cA D U := by
  obtain ⟨h0, h1, h2, h3⟩ := h
  refine ⟨h0.warm hW (Nat.le_trans h0.2.2.2.2.1 hz) hk, ?_, (h2.kept hk).moved hW.alike, (h3.kept hk).moved hW.alike⟩
  rw [zAtSN] at h1 ⊢
  obtain ⟨a1, h1⟩ := List.forall_mem_cons.mp h1
  obtain ⟨a2, h1⟩ := List.forall_mem_cons.mp h1
  obtain ⟨a3, h1⟩ := List.forall_mem_cons.mp h1
  obtain ⟨a4, h1⟩ := List.forall_mem_cons.mp h1
  exact List.forall_mem_cons.mpr ⟨va_Nw.warmD hW a1, List.forall_mem_cons.mpr ⟨va_Nw.warmD hW a2, List.forall_mem_cons.mpr ⟨va_Nw.warmD hW a3, List.forall_mem_cons.mpr ⟨va_Nw.warmC hW a4, fun _ q => nomatch q⟩⟩⟩⟩
theorem zPcL_blind {vs : List zV} {h : zH} : FrameBlind (zPcL B sp cA D vs h) := by
  intro a U g mk q
  obtain ⟨q0, ⟨q1, n1, u1, v1⟩, q2⟩ := q
  refine ⟨q0, ⟨⟨va_K.moved (u := U) (U := U.calling g mk a) (Vm.Alike.refl U.vm) q1.1, fun x hx => va_Nw.same rfl rfl (q1.2.1 x hx), fun x hx => vk_R.same rfl (q1.2.2.1 x hx), fun k h1 h2 => va_AO.moved (u := U) (U := U.calling g mk a) (Vm.Alike.refl U.vm) (q1.2.2.2.1 k h1 h2), q1.2.2.2.2⟩, fun w hw => ?_, vx_Zq.moved (u := U) (U := U.calling g mk a) (Vm.Alike.refl U.vm) u1, vx_Zq.moved (u := U) (U := U.calling g mk a) (Vm.Alike.refl U.vm) v1⟩, q2⟩
  have hc := List.all_eq_true.mp zAtSK w (List.mem_filter.mp hw).1
  have hg : goodWord w = false := by simpa using (List.mem_filter.mp hw).2
  simp only [Bool.and_eq_true, hg] at hc
  exact va_Nw.same (u := U) (U := U.calling g mk a) hc.1 rfl (n1 w hw)
end Qx
