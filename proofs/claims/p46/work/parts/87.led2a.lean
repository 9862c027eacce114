def zAtS : List Cond := (zNat RX11 367).filter vx_no
def zCxL (B : Nat) (sp : Nat → Nat) (cA : Nat → ClassId) (D : va_G) (U : State) : Prop :=
  zCx B sp cA D U ∧ (∀ w ∈ zAtS.filter (fun w => !goodWord w), va_Nw w U) ∧ vx_Zq Bundle.tN "UNASSIGNED_STACK" Bundle.steD (zAr B) U U.heap ∧ vx_Zq Bundle.tN "SUPPRESSED_SENTINEL" Bundle.listD (zAr B) U U.heap
def zPcL (B : Nat) (sp : Nat → Nat) (cA : Nat → ClassId) (D : va_G) (vs : List zV) (h : zH) : Array Value → State → Prop := va_Pc (vs.map (zcv B sp)) (fun U => zCxL B sp cA D U ∧ zRel B sp cA D h U.heap)
def zQcL (B : Nat) (sp : Nat → Nat) (cA : Nat → ClassId) (D : va_G) (v : Option zV) (h' : zH) : Array Value → State → Outcome → State → Prop := va_Qi (S := Unit) (fun r _ => v = some (.inl r)) (fun _ t => zRel B sp cA D h' t.heap) (zAr B)
def zXCL (B : Nat) (sp : Nat → Nat) (cA : Nat → ClassId) (D : va_G) (v : Option zV) (h' : zH) : String → State → State → Prop := vx_X (S := Unit) (fun _ => v = some (.inr (.inl (-1)))) (fun E _ t => E = zNSE ∧ zRel B sp cA D h' t.heap) (zAr B)
set_option maxRecDepth 20000 in
theorem zAtSK : zAtS.all (fun w => (if goodWord w then decide (w ∈ zws) else w.onTables) && vx_ot w) = true := by decide +kernel
set_option maxRecDepth 20000 in
theorem zAtSN : zAtS.filter (fun w => !goodWord w) = [.declares (Bundle.initS "java/lang/RuntimeException"), .declares (Bundle.initS "java/lang/Exception"), .declares (Bundle.initS "java/lang/Throwable"), .castable zNSE zNSE] := by decide +kernel
set_option maxRecDepth 20000 in
theorem zThK : Cond.classLink RX11 363 zNSE ∈ zws ∧ Cond.initialized zNSE ∈ zws := ⟨by decide +kernel, by decide +kernel⟩
theorem zAtS_at {args : Array Value} {s : State} (hts : ∀ w ∈ zws, w.before args s = true) (hn : ∀ w ∈ zAtS.filter (fun w => !goodWord w), va_Nw w s) : ∀ w ∈ zAtS, w.before args s = true := by
  intro w hw
  have hc := List.all_eq_true.mp zAtSK w hw
  simp only [Bool.and_eq_true] at hc
  by_cases hg : goodWord w = true
  · rw [if_pos hg] at hc
    exact hts w (of_decide_eq_true hc.1)
  · rw [if_neg hg] at hc
    exact va_Nw.use hc.1 (hn w (List.mem_filter.mpr ⟨hw, by simp [hg]⟩))
