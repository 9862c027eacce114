/-! code as lists and trees -/
abbrev dLf : Type := Nat × Instr × Nat
noncomputable def dFl (t : Lean.RArray dLf) : List dLf := @Lean.RArray.rec dLf (fun _ => List dLf) (fun q => [q]) (fun _ _ _ l r => l ++ r) t
theorem dFl_mem (pc : Nat) : ∀ t : Lean.RArray dLf, t.get pc ∈ dFl t
  | .leaf q => List.mem_singleton.mpr rfl
  | .branch p l r => by
    show @Bool.rec (fun _ => dLf) (l.get pc) (r.get pc) (Nat.ble p pc) ∈ dFl l ++ dFl r
    cases Nat.ble p pc with
    | false => exact List.mem_append_left _ (dFl_mem pc l)
    | true => exact List.mem_append_right _ (dFl_mem pc r)
theorem d_at {c : ByteArray} {o : List dLf} {t : Lean.RArray dLf} (h : ∀ q ∈ o, decode c q.1 = .ok (q.2.1, q.2.2)) (e : dFl t = o) (pc : Nat) : decode c (t.get pc).1 = .ok ((t.get pc).2.1, (t.get pc).2.2) := h _ (by rw [← e]; exact dFl_mem pc t)
theorem d_by {c : ByteArray} {pc len : Nat} {i : Instr} {q : dLf} (h : decode c q.1 = .ok (q.2.1, q.2.2)) (e : q = (pc, i, len)) : decode c pc = .ok (i, len) := by
  rw [e] at h
  exact h
