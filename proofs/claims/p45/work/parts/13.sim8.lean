/-! whole runs of a method -/
def zcf (n d : Nat) : zM → List zV → zH → Option zR := fun k vs h => match d with
  | 0 => none
  | d' + 1 => if zwd vs ≤ k.2.2.1 then zrun n none d' k (0, zargs 0 vs, [], h) else none
theorem zrun_succ (n : Nat) (scr : Option (Nat × (Nat → Int32))) (d : Nat) (m : zM) (g : zC) : zrun (n + 1) scr d m g = (match zstep scr (zcf n d) (decide (0 < d)) m g with
    | some (.inl c') => zrun n scr d m c'
    | some (.inr r) => some r
    | none => none) := rfl
def zMetAll (l : Launch) (B : Nat) (sp : Nat → Nat) (cA : Nat → ClassId) (D : va_G) (n : Nat) : Prop := ∀ (d : Nat) (cm : zM) (vs : List zV) (h : zH) (v : Option zV) (h' : zH), zMok cm → zwd vs ≤ cm.2.2.1 → zrun n none d cm (0, zargs 0 vs, [], h) = some (v, h') → zMet l B sp cA D d cm vs h v h'
section ZS8
variable {p : Program} {l : Launch} {e : Env} {R : Room} {s : State} {m : MethodId} {args : Array Value} {below : List Frame} {meth : Method} {c : Code} {Q : State → Prop} {B : Nat} {sp : Nat → Nat} {cA : Nat → ClassId} {D : va_G} {mi : zM} {c0 s0 : Nat}
theorem zcf_met {n d : Nat} (IH : zMetAll l B sp cA D n) : ∀ cm, zMok cm → ∀ vs hh v hh', zcf n d cm vs hh = some (v, hh') → (∃ d', d = d' + 1 ∧ zMet l B sp cA D d' cm vs hh v hh') ∧ zc hh ≤ zc hh' ∧ zt hh ≤ zt hh' := by
  intro cm hM vs hh v hh' hq
  unfold zcf at hq
  split at hq
  · cases hq
  · next d' =>
    split at hq
    · next hw => exact ⟨⟨d', rfl, IH d' cm vs hh v hh' hM hw hq⟩, zrun_h _ _ _ _ _ _ _ hq⟩
    · cases hq
theorem zsim_run {scr : Option (Nat × (Nat → Int32))} {d : Nat} {v : Option zV} {h' : zH} (cx : zX p s m args meth c B sp cA D mi)
    (hscr : ∀ L xs, scr = some (L, xs) → va_X (sp 1000000) L xs s s.heap ∧ sp 1000000 < s.heap.size ∧ sp 1000000 < B)
    (hf : d + 4 ≤ R.frames) (hlo : 60 * (d + 4) ≤ R.locals) (hr : zc h' ≤ c0 + R.cells ∧ zt h' ≤ s0 + R.slots) (N : Nat) (IH : ∀ k, k < N → zMetAll l B sp cA D k)
    (hled : ∀ (n k na : Nat) (cm : zM) (pc : Nat) (ls : zL) (st : List zV) (h : zH) (g : zC), n < N → zmth mi.2.1 k = some (16, na, cm) → decode mi.1 pc = .ok (.invokestatic k, 3) → scr.isSome = true → 0 < d → zled (zcf n d) pc ls st h = some (.inl g) → zc g.2.2.2 ≤ c0 + R.cells ∧ zt g.2.2.2 ≤ s0 + R.slots → zK p l e R s m args below meth c Q B sp cA D mi c0 s0 g → zK p l e R s m args below meth c Q B sp cA D mi c0 s0 (pc, ls, st, h))
    (hfin : ∀ (n : Nat) (g : zC), n < N → zstep scr (zcf n d) (decide (0 < d)) mi g = some (.inr (v, h')) → zK p l e R s m args below meth c Q B sp cA D mi c0 s0 g) :
    ∀ (n : Nat) (g : zC), n ≤ N → zrun n scr d mi g = some (v, h') → zK p l e R s m args below meth c Q B sp cA D mi c0 s0 g := by
  intro n
  induction n with
  | zero => intro g _ hz; cases hz
  | succ n ih =>
    intro g hn hz
    have hz0 := hz
    rw [zrun_succ] at hz
    split at hz
    · next g' hs =>
      have hk := ih g' (by omega) hz
      have hle := zrun_h _ _ _ _ _ _ _ hz
      have hle0 := zrun_h _ _ _ _ _ _ _ hz0
      have hr' : zc g'.2.2.2 ≤ c0 + R.cells ∧ zt g'.2.2.2 ≤ s0 + R.slots := ⟨Nat.le_trans hle.1 hr.1, Nat.le_trans hle.2 hr.2⟩
      have hr0 : zc g.2.2.2 ≤ c0 + R.cells ∧ zt g.2.2.2 ≤ s0 + R.slots := ⟨Nat.le_trans hle0.1 hr.1, Nat.le_trans hle0.2 hr.2⟩
      unfold zstep at hs
      split at hs
      · next i len hd =>
        split at hs
        · next hl =>
          obtain ⟨pc, ls, st, h⟩ := g
          exact zsim_exec cx hd hl hs hscr (zcf_met (IH n (by omega))) (fun k na cm h1 h2 h3 h4 h5 => hled n k na cm pc ls st h g' (by omega) h1 h2 h3 h4 h5 hr' hk) hf hlo hr0 hr' hk
        · cases hs
      · cases hs
    · next r hs =>
      cases hz
      exact hfin n g (by omega) hs
    · cases hz
/-- the last step of a method that isn't led -/
theorem zs_fin {scr : Option (Nat × (Nat → Int32))} {call : zM → List zV → zH → Option zR} {deep : Bool} {g : zC} {v : Option zV} {h' : zH} (hs : zstep scr call deep mi g = some (.inr (v, h'))) (hy : mi.2.2.2.2.1 ≠ yX11_led) :
    g.2.2.2 = h' ∧ ((∃ (x : Int32) (ty : FieldType), v = some (.inl x) ∧ g.2.2.1 = [.inl x] ∧ mi.2.2.2.1 = some ty ∧ narrow ty (.int x) = .int x ∧ decode mi.1 g.1 = .ok (.ireturn, 1)) ∨ (∃ x : Int64, v = some (.inr (.inl x)) ∧ g.2.2.1 = [.inr (.inl x)] ∧ mi.2.2.2.1 = some .long ∧ decode mi.1 g.1 = .ok (.lreturn, 1)) ∨ (v = none ∧ g.2.2.1 = [] ∧ mi.2.2.2.1 = none ∧ decode mi.1 g.1 = .ok (.return_, 1))) := by
  obtain ⟨pc, ls, st, h⟩ := g
  unfold zstep at hs
  split at hs
  · next i len hd =>
    split at hs
    · next hl =>
      by_cases i1 : i = .ireturn
      · subst i1
        obtain rfl := zl_len hl rfl
        simp only [zexec] at hs
        split at hs
        · next x =>
          split at hs
          · next ty h2 =>
            split at hs
            · next hn => cases hs; exact ⟨rfl, Or.inl ⟨x, ty, rfl, rfl, h2, hn, hd⟩⟩
            · cases hs
          · cases hs
        · cases hs
      · by_cases i2 : i = .lreturn
        · subst i2
          obtain rfl := zl_len hl rfl
          simp only [zexec] at hs
          split at hs
          · next x =>
            split at hs
            · next h2 => cases hs; exact ⟨rfl, Or.inr (Or.inl ⟨x, rfl, rfl, h2, hd⟩)⟩
            · cases hs
          · cases hs
        · by_cases i3 : i = .return_
          · subst i3
            obtain rfl := zl_len hl rfl
            simp only [zexec] at hs
            split at hs
            · split at hs
              · next h2 => cases hs; exact ⟨rfl, Or.inr (Or.inr ⟨rfl, rfl, h2, hd⟩)⟩
              · cases hs
            · cases hs
          · obtain ⟨g, hg⟩ := zexec_i hy i1 i2 i3 hs
            cases hg
    · cases hs
  · cases hs
/-- every run of a method, but led, is its contract -/
theorem zmet_all (l : Launch) (B : Nat) (sp : Nat → Nat) (cA : Nat → ClassId) (D : va_G) : ∀ n, zMetAll l B sp cA D n := by
  intro n
  induction n using Nat.strongRecOn with
  | ind n IH =>
    intro d cm vs h v h' hM hw hz
    have hle := zrun_h _ _ _ _ _ _ _ hz
    unfold zMet
    refine Met.ofW (cc := cm.1) (maxL := cm.2.2.1) (ret := cm.2.2.2.1) hM.2.2.1 rfl ?_
    intro p e s m args below meth c s₁ B' hml hv
    obtain ⟨rfl, hC, hR⟩ := hv
    have hts := atoms_spec (ws := zwsM cm) B'.pre
    have hown : s.vm.findClass cm.2.2.2.2.1.cls = some m.cls := findClass_of_methodNamed B'.named
    have hnm : meth.name = cm.2.2.2.2.1.name := (name_of_methodNamed B'.named B'.method).1
    have hlocks := B'.notSynchronized
    have cx : zX p s m (vs.map (zcv B sp)).toArray meth c B sp cA D cm := ⟨B'.exec, B'.bytes, hml, by rw [hM.2.1]; exact hown, fun w hw => hts w (List.mem_cons_of_mem _ hw), fun q => by rw [hnm]; exact hM.2.2.2.2.2.1 q, hC⟩
    have hl := lv_entry (vs.map (zcv B sp)) (n := cm.2.2.1) (by
      have e : ∀ us : List zV, (lg_sl (us.map (zcv B sp))).length = zwd us := by
        intro us
        induction us with
        | nil => rfl
        | cons u us ih =>
          have e1 : lg_sl ((u :: us).map (zcv B sp)) = (if (zcv B sp u).category = 2 then [.val (zcv B sp u), .second] else [.val (zcv B sp u)]) ++ lg_sl (us.map (zcv B sp)) := by simp [lg_sl]
          have e2 : zwd (u :: us) = zcat u + zwd us := by simp [zwd]
          rw [e1, e2, List.length_append, ih, zcat_cv]
          have : zcat u = 1 ∨ zcat u = 2 := by
            match u with
            | .inl _ => exact Or.inl rfl
            | .inr (.inl _) => exact Or.inr rfl
            | .inr (.inr _) => exact Or.inl rfl
          rcases this with q | q <;> rw [q] <;> simp
      rw [e]
      exact hw)
    rw [zargs_lv] at hl
    rw [lg_entry_eq]
    generalize (lg_sl (vs.map (zcv B sp)) ++ List.replicate (cm.2.2.1 - (lg_sl (vs.map (zcv B sp))).length) Slot.unset).toArray = lA at hl ⊢
    have hS : va_S (zAr B) s.heap s.heap [] := va_S.rf
    refine zsim_run (R := (headSpec (zwsM cm) (zrm d (zc h' - zc h) (zt h' - zt h))).room) (scr := none) (d := d) (v := v) (h' := h') (c0 := zc h) (s0 := zt h) (mi := cm) cx (fun L xs q => by cases q) (Nat.le_refl (d + 4)) (Nat.le_refl (60 * (d + 4))) ⟨by show zc h' ≤ zc h + (zc h' - zc h); omega, by show zt h' ≤ zt h + (zt h' - zt h); omega⟩ n IH (fun n k na cm pc ls st h g _ _ _ q => by cases q) ?_ n (0, zargs 0 vs, [], h) (Nat.le_refl n) hz s.heap [] lA 0 0 hR hS hl (by show zc h + 0 = zc h; omega) (by show zt h + 0 = zt h; omega)
    intro k g _ hs H locs lA' cells slots hR' hS' hl' h1 h2
    obtain ⟨e0, hcase⟩ := zs_fin hs hM.2.2.2.2.2.2
    rw [e0] at hR' h1 h2
    have hcl : cells = zc h' - zc h := by omega
    have hsl : slots = zt h' - zt h := by omega
    subst hcl
    subst hsl
    rcases hcase with ⟨x, ty, rfl, e1, e2, hn, hd⟩ | ⟨x, rfl, e1, e2, hd⟩ | ⟨rfl, e1, e2, hd⟩
    · rw [e1]
      exact W.zret (v := x) (ty := ty) cx.1 cx.2.1 (by rw [B'.returns]; exact e2) hn (fun t ht hW => ⟨⟨x, (), rfl, rfl, by show zRel B sp cA D h' t.heap; rw [ht]; exact hR'⟩, hS'.F ht⟩) hS'.2.2 hd
    · rw [e1]
      exact W.lret (v := x) cx.1 cx.2.1 (by rw [B'.returns]; exact e2) (fun t ht hW => ⟨⟨x, (), rfl, rfl, by show zRel B sp cA D h' t.heap; rw [ht]; exact hR'⟩, hS'.F ht⟩) hS'.2.2 hd
    · rw [e1]
      exact W.vret cx.1 cx.2.1 (by rw [B'.returns]; exact e2) (fun t ht hW => ⟨⟨(), rfl, trivial, by show zRel B sp cA D h' t.heap; rw [ht]; exact hR'⟩, hS'.F ht⟩) hS'.2.2 hd
end ZS8
