/-! the context at the law's entry, out of the tables' words -/
section Z29
variable {s : State} {args : Array Value}
theorem zst_cl (hts : ∀ w ∈ zws, w.before args s = true) : ∃ D : va_G, ∀ (c : Nat) (q : vw_C), vwCl[c]? = some q → u_Kn s q.1 q.2.1 q.2.2 (D.1 c) (D.2 c) := by
  have h : ∀ c : Nat, ∃ (cC : ClassId) (iS : Nat → Nat), ∀ q : vw_C, vwCl[c]? = some q → u_Kn s q.1 q.2.1 q.2.2 cC iS := by
    intro c
    by_cases hc : c < 13
    · obtain ⟨cC, iS, hk⟩ := u_known hts (zcl_ws hc) (hts _ (zins_get hc).1)
      refine ⟨cC, iS, fun q hq => ?_⟩
      rw [zcl_cl hc] at hq
      cases hq
      exact hk
    · refine ⟨0, fun _ => 0, fun q hq => ?_⟩
      rw [List.getElem?_eq_none (show vwCl.length ≤ c from Nat.not_lt.mp hc)] at hq
      cases hq
  exact ⟨(fun c => Classical.choose (h c), fun c => Classical.choose (Classical.choose_spec (h c))), fun c q hq => Classical.choose_spec (Classical.choose_spec (h c)) q hq⟩
theorem zst_prim {t : FieldType} (h : (Cond.arrayClass t).before args s = true) : ∃ c : ClassId, ArrOfT s c t ∧ s.vm.findClass ("[" ++ t.toString) = some c := by
  obtain ⟨c, k, comp, h1, h2, h3⟩ := Cond.arrayClass_spec h
  exact ⟨c, fun N z => ⟨fun k h => (by cases h), k, h2, comp, h3⟩, h1⟩
theorem zst_obj {C : String} (h : va_AO C s) : ∃ c : ClassId, ArrOfT s c (.object C) ∧ va_RA s c (.object C) := by
  obtain ⟨comp, c, k, h1, h2, h3, h4, h5⟩ := Cond.arrayOver_spec h
  exact ⟨c, fun N z => ⟨fun k h => (by cases h), k, h3, comp, h4⟩, k, comp, h3, h4, h1, h5⟩
theorem zst_arr (hts : ∀ w ∈ zws, w.before args s = true) (hao : ∀ k, 16 ≤ k → k ≤ 20 → va_AO (zRn (zrc k)) s) : ∃ cA : Nat → ClassId, ∀ (k : Nat) (q : ClassId × FieldType), (ztys cA)[k]? = some q → ArrOfT s q.1 q.2 ∧ va_RA s q.1 q.2 := by
  obtain ⟨c13, a13, b13⟩ := zst_prim (hts _ zarrK.1)
  obtain ⟨c14, a14, b14⟩ := zst_prim (hts _ zarrK.2.1)
  obtain ⟨c15, a15, b15⟩ := zst_prim (hts _ zarrK.2.2)
  obtain ⟨c16, q16⟩ := zst_obj (hao 16 (by decide) (by decide))
  obtain ⟨c17, q17⟩ := zst_obj (hao 17 (by decide) (by decide))
  obtain ⟨c18, q18⟩ := zst_obj (hao 18 (by decide) (by decide))
  obtain ⟨c19, q19⟩ := zst_obj (hao 19 (by decide) (by decide))
  obtain ⟨c20, q20⟩ := zst_obj (hao 20 (by decide) (by decide))
  refine ⟨fun k => if k = 13 then c13 else if k = 14 then c14 else if k = 15 then c15 else if k = 16 then c16 else if k = 17 then c17 else if k = 18 then c18 else if k = 19 then c19 else c20, fun k q hq => ?_⟩
  match k, hq with
  | 0, hq => have e : (c13, FieldType.byte) = q := Option.some.inj hq; subst e; exact ⟨a13, b13⟩
  | 1, hq => have e : (c14, FieldType.int) = q := Option.some.inj hq; subst e; exact ⟨a14, b14⟩
  | 2, hq => have e : (c15, FieldType.long) = q := Option.some.inj hq; subst e; exact ⟨a15, b15⟩
  | 3, hq => have e : (c16, FieldType.object RX0) = q := Option.some.inj hq; subst e; exact q16
  | 4, hq => have e : (c17, FieldType.object RX2) = q := Option.some.inj hq; subst e; exact q17
  | 5, hq => have e : (c18, FieldType.object RX8) = q := Option.some.inj hq; subst e; exact q18
  | 6, hq => have e : (c19, FieldType.object RX9) = q := Option.some.inj hq; subst e; exact q19
  | 7, hq => have e : (c20, FieldType.object RX10) = q := Option.some.inj hq; subst e; exact q20
  | n + 8, hq => exact absurd hq (by simp [ztys])
set_option maxRecDepth 20000 in
theorem zsrK : zsr.all (fun q => decide (zpc q.2.2.2.2 = some (Cond.stringRef (zRn q.1) q.2.1 q.2.2.1)) && decide (q.1 < 13) && decide (zsr.find? (fun r => r.2.2.2.1 == q.2.2.2.1) = some q) && decide (q.2.2.2.1 ≠ 1000000)) = true := by decide +kernel
theorem zst_str (hts0 : ∀ w ∈ lw_tbl, w.before args s = true) (hown : ∀ o, o < 13 → ∃ cur, s.vm.findClass (zRn o) = some cur) (b : Nat) : ∃ sp : Nat → Nat, sp 1000000 = b ∧ ∀ q ∈ zsr, vk_R (zRn q.1) q.2.1 q.2.2.1 (sp q.2.2.2.1) s := by
  have h : ∀ q : Nat × Nat × String × Nat × Nat, ∃ a : Nat, q ∈ zsr → vk_R (zRn q.1) q.2.1 q.2.2.1 a s := by
    intro q
    by_cases hq : q ∈ zsr
    · have hc := List.all_eq_true.mp zsrK q hq
      simp only [Bool.and_eq_true, decide_eq_true_eq] at hc
      obtain ⟨cur, hcur⟩ := hown q.1 hc.1.1.2
      have hw := hts0 _ (zpc_in hc.1.1.1)
      obtain ⟨k, cf, i, a, -, -, -, -, -, h6⟩ := Cond.stringRef_spec hcur hw
      exact ⟨a, fun _ => vk_R.of hw h6⟩
    · exact ⟨0, fun q => absurd q hq⟩
  refine ⟨fun r => if r = 1000000 then b else (match zsr.find? (fun q => q.2.2.2.1 == r) with
    | some q => Classical.choose (h q)
    | none => 0), if_pos rfl, fun q hq => ?_⟩
  have hc := List.all_eq_true.mp zsrK q hq
  simp only [Bool.and_eq_true, decide_eq_true_eq] at hc
  dsimp only
  rw [if_neg hc.2, hc.1.2]
  exact Classical.choose_spec (h q) hq
set_option maxRecDepth 20000 in
theorem znmK : znm.all (fun q => decide (zpc q.2.2.2.2 = some (Cond.methodLinkNest (zRn q.1) q.2.1 q.2.2.1.2.2.2.2.1 q.2.2.2.1))) = true := by decide +kernel
theorem zst_nm (hts0 : ∀ w ∈ lw_tbl, w.before args s = true) : ∀ q ∈ znm, va_Nw (.methodLinkNest (zRn q.1) q.2.1 q.2.2.1.2.2.2.2.1 q.2.2.2.1) s := by
  intro q hq
  have hc := List.all_eq_true.mp znmK q hq
  simp only [decide_eq_true_eq] at hc
  exact va_Nw.of rfl (hts0 _ (zpc_in hc))
theorem zst_ao (hts0 : ∀ w ∈ lw_tbl, w.before args s = true) : ∀ k, 16 ≤ k → k ≤ 20 → va_AO (zRn (zrc k)) s := by
  intro k h1 h2
  have h : k = 16 ∨ k = 17 ∨ k = 18 ∨ k = 19 ∨ k = 20 := by omega
  rcases h with rfl | rfl | rfl | rfl | rfl
  · exact va_AO.of (hts0 (.arrayOver (.object (zRn (zrc 16)))) (by decide +kernel))
  · exact va_AO.of (hts0 (.arrayOver (.object (zRn (zrc 17)))) (by decide +kernel))
  · exact va_AO.of (hts0 (.arrayOver (.object (zRn (zrc 18)))) (by decide +kernel))
  · exact va_AO.of (hts0 (.arrayOver (.object (zRn (zrc 19)))) (by decide +kernel))
  · exact va_AO.of (hts0 (.arrayOver (.object (zRn (zrc 20)))) (by decide +kernel))
/-- the context at the law's entry -/
theorem zst_cx (hts0 : ∀ w ∈ lw_tbl, w.before args s = true) (b : Nat) : ∃ (sp : Nat → Nat) (cA : Nat → ClassId) (D : va_G), sp 1000000 = b ∧ zCx s.heap.size sp cA D s := by
  have hts : ∀ w ∈ zws, w.before args s = true := fun w hw => hts0 w (List.mem_filter.mp hw).1
  obtain ⟨D, hD⟩ := zst_cl hts
  obtain ⟨cA, hA⟩ := zst_arr hts (zst_ao hts0)
  obtain ⟨sp, h1, h2⟩ := zst_str hts0 (fun o ho => ⟨_, (hD o _ (zcl_cl ho)).2.1⟩) b
  exact ⟨sp, cA, D, h1, ⟨hD, hA⟩, zst_nm hts0, h2, zst_ao hts0, Nat.le_refl _⟩
/-- the empty heap stands for whatever the law found -/
theorem zst_rel {sp : Nat → Nat} {cA : Nat → ClassId} {D : va_G} : zRel s.heap.size sp cA D hh_0 s.heap := by
  refine ⟨fun k q hq => ?_, ⟨by decide, fun a q hq => ?_⟩, fun _ => rfl⟩
  · cases hq
  · cases hq
end Z29
