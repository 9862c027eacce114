theorem zled_met (l : Launch) (hlt : l.stackTraces = false) (B : Nat) (sp : Nat → Nat) (cA : Nat → ClassId) (D : va_G) (n d : Nat) (vs : List zV) (h : zH) (v : Option zV) (h' : zH) (hd20 : 20 ≤ d) (hw : zwd vs ≤ 4) (hz : zrun n none d mX11_led (0, zargs 0 vs, [], h) = some (v, h')) :
    vx_Met l yX11_led (zwsM mX11_led) (zrm d (zc h' - zc h) (zt h' - zt h)) (zPcL B sp cA D vs h) (zQcL B sp cA D v h') (zXCL B sp cA D v h') (zc h' - zc h) (zt h' - zt h) (zAr B) := by
  have hle := zrun_h _ _ _ _ _ _ _ hz
  refine vx_ofW (cc := mX11_led.1) (maxL := 4) (ret := some .int) (by decide +kernel) rfl ?_
  intro p e s m args below meth c s₁ B' hml htab hv
  obtain ⟨rfl, ⟨hC, hat, hU, hN⟩, hR⟩ := hv
  have hts := atoms_spec (ws := zwsM mX11_led) B'.pre
  have hown : s.vm.findClass yX11_led.cls = some m.cls := findClass_of_methodNamed B'.named
  have hlocks := B'.notSynchronized
  have htz : ∀ w ∈ zws, w.before (vs.map (zcv B sp)).toArray s = true := fun w hw => hts w (List.mem_cons_of_mem _ hw)
  have cx : zX p s m (vs.map (zcv B sp)).toArray meth c B sp cA D mX11_led := ⟨B'.exec, B'.bytes, hml, hown, htz, fun q => (by cases q), hC⟩
  have hl := lv_entry (vs.map (zcv B sp)) (n := 4) (by rw [zled_ent]; exact hw)
  rw [zargs_lv] at hl
  rw [lg_entry_eq]
  generalize (lg_sl (vs.map (zcv B sp)) ++ List.replicate (4 - (lg_sl (vs.map (zcv B sp))).length) Slot.unset).toArray = lA at hl ⊢
  have hS : va_S (zAr B) s.heap s.heap [] := va_S.rf
  refine zsim_run (R := (headSpec (zwsM mX11_led) (zrm d (zc h' - zc h) (zt h' - zt h))).room) (scr := none) (d := d) (v := v) (h' := h') (c0 := zc h) (s0 := zt h) (mi := mX11_led) cx (fun L xs q => by cases q) (Nat.le_refl (d + 4)) (Nat.le_refl (60 * (d + 4))) ⟨by show zc h' ≤ zc h + (zc h' - zc h); omega, by show zt h' ≤ zt h + (zt h' - zt h); omega⟩ n (fun k _ => zmet_all l B sp cA D k) (fun n k na cm pc ls st h g _ _ _ q => by cases q) ?_ n (0, zargs 0 vs, [], h) (Nat.le_refl n) hz s.heap [] lA 0 0 hR hS hl (by show zc h + 0 = zc h; omega) (by show zt h + 0 = zt h; omega)
  intro k g _ hs H locs lA' cells slots hR' hS' hl' h1 h2
  rcases zs_finL hs with ⟨e0, x, rfl, e1, hd⟩ | ⟨rfl, e1, e2, e3⟩
  · rw [e0] at hR' h1 h2
    have hcl : cells = zc h' - zc h := by omega
    have hsl : slots = zt h' - zt h := by omega
    subst hcl
    subst hsl
    rw [e1]
    exact vx_ret (W.zret (v := x) (ty := .int) cx.1 cx.2.1 (by rw [B'.returns]) rfl (fun t ht hW => ⟨⟨x, (), rfl, rfl, by show zRel B sp cA D h' t.heap; rw [ht]; exact hR'⟩, hS'.F ht⟩) hS'.2.2 hd)
  · subst e1
    have z1 : zc (zthr g.2.2.2) = zc g.2.2.2 + 1 := rfl
    have z2 : zt (zthr g.2.2.2) = zt g.2.2.2 + 6 := by
      show g.2.2.2.1.2.2 + 6 * (g.2.2.2.2.2.2.2 + 1) = g.2.2.2.1.2.2 + 6 * g.2.2.2.2.2.2.2 + 6
      omega
    rw [e2, e3]
    refine zNthrow (text := "no such box is left") (sa := sp 1000033) cx.1 cx.2.1 hlt hown (htz _ zThK.1) (htz _ zThK.2) (hC.2.2.1 (11, 365, "no such box is left", 1000033, 6024) (by decide +kernel)) (zAtS_at htz hat) ?_ hU hN hS' ?_ dX11_led_45 dX11_led_48 dX11_led_49 dX11_led_52 dX11_led_55 (fun x hx => (htab x hx).elim) ?_ ?_ ?_ ?_ hlocks ?_ hS'.2.2 ?_ ?_
    · intro w hw
      rcases List.mem_cons.mp hw with rfl | hw
      · decide +kernel
      · rcases List.mem_cons.mp hw with rfl | hw
        · decide +kernel
        · have hc := List.all_eq_true.mp zAtSK w hw
          simp only [Bool.and_eq_true] at hc
          exact hc.2
    · exact hl'.1.trans hml.symm
    · show 5 < d + 4
      omega
    · show 0 + 82 ≤ 60 * (d + 4)
      omega
    · show cells + 1 ≤ zc (zthr g.2.2.2) - zc h
      omega
    · show slots + 6 ≤ zt (zthr g.2.2.2) - zt h
      omega
    · intro t hA hsz hk
      refine ⟨(), rfl, ⟨rfl, hR'.1.kept (fun k q hq => hk q.1 ((hR'.1 k q hq).lt)), ⟨hR'.2.1.1, fun a q hq => hR'.2.1.2 a q hq⟩, fun q => absurd q (Nat.succ_ne_zero _)⟩, Nat.le_trans hS'.1 hsz, fun q hq hn => ?_⟩
      rw [hk q (Nat.lt_of_lt_of_le hq hS'.1)]
      exact hS'.2.1 q hq hn
    · omega
    · omega
