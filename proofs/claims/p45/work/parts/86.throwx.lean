/-! 'throw new NoSuchElementException(text)' where the class's own constructor calls its super by entry 13: the printed rows know entry 7 alone, the library's law of another entry is of launches with stack traces. So: the library's chain (chainSX) and its constructor without traces (ctorMessageOffV), joined. -/
abbrev zNSE : String := "java/util/NoSuchElementException"
abbrev zNms : List String := ["java/lang/RuntimeException", "java/lang/Exception"]
def zNrx : ByteArray := ⟨#[0x2a, 0x2b, 0xb7, 0x00, 0x0d, 0xb1]⟩
theorem zNrx_0 : decode zNrx 0 = .ok (.aload_n 0, 1) := by decide +kernel
theorem zNrx_1 : decode zNrx 1 = .ok (.aload_n 1, 1) := by decide +kernel
theorem zNrx_2 : decode zNrx 2 = .ok (.invokespecial 13, 3) := by decide +kernel
theorem zNrx_5 : decode zNrx 5 = .ok (.return_, 1) := by decide +kernel
theorem zNfit : Bundle.fit zNSE = true ∧ ∀ n ∈ zNms, Bundle.fit n = true := by decide +kernel
def zNat (own : String) (ic : Nat) : List Cond := Bundle.ownAtomsX own ic zNSE 13 zNrx zNms
section ZTX
variable {p : Program} {l : Launch} {e : Env} {R : Room} {s : State} {m : MethodId} {args : Array Value} {below : List Frame} {meth : Method} {c : Code} {T : State} {cells slots : Nat}
theorem zNsel (X : Stand p l e R s m args below meth c T [] cells slots) {cX : ClassId} (hf : s.vm.findClass zNSE = some cX) {t : MethodName} {k : MethodId} (hk : s.methodNamed? t = some k) (ht : t.name ≠ "<init>") (h : (Cond.selects zNSE t t).before args s = true) (hp : ∀ {q}, s.methodFound? t.cls t.name t.desc = some q → q = k) : selectMethod e.platform s.vm cX k = .method k := by
  obtain ⟨c2, r2, m2, q1, q2, q3, q4, -⟩ := Cond.selects_spec (show (Cond.selects zNSE t t).holds args s none s [] = true from h)
  obtain rfl : c2 = cX := Option.some.inj (q1.symm.trans hf)
  obtain rfl : m2 = k := Option.some.inj (q3.symm.trans hk)
  obtain rfl : r2 = m2 := hp q2
  rw [Launch.admits_selectMethod X.admits]
  exact q4
set_option maxHeartbeats 2000000 in
theorem zNctor (X : Stand p l e R s m args below meth c T [] cells slots) (hexec : p.tables.exec = Jvm.exec) (htr : e.platform.stackTraces = false) {own : String} {ic : Nat} (hown : s.vm.findClass own = some m.cls) (h : ∀ w ∈ zNat own ic, w.before args s = true)
    {a : Addr} {cX : ClassId} {kX : Class} (hfX : s.vm.findClass zNSE = some cX) (hkX : s.vm.classes[cX]? = some kX) (hcell : T.heap[a]? = some (freshCell cX kX)) (hnew : s.heap.size ≤ a) {sa : Addr}
    {pc : Nat} {ls : Array Slot} {rest : List Value} (hsize : ls.size = c.maxLocals) (hd : decode c.code pc = .ok (.invokespecial ic, 3)) (hd3 : decode c.code (pc + 3) = .ok (.athrow, 1)) (hout : ∀ x ∈ c.exceptionTable.toList, covers x (pc + 3) = false)
    (hRf : 5 < R.frames) (hRl : (rest.map fun v => v.category).sum + 82 ≤ R.locals) (hlocks : meth.locks = false) :
    ∃ U : State, Steps p.tables e below (T.setTop (F0 m pc ls (.ref sa :: .ref a :: .ref a :: rest))) U ∧ U.status = .running ∧ Ended U below (.threw a) ∧ s.WarmedH U.vm ∧ s.sameButNew ({ U with vm := s.vm } : State) [] cells slots ∧ ∃ ce, U.heap[a]? = some ce ∧ ce.vm = .none ∧ s.vm.findClass zNSE = some ce.cls := by
  have hpl : e.platform.magicAccessors = ({} : Platform).magicAccessors := by rw [X.admits.platform]
  have w : ∀ x, x ∈ zNat own ic → x.holds args s none s [] = true := fun x hx => h x hx
  obtain ⟨Tc, Z0, L, -, Y⟩ := ThrowableC.of_atoms (args := args) (by rw [X.admits.platform]) (by rw [X.admits.platform]) hpl (fun x hx => h x (by simp [zNat, Bundle.ownAtomsX, hx]))
  obtain ⟨Z, M, LZ, LM, hnZ⟩ := Init0T.ofS_atoms (args := args) hpl L Y (fun x hx => h x (by simp [zNat, Bundle.ownAtomsX, hx]))
  obtain ⟨P1, Ps, hlen, L1, hL, hP1m, hlink1, hlink⟩ := Bundle.chainSX (args := args) hpl hnZ zNrx_0 zNrx_1 zNrx_2 zNrx_5 zNms zNSE zNfit.1 zNfit.2 (fun x hx => h x (by simp [zNat, Bundle.ownAtomsX, hx]))
  obtain rfl : cX = P1.m.cls := Option.some.inj (hfX.symm.trans (findClass_of_methodNamed hP1m))
  obtain ⟨c1, k1, e1, e2, hord, -, -, -⟩ := Cond.instantiable_spec (w (.instantiable zNSE 6) (by simp [zNat, Bundle.ownAtomsX]))
  obtain rfl : c1 = P1.m.cls := Option.some.inj (e1.symm.trans hfX)
  obtain rfl : kX = k1 := Option.some.inj (hkX.symm.trans e2)
  have hs0 := zNsel X hfX Y.fill0 (by decide) (h (.selects zNSE Bundle.tFill0 Bundle.tFill0) (by simp [zNat, Bundle.ownAtomsX])) (fun {q} hq => Option.some.inj (hq.symm.trans (State.methodFound?_of_named Y.fill0 (by decide))))
  have hsF := zNsel X hfX Y.fill (by decide) (h (.selects zNSE Bundle.tFill Bundle.tFill) (by simp [zNat, Bundle.ownAtomsX])) (fun {q} hq => Option.some.inj (hq.symm.trans (State.methodFound?_of_named Y.fill (by decide))))
  obtain ⟨cS0, hcS0, hiss⟩ := Y.statics
  obtain ⟨u0, hu0⟩ := Cond.staticRefV Y.unassigned L.unassignedStatic L.statics hcS0 hiss (w (.isRef (.static Bundle.tN "UNASSIGNED_STACK" Bundle.steD)) (by simp [zNat, Bundle.ownAtomsX]))
  obtain ⟨sen, hsen⟩ := Cond.staticRefV Y.sentinel L.sentinelStatic L.statics hcS0 hiss (w (.isRef (.static Bundle.tN "SUPPRESSED_SENTINEL" Bundle.listD)) (by simp [zNat, Bundle.ownAtomsX]))
  obtain ⟨ciB, iB, fB, b1, b2, b3, b4, -, hnB, htB, hfB⟩ := Cond.ownField (t := .object "java/lang/Object") Y.found L.cls (by decide +kernel) (w (.fieldLink Bundle.tN 198 Bundle.tN "backtrace" "Ljava/lang/Object;") (by simp [zNat, Bundle.ownAtomsX])) (w (.lays Bundle.tN Bundle.tN "backtrace" "Ljava/lang/Object;") (by simp [zNat, Bundle.ownAtomsX])) e.platform hpl
  obtain ⟨iM, hfM⟩ := Y.msg
  obtain ⟨tC, dC, gC, nC⟩ := Cond.laysAt hfX hkX Y.cause (w (.lays zNSE Bundle.tN "cause" "Ljava/lang/Throwable;") (by simp [zNat, Bundle.ownAtomsX]))
  obtain ⟨tS, dS, gS, nS⟩ := Cond.laysAt hfX hkX Y.stack (w (.lays zNSE Bundle.tN "stackTrace" Bundle.steD) (by simp [zNat, Bundle.ownAtomsX]))
  obtain ⟨tP, dP, gP, nP⟩ := Cond.laysAt hfX hkX Y.supp (w (.lays zNSE Bundle.tN "suppressedExceptions" Bundle.listD) (by simp [zNat, Bundle.ownAtomsX]))
  obtain ⟨tM, -⟩ := Cond.laysAt hfX hkX hfM (w (.lays zNSE Bundle.tN "detailMessage" "Ljava/lang/String;") (by simp [zNat, Bundle.ownAtomsX]))
  obtain ⟨tB, dB, gB, nB⟩ := Cond.laysAt hfX hkX hfB (w (.lays zNSE Bundle.tN "backtrace" "Ljava/lang/Object;") (by simp [zNat, Bundle.ownAtomsX]))
  have aC : fB.slot ≠ Tc.fCause.slot := Cond.laysApart gB gC nB nC (by rw [hnB, Y.causeName]; decide)
  have aS : fB.slot ≠ Tc.fStack.slot := Cond.laysApart gB gS nB nS (by rw [hnB, Y.stackName]; decide)
  have aP : fB.slot ≠ Tc.fSupp.slot := Cond.laysApart gB gP nB nP (by rw [hnB, Y.suppName]; decide)
  have hback : (freshCell P1.m.cls kX).slots[fB.slot]? = some (defaultValue (.object "java/lang/Object")) := by
    rw [← htB]
    exact fresh_default tB
  have hskip : SkipFacts Tc e.platform s (fun u => u) u0 ((preparedCellV Tc.toThrowableT (freshCell P1.m.cls kX) a u0 sen).withEntry T.cur) := by
    refine ⟨{ ci198 := ciB, i198 := iB, fBack := fB }, ⟨b1, b2, b3, b4⟩, ?_, fun _ _ => rfl⟩
    simpa [preparedCellV, Cell.setSlot, Cell.withEntry, Array.getElem?_setIfInBounds, aC, aS, aP, aC.symm, aS.symm, aP.symm, defaultValue] using hback
  obtain ⟨cS, hcS, heS, -, hkeep⟩ := X.same.2.2.2.2.2 Tc.aS cS0 hcS0
  have hkn : cS.vm ≠ .unknown := by
    rw [heS]
    intro hu
    rw [show cS0.vm = .unknown from hu] at hiss
    cases hiss
  have hne : Tc.aS ≠ a := fun q => Nat.not_lt.mpr hnew (q ▸ (Array.getElem?_eq_some_iff.mp hcS0).1)
  obtain ⟨tm, -, -, -, vm1, i1, -, -, -, -, -, -, -, hW1, st1⟩ := Steps.initColdS (tb := p.tables) (e := e) (below := below) (s := s) (U := T) X.here hexec X.warmed hpl hown (t := Bundle.initS zNSE) rfl rfl (Bundle.fit_spec zNfit.1).2
    (w (.methodLink own ic (Bundle.initS zNSE)) (by simp [zNat, Bundle.ownAtomsX])) (h (.instanceMethod (Bundle.initS zNSE)) (by simp [zNat, Bundle.ownAtomsX, Bundle.chainSAtomsX, Bundle.passSAtoms])) (bytes := zNrx) (maxL := 2) (h (.code (Bundle.initS zNSE) zNrx 2 none) (by simp [zNat, Bundle.ownAtomsX, Bundle.chainSAtomsX, Bundle.passSAtoms]))
    (f := F0 m pc ls (.ref sa :: .ref a :: .ref a :: rest)) rfl (a := a) (msg := .ref sa) (rest := .ref a :: rest) rfl hd
  obtain rfl : tm = P1.m := Option.some.inj (i1.symm.trans hP1m)
  have X1 := X.noted hW1
  obtain ⟨vm2, X2, st2⟩ := X1.ctorMessageOffV hexec (g := F0 m pc ls (.ref a :: rest)) rfl hsize Tc L Z LZ M LM (P1 :: Ps)
    (fun P hP => by rcases List.mem_cons.mp hP with rfl | hP; exact L1; exact hL P hP) ⟨hlink1, hlink⟩ (u0 := u0) (sen := sen) (self := a) (msg := .ref sa) rfl (cell := freshCell P1.m.cls kX) (cellS := cS)
    hcell (fun _ => by simp) (by simp) rfl rfl hs0 hsF hcS hne hkn (by rw [hkeep _ (fun q => nomatch q)]; exact hu0) (by rw [hkeep _ (fun q => nomatch q)]; exact hsen)
    (Takes.of_laid hkX hord tC (by rw [Y.causeType]; rfl)) (Takes.of_laid hkX hord tS (by rw [Y.stackType]; exact fits_refV_array _ u0)) (Takes.of_laid hkX hord tP (by rw [Y.suppType]; exact fits_refV_object _ sen))
    (Takes.of_laid hkX hord tM (by rw [Y.msgType]; exact fits_refV_object _ ⟨.ref sa, rfl⟩)) Y.objLocals hskip htr [] hd
    (by simp only [List.length_cons, hlen]; show 2 + 1 + 2 < R.frames; omega) (by
      simp only [List.length_cons, hlen]
      show 2 * 0 + (1 + (rest.map fun v => v.category).sum) + (13 * (2 + 1) + 42) ≤ R.locals
      omega)
  obtain ⟨hwalk, hrun, hended, hWU, hsame⟩ := X2.athrowLeaves hexec (g := F0 m (pc + 3) ls (.ref a :: rest)) rfl rfl rfl hout (a := a) (rest := rest) rfl hd3 hlocks
  have hlt : a < ((T.setVm vm1).setVm vm2).heap.size := (Array.getElem?_eq_some_iff.mp hcell).1
  refine ⟨_, st1 _ (fun acts => by rw [doInvoke_state]; exact st2 _ hwalk), hrun, hended, hWU, hsame.weaken (fun y hy hl => ?_) (Nat.le_refl _) (Nat.le_refl _), _, heapAt_setCell_self (s := (T.setVm vm1).setVm vm2) (plainBareV Tc.toThrowableT (freshCell P1.m.cls kX) a u0 sen (.ref sa)) hlt, rfl, hfX⟩
  have hb : y.base = a := by
    simp only [List.nil_append, List.mem_cons, List.not_mem_nil, or_false] at hy
    rcases hy with rfl | rfl | rfl | rfl | rfl <;> rfl
  rw [hb] at hl
  exact absurd hl (Nat.not_lt.mpr hnew)
end ZTX
