/-! steps that read the heap, and single writes -/
section A9
variable {σ : Nat → Int} {w : aWd} {md rm : aMd} {h0 h : zH} {f : aLf} {r : List Int} {ls : aL} {ρ : List aI} {tr tr' : aT} {rr : aU} {lc : zL}
variable {scr : Option (Nat × (Nat → Int32))} {d : Nat} {m : zM} {Q : Option zV → zH → Prop} {pc len : Nat} {st : List aV} {i : Instr}
theorem aC.trk {a k : Nat} {e : aE} (hc : aC w md rm h0 f r σ ls ρ tr rr lc h) (he : aEq ρ.length σ (h.2.1 a k).toInt e) : aC w md rm h0 f r σ ls ρ (((a, k), e) :: tr) rr lc h := by
  obtain ⟨c1, c2, c3, c4⟩ := hc
  refine ⟨c1, c2, fun q hq => ?_, c4⟩
  rcases List.mem_cons.mp hq with rfl | hq
  · exact he
  · exact c3 q hq
def aRdE (w : aWd) (ρ : List aI) (tr : aT) (a k : Nat) : aE × List aI × aT := match aTrk tr a k with
  | some e => (e, ρ, tr)
  | none => ((aNew ρ (aRd w ρ tr a k)).1, (aNew ρ (aRd w ρ tr a k)).2, ((a, k), (aNew ρ (aRd w ρ tr a k)).1) :: tr)
theorem aRdE_in (hc : aC w md rm h0 f r σ ls ρ tr rr lc h) (a k : Nat) : ∃ σ', aX ρ.length (aRdE w ρ tr a k).2.1.length σ σ' ∧ aC w md rm h0 f r σ' ls (aRdE w ρ tr a k).2.1 (aRdE w ρ tr a k).2.2 rr lc h ∧ aEq (aRdE w ρ tr a k).2.1.length σ' (h.2.1 a k).toInt (aRdE w ρ tr a k).1 := by
  unfold aRdE
  split
  · next e q => exact ⟨σ, aX.rf, hc, hc.2.2.1 _ (aTrk_mem q)⟩
  · obtain ⟨σ', s1, s2, s3⟩ := aNew_in rfl hc.1 (aRd_in hc a k)
    exact ⟨σ', s1, (hc.x s1 s2).trk s3, s3⟩
def aGetI (w : aWd) (ρ : List aI) (tr : aT) (as : List Nat) (k : Nat) : aE × List aI × aT := match as with
  | [a] => aRdE w ρ tr a k
  | _ => ((aNew ρ (aUni (as.map (fun a => aRd w ρ tr a k)))).1, (aNew ρ (aUni (as.map (fun a => aRd w ρ tr a k)))).2, tr)
theorem aGetI_in {as : List Nat} {a k : Nat} (hc : aC w md rm h0 f r σ ls ρ tr rr lc h) (ha : a ∈ as) : ∃ σ', aX ρ.length (aGetI w ρ tr as k).2.1.length σ σ' ∧ aC w md rm h0 f r σ' ls (aGetI w ρ tr as k).2.1 (aGetI w ρ tr as k).2.2 rr lc h ∧ aEq (aGetI w ρ tr as k).2.1.length σ' (h.2.1 a k).toInt (aGetI w ρ tr as k).1 := by
  unfold aGetI
  split
  · next b =>
    have : a = b := by simpa using ha
    subst this
    exact aRdE_in hc a k
  · obtain ⟨σ', s1, s2, s3⟩ := aNew_in rfl hc.1 (aUni_in (aRd_in hc a k) (List.mem_map.mpr ⟨a, ha, rfl⟩ : aRd w ρ tr a k ∈ as.map (fun a => aRd w ρ tr a k)))
    exact ⟨σ', s1, hc.x s1 s2, s3⟩
/-- all of one kind -/
def aKd (w : aWd) (as : List Nat) (kd : Nat) : Bool := as.all (fun a => match w.1 a with
  | some q => Nat.beq q.1 kd
  | none => false)
theorem aKd_in {as : List Nat} {kd a : Nat} (h : aKd w as kd = true) (ha : a ∈ as) : ∃ n, w.1 a = some (kd, n) := by
  have := List.all_eq_true.mp h a ha
  split at this
  · next q e =>
    have : q.1 = kd := by simpa using this
    exact ⟨q.2, by rw [e, ← this]⟩
  · cases this
theorem ok_getI {k ci fl : Nat} {as : List Nat} (hd : decode m.1 pc = .ok (.getfield k, len)) (hl : zilen (.getfield k) = 0 ∨ len = zilen (.getfield k)) (hz : zfld m.2.1 k = some (ci, fl)) (hk : aKd w as ci = true) (hty : Nat.beq ((zft ci).getD fl 0) 3 = false)
    (kk : aOK w md rm h0 f r scr d m Q (pc + len, ls, .inl (aGetI w ρ tr as fl).1 :: st, (aGetI w ρ tr as fl).2.1, (aGetI w ρ tr as fl).2.2, rr)) : aOK w md rm h0 f r scr d m Q (pc, ls, .inr (.inl as) :: st, ρ, tr, rr) := by
  intro σ g hg
  obtain ⟨pc', lc, sc, h⟩ := g
  obtain ⟨rfl, hc, hst⟩ := hg
  obtain ⟨a, vs, e1, ha, hs1⟩ := aSt_r hst
  dsimp only at e1
  subst e1
  obtain ⟨n, hn⟩ := aKd_in hk ha
  have hsh := hc.2.2.2.2.1.1 a _ hn
  obtain ⟨σ', s1, s2, s3⟩ := aGetI_in (k := fl) hc ha
  refine ex_go hd hl (fun call => ?_) (kk σ' (pc + len, lc, .inl (h.2.1 a fl) :: vs, h) ⟨rfl, s2, ⟨_, rfl, s3⟩, hs1.x s1⟩)
  simp only [zexec, hz, hsh]
  rw [if_pos trivial]
  unfold zfv
  rw [if_neg (nbeq_f hty)]
/-- references -/
def aAll (l : List (Option Nat)) : Option (List Nat) := if l.all (fun q => q.isSome) then some (l.filterMap id).eraseDups else none
theorem aAll_in {l : List (Option Nat)} {bs : List Nat} {o : Option Nat} (h : aAll l = some bs) (ho : o ∈ l) : ∃ b ∈ bs, o = some b := by
  unfold aAll at h
  split at h
  · next q =>
    cases h
    have := List.all_eq_true.mp q o ho
    obtain ⟨b, rfl⟩ := Option.isSome_iff_exists.mp this
    exact ⟨b, List.mem_eraseDups.mpr (List.mem_filterMap.mpr ⟨some b, ho, rfl⟩), rfl⟩
  · cases h
theorem ok_getR {k ci fl : Nat} {as bs : List Nat} (hd : decode m.1 pc = .ok (.getfield k, len)) (hl : zilen (.getfield k) = 0 ∨ len = zilen (.getfield k)) (hz : zfld m.2.1 k = some (ci, fl)) (hk : aKd w as ci = true) (hty : Nat.beq ((zft ci).getD fl 0) 3 = true) (hb : aAll (as.map (fun a => aRf w rr a fl)) = some bs)
    (kk : aOK w md rm h0 f r scr d m Q (pc + len, ls, .inr (.inl bs) :: st, ρ, tr, rr)) : aOK w md rm h0 f r scr d m Q (pc, ls, .inr (.inl as) :: st, ρ, tr, rr) := by
  intro σ g hg
  obtain ⟨pc', lc, sc, h⟩ := g
  obtain ⟨rfl, hc, hst⟩ := hg
  obtain ⟨a, vs, e1, ha, hs1⟩ := aSt_r hst
  dsimp only at e1
  subst e1
  obtain ⟨n, hn⟩ := aKd_in hk ha
  have hsh := hc.2.2.2.2.1.1 a _ hn
  obtain ⟨b, hbm, hbe⟩ := aAll_in hb (List.mem_map.mpr ⟨a, ha, rfl⟩)
  have hr := aRf_in hc hbe
  refine ex_go hd hl (fun call => ?_) (kk σ (pc + len, lc, .inr (.inr (some b)) :: vs, h) ⟨rfl, hc, ⟨b, hbm, rfl⟩, hs1⟩)
  simp only [zexec, hz, hsh]
  rw [if_pos trivial]
  unfold zfv
  rw [if_pos (by simpa using hty), hr]
/-- places in arrays -/
def aBnd (w : aWd) (as : List Nat) (kd : Nat → Bool) (I : aI) : Bool := as.all (fun a => match w.1 a with
  | some q => kd q.1 && (ile 0 (aHull I).1 && ile ((aHull I).2 + 1) q.2)
  | none => false)
theorem aBnd_in {as : List Nat} {kd : Nat → Bool} {I : aI} {a : Nat} {x : Int32} (hc : aC w md rm h0 f r σ ls ρ tr rr lc h) (hb : aBnd w as kd I = true) (ha : a ∈ as) (hx : aIn x.toInt I) : ∃ k n, zsh h a = some (k, n) ∧ kd k = true ∧ zin x n = true ∧ aIn (x.toNatClampNeg : Int) I := by
  have hb := List.all_eq_true.mp hb a ha
  split at hb
  · next q e =>
    simp only [Bool.and_eq_true, ile_iff] at hb
    have hh := aHull_in hx
    have e2 : (x.toNatClampNeg : Int) = x.toInt := by
      show ((x.toInt.toNat : Nat) : Int) = x.toInt
      omega
    refine ⟨q.1, q.2, hc.2.2.2.2.1.1 a q e, hb.1, ?_, by rw [e2]; exact hx⟩
    unfold zin
    exact decide_eq_true (vp_in_iff.mpr ⟨by omega, by omega⟩)
  · cases hb
def aLdI (w : aWd) (ρ : List aI) (tr : aT) (as : List Nat) (I : aI) : aE × List aI × aT := match as with
  | [a] => if ieq (aHull I).1 (aHull I).2 then aRdE w ρ tr a (aHull I).1.toNat else ((aNew ρ (aSegs 0 (w.2.1 a) I)).1, (aNew ρ (aSegs 0 (w.2.1 a) I)).2, tr)
  | _ => ((aNew ρ (aUni (as.map (fun a => aSegs 0 (w.2.1 a) I)))).1, (aNew ρ (aUni (as.map (fun a => aSegs 0 (w.2.1 a) I)))).2, tr)
theorem aLdI_in {as : List Nat} {I : aI} {a k : Nat} (hc : aC w md rm h0 f r σ ls ρ tr rr lc h) (ha : a ∈ as) (hk : aIn k I) : ∃ σ', aX ρ.length (aLdI w ρ tr as I).2.1.length σ σ' ∧ aC w md rm h0 f r σ' ls (aLdI w ρ tr as I).2.1 (aLdI w ρ tr as I).2.2 rr lc h ∧ aEq (aLdI w ρ tr as I).2.1.length σ' (h.2.1 a k).toInt (aLdI w ρ tr as I).1 := by
  have hg := hc.2.2.2.2.1.2.1 a k
  unfold aLdI
  split
  · next b =>
    have : a = b := by simpa using ha
    subst this
    split
    · next q =>
      have q := ieq_iff.mp q
      have hh := aHull_in hk
      have : (aHull I).1.toNat = k := by omega
      rw [this]
      exact aRdE_in hc a k
    · obtain ⟨σ', s1, s2, s3⟩ := aNew_in rfl hc.1 (aSegs_in hk (Nat.zero_le _) hg)
      exact ⟨σ', s1, hc.x s1 s2, s3⟩
  · obtain ⟨σ', s1, s2, s3⟩ := aNew_in rfl hc.1 (aUni_in (aSegs_in hk (Nat.zero_le _) hg) (List.mem_map.mpr ⟨a, ha, rfl⟩ : aSegs 0 (w.2.1 a) I ∈ as.map (fun a => aSegs 0 (w.2.1 a) I)))
    exact ⟨σ', s1, hc.x s1 s2, s3⟩
theorem ok_ald {e : aE} {as : List Nat} {kd : Nat} (hi : (i = .iaload ∧ kd = 14) ∨ (i = .baload ∧ kd = 13)) (hd : decode m.1 pc = .ok (i, len)) (hl : zilen i = 0 ∨ len = zilen i) (hb : aBnd w as (fun k => Nat.beq k kd) (aset ρ e) = true)
    (kk : aOK w md rm h0 f r scr d m Q (pc + len, ls, .inl (aLdI w ρ tr as (aset ρ e)).1 :: st, (aLdI w ρ tr as (aset ρ e)).2.1, (aLdI w ρ tr as (aset ρ e)).2.2, rr)) : aOK w md rm h0 f r scr d m Q (pc, ls, .inl e :: .inr (.inl as) :: st, ρ, tr, rr) := by
  intro σ g hg
  obtain ⟨pc', lc, sc, h⟩ := g
  obtain ⟨rfl, hc, hst⟩ := hg
  obtain ⟨x, vs1, e1, hx, hs1⟩ := aSt_i hst
  obtain ⟨a, vs, e2, ha, hs2⟩ := aSt_r hs1
  dsimp only at e1
  subst e2; subst e1
  obtain ⟨k, n, g1, g2, g3, g4⟩ := aBnd_in hc hb ha (aset_in hc.1 hx)
  have g2 : k = kd := by simpa using g2
  subst g2
  obtain ⟨σ', s1, s2, s3⟩ := aLdI_in hc ha g4
  refine ex_go hd hl (fun call => ?_) (kk σ' (pc + len, lc, .inl (h.2.1 a x.toNatClampNeg) :: vs, h) ⟨rfl, s2, ⟨_, rfl, s3⟩, hs2.x s1⟩)
  rcases hi with ⟨rfl, rfl⟩ | ⟨rfl, rfl⟩ <;> simp only [zexec, zld, g1] <;> rw [if_pos trivial, if_pos g3]
theorem ok_getst (hd : decode m.1 pc = .ok (.getstatic zgsk, len)) (hl : zilen (.getstatic zgsk) = 0 ∨ len = zilen (.getstatic zgsk)) (ho : m.2.1 = 6)
    (kk : aOK w md rm h0 f r scr d m Q (pc + len, ls, .inr (.inl [1000001]) :: st, ρ, tr, rr)) : aOK w md rm h0 f r scr d m Q (pc, ls, st, ρ, tr, rr) := by
  intro σ g hg
  obtain ⟨pc', lc, sc, h⟩ := g
  obtain ⟨rfl, hc, hst⟩ := hg
  refine ex_go hd hl (fun call => ?_) (kk σ (pc + len, lc, .inr (.inr (some 1000001)) :: sc, h) ⟨rfl, hc, ⟨_, List.mem_cons_self, rfl⟩, hst⟩)
  simp only [zexec]
  rw [if_pos ⟨ho, trivial⟩]
theorem ok_carry {e : aE} (hd : decode m.1 pc = .ok (.iaload, len)) (hl : zilen .iaload = 0 ∨ len = zilen .iaload) (hb : aLe (aset ρ e) [(0, 3, 1)] = true)
    (kk : aOK w md rm h0 f r scr d m Q (pc + len, ls, .inl (.inr (ρ.length, 0)) :: st, ρ ++ [aTop], tr, rr)) : aOK w md rm h0 f r scr d m Q (pc, ls, .inl e :: .inr (.inl [1000001]) :: st, ρ, tr, rr) := by
  intro σ g hg
  obtain ⟨pc', lc, sc, h⟩ := g
  obtain ⟨rfl, hc, hst⟩ := hg
  obtain ⟨x, vs1, e1, hx, hs1⟩ := aSt_i hst
  obtain ⟨a, vs, e2, ha, hs2⟩ := aSt_r hs1
  dsimp only at e1
  subst e2; subst e1
  have ha : a = 1000001 := by simpa using ha
  subst ha
  have hh := aHull_in (aLe_in hb (aset_in hc.1 hx))
  have a1 : (0 : Int) ≤ x.toInt := hh.1
  have a2 : x.toInt ≤ (3 : Int) := hh.2
  have hz : zsh h 1000001 = none := by
    have h9 : h.1.1 ≤ 900000 := hc.2.2.2.2.1.2.2.2.2
    unfold zsh
    rw [if_neg (by omega)]
  have hin : zin x 4 = true := decide_eq_true (vp_in_iff.mpr ⟨by omega, by omega⟩)
  obtain ⟨σ', s1, s2, s3⟩ := aNew_i hc.1 (aIn_top (zcc x.toNatClampNeg))
  refine ex_go hd hl (fun call => ?_) (kk σ' (pc + len, lc, .inl (zcc x.toNatClampNeg) :: vs, h) ⟨rfl, hc.x s1 s2, ⟨_, rfl, s3⟩, hs2.x s1⟩)
  simp only [zexec, zld, hz]
  rw [if_neg (by decide), if_pos (by decide), if_pos hin]
theorem ok_laload {e : aE} {as : List Nat} (hd : decode m.1 pc = .ok (.laload, len)) (hl : zilen .laload = 0 ∨ len = zilen .laload) (hb : aBnd w as (fun k => Nat.beq k 15) (aset ρ e) = true)
    (kk : aOK w md rm h0 f r scr d m Q (pc + len, ls, .inr (.inr false) :: st, ρ, tr, rr)) : aOK w md rm h0 f r scr d m Q (pc, ls, .inl e :: .inr (.inl as) :: st, ρ, tr, rr) := by
  intro σ g hg
  obtain ⟨pc', lc, sc, h⟩ := g
  obtain ⟨rfl, hc, hst⟩ := hg
  obtain ⟨x, vs1, e1, hx, hs1⟩ := aSt_i hst
  obtain ⟨a, vs, e2, ha, hs2⟩ := aSt_r hs1
  dsimp only at e1
  subst e2; subst e1
  obtain ⟨k, n, g1, g2, g3, g4⟩ := aBnd_in hc hb ha (aset_in hc.1 hx)
  have g2 : k = 15 := by simpa using g2
  subst g2
  refine ex_go hd hl (fun call => ?_) (kk σ (pc + len, lc, .inr (.inl (h.2.2.1 a x.toNatClampNeg)) :: vs, h) ⟨rfl, hc, ⟨_, rfl, nofun⟩, hs2⟩)
  simp only [zexec, g1]
  rw [if_pos ⟨trivial, g3⟩]
theorem ok_lastore {e : aE} {as : List Nat} {u : Bool} (hd : decode m.1 pc = .ok (.lastore, len)) (hl : zilen .lastore = 0 ∨ len = zilen .lastore) (hb : aBnd w as (fun k => Nat.beq k 15) (aset ρ e) = true)
    (kk : aOK w md rm h0 f r scr d m Q (pc + len, ls, st, ρ, tr, rr)) : aOK w md rm h0 f r scr d m Q (pc, ls, .inr (.inr u) :: .inl e :: .inr (.inl as) :: st, ρ, tr, rr) := by
  intro σ g hg
  obtain ⟨pc', lc, sc, h⟩ := g
  obtain ⟨rfl, hc, hst⟩ := hg
  obtain ⟨y, vs0, e0, hs0, -⟩ := aSt_l hst
  obtain ⟨x, vs1, e1, hx, hs1⟩ := aSt_i hs0
  obtain ⟨a, vs, e2, ha, hs2⟩ := aSt_r hs1
  dsimp only at e0
  subst e2; subst e1; subst e0
  obtain ⟨k, n, g1, g2, g3, g4⟩ := aBnd_in hc hb ha (aset_in hc.1 hx)
  have g2 : k = 15 := by simpa using g2
  subst g2
  refine ex_go hd hl (fun call => ?_) (kk σ (pc + len, lc, vs, zsL h a x.toNatClampNeg y) ⟨rfl, hc, hs2⟩)
  simp only [zexec, g1]
  rw [if_pos ⟨trivial, g3⟩]
def aLdR (w : aWd) (rr : aU) (as : List Nat) (I : aI) : Option (List Nat) := aAll (as.flatMap (fun a => (aEn I).map (fun k => aRf w rr a k.toNat)))
theorem ok_aald {e : aE} {as bs : List Nat} (hd : decode m.1 pc = .ok (.aaload, len)) (hl : zilen .aaload = 0 ∨ len = zilen .aaload) (hb : aBnd w as (fun k => Nat.ble 16 k && Nat.ble k 20) (aset ρ e) = true) (hr : aLdR w rr as (aset ρ e) = some bs)
    (kk : aOK w md rm h0 f r scr d m Q (pc + len, ls, .inr (.inl bs) :: st, ρ, tr, rr)) : aOK w md rm h0 f r scr d m Q (pc, ls, .inl e :: .inr (.inl as) :: st, ρ, tr, rr) := by
  intro σ g hg
  obtain ⟨pc', lc, sc, h⟩ := g
  obtain ⟨rfl, hc, hst⟩ := hg
  obtain ⟨x, vs1, e1, hx, hs1⟩ := aSt_i hst
  obtain ⟨a, vs, e2, ha, hs2⟩ := aSt_r hs1
  dsimp only at e1
  subst e2; subst e1
  obtain ⟨k, n, g1, g2, g3, g4⟩ := aBnd_in hc hb ha (aset_in hc.1 hx)
  simp only [Bool.and_eq_true, Nat.ble_eq] at g2
  obtain ⟨b, hbm, hbe⟩ := aAll_in hr (List.mem_flatMap.mpr ⟨a, ha, List.mem_map.mpr ⟨_, aEn_in g4, rfl⟩⟩)
  have hrr := aRf_in hc hbe
  rw [Int.toNat_natCast] at hrr
  refine ex_go hd hl (fun call => ?_) (kk σ (pc + len, lc, .inr (.inr (some b)) :: vs, h) ⟨rfl, hc, ⟨b, hbm, rfl⟩, hs2⟩)
  simp only [zexec, g1]
  rw [if_pos ⟨g2.1, g2.2, g3⟩, hrr]
theorem ok_alen {as : List Nat} {n : Nat} (hd : decode m.1 pc = .ok (.arraylength, len)) (hl : zilen .arraylength = 0 ∨ len = zilen .arraylength) (hn : as.all (fun a => match w.1 a with
    | some q => Nat.ble 13 q.1 && Nat.beq q.2 n
    | none => false) = true) (hn2 : Nat.blt n 2147483648 = true)
    (kk : aOK w md rm h0 f r scr d m Q (pc + len, ls, .inl (.inl n) :: st, ρ, tr, rr)) : aOK w md rm h0 f r scr d m Q (pc, ls, .inr (.inl as) :: st, ρ, tr, rr) := by
  intro σ g hg
  obtain ⟨pc', lc, sc, h⟩ := g
  obtain ⟨rfl, hc, hst⟩ := hg
  obtain ⟨a, vs, e1, ha, hs1⟩ := aSt_r hst
  dsimp only at e1
  subst e1
  have hn := List.all_eq_true.mp hn a ha
  split at hn
  · next q e =>
    simp only [Bool.and_eq_true, Nat.ble_eq, Nat.beq_eq] at hn
    have hsh := hc.2.2.2.2.1.1 a q e
    have hn2 : n < 2147483648 := by simpa [Nat.blt_eq] using hn2
    refine ex_go hd hl (fun call => ?_) (kk σ (pc + len, lc, .inl (Int32.ofNat n) :: vs, h) ⟨rfl, hc, ⟨_, rfl, nI_toInt hn2⟩, hs1⟩)
    obtain ⟨q1, q2⟩ := q
    simp only [zexec, zlen, hsh]
    dsimp only at hn
    rw [if_pos hn.1, hn.2]
  · cases hn
/-- writes -/
theorem ok_putI {k ci fl : Nat} {as : List Nat} {e : aE} (hd : decode m.1 pc = .ok (.putfield k, len)) (hl : zilen (.putfield k) = 0 ∨ len = zilen (.putfield k)) (hz : zfld m.2.1 k = some (ci, fl)) (hk : aKd w as ci = true) (hfi : zfin ci fl = false) (hty : (Nat.beq ((zft ci).getD fl 9) 0 || (Nat.beq ((zft ci).getD fl 9) 1 && aLe (aset ρ e) [(0, 1, 1)])) = true) (hw : aWr w md ρ tr as [((fl : Int), (fl : Int), 0)] e = some tr')
    (kk : aOK w md rm h0 f r scr d m Q (pc + len, ls, st, ρ, tr', rr)) : aOK w md rm h0 f r scr d m Q (pc, ls, .inl e :: .inr (.inl as) :: st, ρ, tr, rr) := by
  intro σ g hg
  obtain ⟨pc', lc, sc, h⟩ := g
  obtain ⟨rfl, hc, hst⟩ := hg
  obtain ⟨x, vs1, e1, hx, hs1⟩ := aSt_i hst
  obtain ⟨a, vs, e2, ha, hs2⟩ := aSt_r hs1
  dsimp only at e1
  subst e2; subst e1
  obtain ⟨n, hn⟩ := aKd_in hk ha
  have hsh := hc.2.2.2.2.1.1 a _ hn
  refine ex_go hd hl (fun call => ?_) (kk σ (pc + len, lc, vs, zsI h a fl x) ⟨rfl, aWr_in hc hw ha aIn_one hx, hs2⟩)
  simp only [zexec, hz, hsh]
  rw [if_pos ⟨trivial, Or.inl hfi⟩]
  have hcond : (zft ci).getD fl 9 = 0 ∨ ((zft ci).getD fl 9 = 1 ∧ (x = 0 ∨ x = 1)) := by
    simp only [Bool.or_eq_true, Bool.and_eq_true, Nat.beq_eq] at hty
    rcases hty with q | ⟨q1, q2⟩
    · exact Or.inl q
    · refine Or.inr ⟨q1, ?_⟩
      have := aHull_in (aLe_in q2 (aset_in hc.1 hx))
      have h01 : x.toInt = 0 ∨ x.toInt = 1 := by
        have a1 : (0 : Int) ≤ x.toInt := this.1
        have a2 : x.toInt ≤ (1 : Int) := this.2
        omega
      rcases h01 with z | z
      · exact Or.inl (Int32.toInt_inj.mp z)
      · exact Or.inr (Int32.toInt_inj.mp z)
  unfold zput
  dsimp only
  rw [if_pos hcond]
theorem ok_ast {as : List Nat} {e j : aE} (hd : decode m.1 pc = .ok (.iastore, len)) (hl : zilen .iastore = 0 ∨ len = zilen .iastore) (hb : aBnd w as (fun k => Nat.beq k 14) (aset ρ j) = true) (hw : aWr w md ρ tr as (aset ρ j) e = some tr')
    (kk : aOK w md rm h0 f r scr d m Q (pc + len, ls, st, ρ, tr', rr)) : aOK w md rm h0 f r scr d m Q (pc, ls, .inl e :: .inl j :: .inr (.inl as) :: st, ρ, tr, rr) := by
  intro σ g hg
  obtain ⟨pc', lc, sc, h⟩ := g
  obtain ⟨rfl, hc, hst⟩ := hg
  obtain ⟨y, vs0, e0, hy, hs0⟩ := aSt_i hst
  obtain ⟨x, vs1, e1, hx, hs1⟩ := aSt_i hs0
  obtain ⟨a, vs, e2, ha, hs2⟩ := aSt_r hs1
  dsimp only at e0
  subst e2; subst e1; subst e0
  obtain ⟨k, n, g1, g2, g3, g4⟩ := aBnd_in hc hb ha (aset_in hc.1 hx)
  have g2 : k = 14 := by simpa using g2
  subst g2
  refine ex_go hd hl (fun call => ?_) (kk σ (pc + len, lc, vs, zsI h a x.toNatClampNeg y) ⟨rfl, aWr_in hc hw ha g4 hy, hs2⟩)
  simp only [zexec, zst, g1]
  rw [if_pos trivial, if_pos g3]
/-- a byte's store: what is known is that it is a byte -/
theorem ok_bast {as : List Nat} {e j : aE} (hd : decode m.1 pc = .ok (.bastore, len)) (hl : zilen .bastore = 0 ∨ len = zilen .bastore) (hb : aBnd w as (fun k => Nat.beq k 13) (aset ρ j) = true) (hw : aWr w md (ρ ++ [aR1 (-128) 127]) tr as (aset ρ j) (.inr (ρ.length, 0)) = some tr')
    (kk : aOK w md rm h0 f r scr d m Q (pc + len, ls, st, ρ ++ [aR1 (-128) 127], tr', rr)) : aOK w md rm h0 f r scr d m Q (pc, ls, .inl e :: .inl j :: .inr (.inl as) :: st, ρ, tr, rr) := by
  intro σ g hg
  obtain ⟨pc', lc, sc, h⟩ := g
  obtain ⟨rfl, hc, hst⟩ := hg
  obtain ⟨y, vs0, e0, hy, hs0⟩ := aSt_i hst
  obtain ⟨x, vs1, e1, hx, hs1⟩ := aSt_i hs0
  obtain ⟨a, vs, e2, ha, hs2⟩ := aSt_r hs1
  dsimp only at e0
  subst e2; subst e1; subst e0
  obtain ⟨k, n, g1, g2, g3, g4⟩ := aBnd_in hc hb ha (aset_in hc.1 hx)
  have g2 : k = 13 := by simpa using g2
  subst g2
  have hin : aIn (vp_nar .byte y).toInt (aR1 (-128) 127) := by
    rw [vp_nar_byte]
    exact aR1_in i2b_in.1 i2b_in.2.1
  obtain ⟨σ', s1, s2, s3⟩ := aNew_i hc.1 hin
  refine ex_go hd hl (fun call => ?_) (kk σ' (pc + len, lc, vs, zsI h a x.toNatClampNeg (vp_nar .byte y)) ⟨rfl, aWr_in (hc.x s1 s2) hw ha g4 s3, hs2.x s1⟩)
  simp only [zexec, zst, g1]
  rw [if_pos trivial, if_pos g3]
end A9
