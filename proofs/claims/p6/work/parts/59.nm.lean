/-! a loop of lines from a node (post, behind the reset of the tape) -/
def aChP (w : aWd) (c : aCt) (lk : aLk) (cd : aCd) (fk : List Nat) (fuel : Nat) (X : List aNd) : List aNd → Prop
  | [] => True
  | e :: es => aSgk w c lk cd fk fuel ((es.head?.toList ++ X).map nd0) (nd1 e) = true ∧ aChP w c lk cd fk fuel X es
theorem aChP_ok {w : aWd} {c : aCt} {lk : aLk} {cd : aCd} {fk : List Nat} {fuel d : Nat} {vs : List zV} {X : List aNd} (hlk : aLkH w c lk) (hcd : aCdH c cd) (hd : c.2.2.2.2.2.2 ≤ d) (hX : ∀ nd ∈ X, aNok w c d vs nd) : ∀ (Es : List aNd), aChP w c lk cd fk fuel X Es → ∀ nd ∈ Es, aNok w c d vs nd := by
  intro Es
  induction Es with
  | nil => intro _ nd hm; cases hm
  | cons e es ih =>
    intro h nd hm
    have ih := ih h.2
    rcases List.mem_cons.mp hm with rfl | hm
    · refine aStep_ok (T := es.head?.toList ++ X) hlk hcd hd (fun nd' hm' => ?_) h.1
      rcases List.mem_append.mp hm' with hm' | hm'
      · refine ih nd' ?_
        cases es with
        | nil => cases hm'
        | cons a t =>
          have : nd' = a := by simpa using hm'
          rw [this]
          exact List.mem_cons_self
      · exact hX nd' hm'
    · exact ih nd hm
theorem aPostN_ok {w : aWd} {c : aCt} {lk : aLk} {cd : aCd} {fk : List Nat} {fuel : Nat} {md' : aMd} {T A B C Es : List aNd} (hlk : aLkH w c lk) (hcd : aCdH c cd) (hw : aLe (gSeg (w.2.1 196) 5) [(0, 100000, 1)] = true) (hmd : (aMono md' && aMdOk md' c.2.2.2.2.1) = true)
    (kT : ∀ nd ∈ T, aSgk w (c.1, c.2.1, c.2.2.1, c.2.2.2.1, md', c.2.2.2.2.2.1, c.2.2.2.2.2.2) lk cd fk fuel (T ++ []) nd = true)
    (kA : ∀ nd ∈ A, aSgk w (c.1, c.2.1, c.2.2.1, c.2.2.2.1, md', c.2.2.2.2.2.1, c.2.2.2.2.2.2) lk cd fk fuel (T.map nd0) (nd1 nd) = true)
    (kB : ∀ nd ∈ B, (aTok [(1, 3, 1)] nd && aSgk w (c.1, c.2.1, c.2.2.1, c.2.2.2.1, md', c.2.2.2.2.2.1, c.2.2.2.2.2.2) lk cd fk fuel ((T ++ C).map nd0) (nd1 nd)) = true)
    (kC : ∀ nd ∈ C, (aTok [(59, 59, 1)] nd && aSgk w (c.1, c.2.1, c.2.2.1, c.2.2.2.1, md', c.2.2.2.2.2.1, c.2.2.2.2.2.2) lk cd fk fuel ((A ++ B).map nd0) (nd1 nd)) = true)
    (kE : aChP w c lk cd fk fuel (T ++ C) Es) : ∀ d, c.2.2.2.2.2.2 ≤ d → ∀ vs, ∀ nd ∈ Es, aNok w c d vs nd := by
  simp only [Bool.and_eq_true] at hmd kB kC
  intro d hd vs
  refine aChP_ok hlk hcd hd (fun nd hm1 => ?_) Es kE
  intro g' hn'
  have hn' : aNH w c.2.2.2.2.1 c.2.2.2.2.2.1 g'.2.2.2 nd g' := hn'
  have hT := aNodes_ok (c := (c.1, c.2.1, c.2.2.1, c.2.2.2.1, md', c.2.2.2.2.2.1, c.2.2.2.2.2.2)) (vs := vs) (ex := []) kT hlk hcd hd (fun nd hm => nomatch hm)
  have hA : ∀ nd ∈ A, aNok w _ d vs nd := fun nd hm => aStep_ok (c := (c.1, c.2.1, c.2.2.1, c.2.2.2.1, md', c.2.2.2.2.2.1, c.2.2.2.2.2.2)) hlk hcd hd hT (kA nd hm)
  have hC := aLoop_ok (c := (c.1, c.2.1, c.2.2.1, c.2.2.2.1, md', c.2.2.2.2.2.1, c.2.2.2.2.2.2)) (vs := vs) hmd.1 hlk hcd hd hT hA (fun nd hm => (kC nd hm).2) (fun nd hm => (kB nd hm).2) hw (fun nd hm => (kC nd hm).1) (fun nd hm => (kB nd hm).1)
  have fin : aNok w (c.1, c.2.1, c.2.2.1, c.2.2.2.1, md', c.2.2.2.2.2.1, c.2.2.2.2.2.2) d vs nd := by
    rcases List.mem_append.mp hm1 with hm | hm
    · exact hT nd hm
    · exact hC nd hm
  exact zEx.mono (fin g' hn'.re) (fun v h' hq => ⟨hq.1, hn'.fr.tr hq.2.1 hmd.2 aMdLe_rf, hq.2.2⟩)
