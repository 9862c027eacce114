/-! what a text says: the lines, as functions of tokens -/
def seg (y : Nat → Int32) : Nat → Nat → List Int32
  | 0, _ => []
  | k + 1, s => y s :: seg y k (s + 1)
theorem seg_len {y : Nat → Int32} : ∀ {k s : Nat}, (seg y k s).length = k
  | 0, _ => rfl
  | k + 1, s => by show (seg y k (s + 1)).length + 1 = k + 1; rw [seg_len]
theorem seg_get {y : Nat → Int32} : ∀ {k s j : Nat}, j < k → (seg y k s).getD j 0 = y (s + j)
  | 0, _, j, h => absurd h (Nat.not_lt_zero j)
  | k + 1, s, 0, _ => rfl
  | k + 1, s, j + 1, h => by
    show (seg y k (s + 1)).getD j 0 = y (s + (j + 1))
    rw [seg_get (by omega)]
    congr 1
    omega
theorem list_get {a b : List Int32} (hl : a.length = b.length) (h : ∀ j, j < b.length → a.getD j 0 = b.getD j 0) : a = b := by
  refine List.ext_getElem hl (fun j h1 h2 => ?_)
  have := h j h2
  rw [List.getD_eq_getElem?_getD, List.getD_eq_getElem?_getD, List.getElem?_eq_getElem h1, List.getElem?_eq_getElem h2] at this
  exact this
def tW (y : Nat → Int32) (n p : Nat) : List Int32 := seg y (tE y n p - tS y n p) (tS y n p)
theorem wIs_w {y : Nat → Int32} {n p : Nat} {bs : List Int32} : wIs y n p bs ↔ (tT y n p = 2 ∧ tW y n p = bs) := by
  refine ⟨fun ⟨a, b, c⟩ => ⟨a, ?_⟩, fun ⟨a, b⟩ => ⟨a, ?_, fun k hk => ?_⟩⟩
  · refine list_get (by unfold tW; rw [seg_len, b]) (fun j hj => ?_)
    unfold tW
    rw [seg_get (by omega)]
    exact c j hj
  · rw [← b]; unfold tW; rw [seg_len]
  · rw [← b] at hk ⊢
    unfold tW at hk ⊢
    rw [seg_len] at hk
    rw [seg_get hk]
abbrev sF : Type := Int32 × Nat
def kws : List (List Int32) := [wPost, wIsland, wWay, wWhale, wBox, wSpout]
def sWord (y : Nat → Int32) (n : Nat) (bs : List Int32) (p : Nat) : sF ⊕ Nat := if tT y n p = 2 ∧ tW y n p = bs then .inr (tE y n p) else .inl (1, tS y n p)
def sNum (y : Nat → Int32) (n : Nat) (lo hi : Int32) (p : Nat) : sF ⊕ (Int32 × Nat) := if tT y n p = 3 then (if lo ≤ tNum y n p ∧ tNum y n p ≤ hi then .inr (tNum y n p, tE y n p) else .inl (4, tS y n p)) else .inl (1, tS y n p)
def sWN (y : Nat → Int32) (n : Nat) (bs : List Int32) (lo hi : Int32) (p : Nat) : sF ⊕ (Int32 × Nat) := match sWord y n bs p with
  | .inl e => .inl e
  | .inr q => sNum y n lo hi q
def isNb (y : Nat → Int32) (n p : Nat) : Bool := decide (tT y n p = 2) && !(kws.contains (tW y n p))
/-- what was told so far: notes (0: no head), names by their place, songs, ways, spouts, how many of each -/
abbrev pA : Type := Int32 × (Nat → List Int32) × (Nat → List Int32) × (Nat → Nat × Nat) × (Nat → Nat × Int32) × (Nat × Nat × Nat × Nat × Nat)
def nFind (nm : Nat → List Int32) (w : List Int32) : Option Nat := (List.range 20).find? (fun i => decide (nm i = w))
def sNew (y : Nat → Int32) (n : Nat) (nm : Nat → List Int32) (p : Nat) : sF ⊕ Nat := if isNb y n p then (if (nFind nm (tW y n p)).isSome then .inl (3, tS y n p) else .inr (tE y n p)) else .inl (1, tS y n p)
def sOld (y : Nat → Int32) (n : Nat) (nm : Nat → List Int32) (lo hi : Nat) (p : Nat) : sF ⊕ (Nat × Nat) := if isNb y n p then (match nFind nm (tW y n p) with
    | some i => if lo ≤ i ∧ i ≤ hi then .inr (i - lo, tE y n p) else .inl (2, tS y n p)
    | none => .inl (2, tS y n p)) else .inl (1, tS y n p)
def upA {α : Type} (f : Nat → α) (k : Nat) (v : α) : Nat → α := fun j => if j = k then v else f j
/-- a number that was told, at its place in the reference's row -/
def xS (S : Nat → List Int32) (j : Nat) (x : Int32) : Nat → List Int32 := upA S (1000 + j) [x]
def wNotes : List Int32 := [110, 111, 116, 101, 115]
def wErrors : List Int32 := [101, 114, 114, 111, 114, 115]
def wDrift : List Int32 := [100, 114, 105, 102, 116]
def wSlip : List Int32 := [115, 108, 105, 112]
def wDays : List Int32 := [100, 97, 121, 115]
def wOpen : List Int32 := [111, 112, 101, 110]
def wAt : List Int32 := [97, 116]
def wKeeps : List Int32 := [107, 101, 101, 112, 115]
def wLost : List Int32 := [108, 111, 115, 116]
def wFrom : List Int32 := [102, 114, 111, 109]
def wTo : List Int32 := [116, 111]
def wWeighs : List Int32 := [119, 101, 105, 103, 104, 115]
def wDay : List Int32 := [100, 97, 121]
abbrev sR : Type := sF ⊕ (pA × Nat)
def sHead (y : Nat → Int32) (n : Nat) (A : pA) (p : Nat) : sR := match sWN y n wNotes 2 4 p with
  | .inl e => .inl e
  | .inr (t, p) => (match sWN y n wErrors 0 3 p with
    | .inl e => .inl e
    | .inr (u, p) => (match sWN y n wDrift 0 50 p with
      | .inl e => .inl e
      | .inr (v, p) => (match sWN y n wSlip 0 100 p with
        | .inl e => .inl e
        | .inr (w, p) => .inr ((t, A.2.1, xS (xS (xS A.2.2.1 1 u) 2 v) 3 w, A.2.2.2), p))))
def okSong (t : Int32) (w : List Int32) : Bool := decide (2 ≤ w.length) && (decide (w.length ≤ 6) && w.all (fun b => decide (b - 97 < t)))
def sIsland (y : Nat → Int32) (n : Nat) (A : pA) (p : Nat) : sR := match sNew y n A.2.1 p with
  | .inl e => .inl e
  | .inr q => if tT y n q = 2 then (if okSong A.1 (tW y n q) then (if (List.range A.2.2.2.2.2.1).any (fun i => decide (A.2.2.1 i = tW y n q)) then .inl (3, tS y n q) else
      .inr ((A.1, upA A.2.1 A.2.2.2.2.2.1 (tW y n p), upA A.2.2.1 A.2.2.2.2.2.1 (tW y n q), A.2.2.2.1, A.2.2.2.2.1, A.2.2.2.2.2.1 + 1, A.2.2.2.2.2.2), tE y n q)) else .inl (7, tS y n q)) else .inl (1, tS y n q)
def joinsB (wy : Nat → Nat × Nat) (a b k : Nat) : Bool := decide (wy k = (a, b)) || decide (wy k = (b, a))
def sWay (y : Nat → Int32) (n : Nat) (A : pA) (p : Nat) : sR := match sOld y n A.2.1 0 6 p with
  | .inl e => .inl e
  | .inr (a, q) => (match sOld y n A.2.1 0 6 q with
    | .inl e => .inl e
    | .inr (b, r) => if a = b ∨ (List.range A.2.2.2.2.2.2.1).any (joinsB A.2.2.2.1 a b) then .inl (3, tS y n q) else (match sWN y n wDays 1 99 r with
      | .inl e => .inl e
      | .inr (u, r) => (match sWN y n wOpen 1 15 r with
        | .inl e => .inl e
        | .inr (v, r) => .inr ((A.1, A.2.1, xS (xS A.2.2.1 (61 + 4 * A.2.2.2.2.2.2.1) u) (62 + 4 * A.2.2.2.2.2.2.1) v, upA A.2.2.2.1 A.2.2.2.2.2.2.1 (a, b), A.2.2.2.2.1, A.2.2.2.2.2.1, A.2.2.2.2.2.2.1 + 1, A.2.2.2.2.2.2.2), r))))
/-- a whale's kind -/
def kdV (y : Nat → Int32) (n p : Nat) : Int32 := if tW y n p = [99, 97, 108, 102] then 0 else if tW y n p = [99, 111, 119] then 1 else if tW y n p = [98, 117, 108, 108] then 2 else 3
def isKind (y : Nat → Int32) (n p : Nat) : Bool := decide (tT y n p = 2) && ([[99, 97, 108, 102], [99, 111, 119], [98, 117, 108, 108], [111, 108, 100]] : List (List Int32)).contains (tW y n p)
def sWhale (y : Nat → Int32) (n : Nat) (A : pA) (p : Nat) : sR := match sNew y n A.2.1 p with
  | .inl e => .inl e
  | .inr q => if isKind y n q then (match sWord y n wAt (tE y n q) with
    | .inl e => .inl e
    | .inr r => (match sOld y n (upA A.2.1 (7 + A.2.2.2.2.2.2.2.1) (tW y n p)) 0 6 r with
      | .inl e => .inl e
      | .inr (a, r) => (match sWN y n wKeeps 0 99 r with
        | .inl e => .inl e
        | .inr (u, r) => (match sWN y n wLost 0 99 r with
          | .inl e => .inl e
          | .inr (v, r) => .inr ((A.1, upA A.2.1 (7 + A.2.2.2.2.2.2.2.1) (tW y n p), xS (xS (xS (xS A.2.2.1 (107 + 4 * A.2.2.2.2.2.2.2.1) (kdV y n q)) (108 + 4 * A.2.2.2.2.2.2.2.1) (nI a)) (109 + 4 * A.2.2.2.2.2.2.2.1) u) (110 + 4 * A.2.2.2.2.2.2.2.1) v, A.2.2.2.1, A.2.2.2.2.1, A.2.2.2.2.2.1, A.2.2.2.2.2.2.1, A.2.2.2.2.2.2.2.1 + 1, A.2.2.2.2.2.2.2.2), r))))) else .inl (1, tS y n q)
def sBox (y : Nat → Int32) (n : Nat) (A : pA) (p : Nat) : sR := match sNew y n A.2.1 p with
  | .inl e => .inl e
  | .inr q => (match sWord y n wFrom q with
    | .inl e => .inl e
    | .inr r => (match sOld y n (upA A.2.1 (12 + A.2.2.2.2.2.2.2.2.1) (tW y n p)) 0 6 r with
      | .inl e => .inl e
      | .inr (a, r) => (match sWord y n wTo r with
        | .inl e => .inl e
        | .inr r => (match sOld y n (upA A.2.1 (12 + A.2.2.2.2.2.2.2.2.1) (tW y n p)) 0 6 r with
          | .inl e => .inl e
          | .inr (b, r) => (match sWN y n wWeighs 1 99 r with
            | .inl e => .inl e
            | .inr (u, r) => (match sWN y n wDay 0 9999 r with
              | .inl e => .inl e
              | .inr (v, r) => .inr ((A.1, upA A.2.1 (12 + A.2.2.2.2.2.2.2.2.1) (tW y n p), xS (xS (xS (xS A.2.2.1 (127 + 4 * A.2.2.2.2.2.2.2.2.1) (nI a)) (128 + 4 * A.2.2.2.2.2.2.2.2.1) (nI b)) (129 + 4 * A.2.2.2.2.2.2.2.2.1) u) (130 + 4 * A.2.2.2.2.2.2.2.2.1) v, A.2.2.2.1, A.2.2.2.2.1, A.2.2.2.2.2.1, A.2.2.2.2.2.2.1, A.2.2.2.2.2.2.2.1, A.2.2.2.2.2.2.2.2.1 + 1, A.2.2.2.2.2.2.2.2.2), r)))))))
/-- the least day for one more spout of this whale -/
def least (sp : Nat → Nat × Int32) (w : Nat) : Nat → Int32
  | 0 => 0
  | k + 1 => if (sp k).1 = w then (sp k).2 + 1 else least sp w k
def sSpout (y : Nat → Int32) (n : Nat) (A : pA) (p : Nat) : sR := match sOld y n A.2.1 7 11 p with
  | .inl e => .inl e
  | .inr (w, q) => (match sOld y n A.2.1 0 6 q with
    | .inl e => .inl e
    | .inr (i, r) => (match sWN y n wDay (least A.2.2.2.2.1 w A.2.2.2.2.2.2.2.2.2) 9999 r with
      | .inl e => .inl e
      | .inr (g, r) => .inr ((A.1, A.2.1, xS A.2.2.1 (160 + 3 * A.2.2.2.2.2.2.2.2.2) (nI i), A.2.2.2.1, upA A.2.2.2.2.1 A.2.2.2.2.2.2.2.2.2 (w, g), A.2.2.2.2.2.1, A.2.2.2.2.2.2.1, A.2.2.2.2.2.2.2.1, A.2.2.2.2.2.2.2.2.1, A.2.2.2.2.2.2.2.2.2 + 1), r)))
def sLine (y : Nat → Int32) (n : Nat) (A : pA) (p : Nat) : sR :=
  if tT y n p = 2 ∧ tW y n p = wPost then (if A.1 = 0 then sHead y n A (tE y n p) else .inl (3, tS y n p))
  else if tT y n p = 2 ∧ tW y n p = wIsland then (if A.1 = 0 then .inl (6, tS y n p) else if A.2.2.2.2.2.1 < 7 then sIsland y n A (tE y n p) else .inl (5, tS y n p))
  else if tT y n p = 2 ∧ tW y n p = wWay then (if A.1 = 0 then .inl (6, tS y n p) else if A.2.2.2.2.2.2.1 < 12 then sWay y n A (tE y n p) else .inl (5, tS y n p))
  else if tT y n p = 2 ∧ tW y n p = wWhale then (if A.1 = 0 then .inl (6, tS y n p) else if A.2.2.2.2.2.2.2.1 < 5 then sWhale y n A (tE y n p) else .inl (5, tS y n p))
  else if tT y n p = 2 ∧ tW y n p = wBox then (if A.1 = 0 then .inl (6, tS y n p) else if A.2.2.2.2.2.2.2.2.1 < 8 then sBox y n A (tE y n p) else .inl (5, tS y n p))
  else if tT y n p = 2 ∧ tW y n p = wSpout then (if A.1 = 0 then .inl (6, tS y n p) else if A.2.2.2.2.2.2.2.2.2 < 8 then sSpout y n A (tE y n p) else .inl (5, tS y n p))
  else .inl (1, tS y n p)
/-- the lines of a text; what was told, or what is wrong and where -/
def sText (y : Nat → Int32) (n : Nat) : Nat → pA → Nat → sF ⊕ pA
  | 0, _, p => .inl (1, p)
  | f + 1, A, p => match sLine y n A p with
    | .inl e => .inl e
    | .inr (A, p) => if tT y n p = 0 then (if A.2.2.2.2.2.1 = 0 then .inl (6, tS y n p) else .inr A) else if tT y n p = 59 then sText y n f A (tE y n p) else .inl (1, tS y n p)
/-! words and songs as numbers -/
def codeL (w : List Int32) : Int64 := w.foldl (fun v b => v <<< ((5 : Int32).toInt64 &&& 63) ||| (b - 97 + 1).toInt64) 0
def codeS (w : List Int32) : Int32 := w.foldl (fun (v b : Int32) => v <<< (2 &&& 31) ||| (b - 97)) 0
def isLt (b : Int32) : Bool := decide (97 ≤ b) && decide (b ≤ 122)
theorem letF_w {y : Nat → Int32} : ∀ {k s : Nat} {v : Int64}, letF y k s v = (seg y k s).foldl (fun v b => v <<< ((5 : Int32).toInt64 &&& 63) ||| (b - 97 + 1).toInt64) v
  | 0, _, _ => rfl
  | k + 1, s, v => by
    show letF y k (s + 1) _ = (seg y k (s + 1)).foldl _ _
    rw [letF_w]
theorem tLet_w {y : Nat → Int32} {n p : Nat} : tLet y n p = codeL (tW y n p) := letF_w
def cnL (w : List Int32) : Nat := w.foldl (fun v b => 32 * v + (b.toInt.toNat - 96)) 0
theorem isLt_rg {b : Int32} (h : isLt b = true) : 97 ≤ b.toInt ∧ b.toInt ≤ 122 := by
  unfold isLt at h
  simp only [Bool.and_eq_true, decide_eq_true_eq, Int32.le_iff_toInt_le] at h
  exact h
theorem lt_code {b : Int32} (h : isLt b = true) : (b - 97 + 1).toInt64 = Int64.ofNat (b.toInt.toNat - 96) ∧ b.toInt.toNat - 96 < 32 := by
  obtain ⟨h1, h2⟩ := isLt_rg h
  have hk : ∀ q : Fin 26, ((nI (97 + q.val)) - 97 + 1).toInt64 = Int64.ofNat ((nI (97 + q.val)).toInt.toNat - 96) := by decide
  have eb : b = nI (97 + (b.toInt.toNat - 97)) := by
    refine Int32.toInt_inj.mp ?_
    rw [nI_toInt (by omega)]
    omega
  have := hk ⟨b.toInt.toNat - 97, by omega⟩
  rw [← eb] at this
  exact ⟨this, by omega⟩
theorem sh5 {V X : Nat} (hV : V < 2 ^ 40) (hX : X < 32) : Int64.ofNat V <<< ((5 : Int32).toInt64 &&& 63) ||| Int64.ofNat X = Int64.ofNat (32 * V + X) := by
  have e5 : ((5 : Int32).toInt64 &&& 63) = 5 := by decide
  rw [e5]
  refine Int64.toBitVec_inj.mp ?_
  refine BitVec.eq_of_toNat_eq ?_
  have h1 : (Int64.ofNat V).toBitVec = BitVec.ofNat 64 V := rfl
  have h2 : (Int64.ofNat X).toBitVec = BitVec.ofNat 64 X := rfl
  have h3 : (Int64.ofNat (32 * V + X)).toBitVec = BitVec.ofNat 64 (32 * V + X) := rfl
  rw [Int64.toBitVec_or, Int64.toBitVec_shiftLeft, h1, h2, h3]
  have e6 : (Int64.toBitVec 5).smod 64 = BitVec.ofNat 64 5 := by decide
  rw [e6, BitVec.toNat_or]
  have e7 : (BitVec.ofNat 64 V <<< BitVec.ofNat 64 5).toNat = V <<< 5 := by
    rw [BitVec.shiftLeft_eq', BitVec.toNat_shiftLeft, BitVec.toNat_ofNat, BitVec.toNat_ofNat]
    have : (5 % 2 ^ 64) = 5 := by decide
    rw [this, Nat.mod_eq_of_lt (a := V) (by omega), Nat.shiftLeft_eq]
    exact Nat.mod_eq_of_lt (by omega)
  rw [e7, BitVec.toNat_ofNat, BitVec.toNat_ofNat, Nat.mod_eq_of_lt (a := X) (by omega), Nat.mod_eq_of_lt (a := 32 * V + X) (by omega), ← Nat.shiftLeft_add_eq_or_of_lt (by omega : X < 2 ^ 5), Nat.shiftLeft_eq]
  omega
theorem cnL_lt : ∀ (w : List Int32) (v k : Nat), w.all isLt = true → v < 32 ^ k → w.foldl (fun v b => 32 * v + (b.toInt.toNat - 96)) v < 32 ^ (k + w.length)
  | [], v, k, _, hv => hv
  | b :: w, v, k, h, hv => by
    simp only [List.all_cons, Bool.and_eq_true] at h
    have hb := isLt_rg h.1
    have := cnL_lt w (32 * v + (b.toInt.toNat - 96)) (k + 1) h.2 (by rw [Nat.pow_succ]; omega)
    show w.foldl _ (32 * v + (b.toInt.toNat - 96)) < 32 ^ (k + (w.length + 1))
    rw [show k + (w.length + 1) = k + 1 + w.length by omega]
    exact this
theorem codeL_n : ∀ (w : List Int32) (v k : Nat), w.all isLt = true → v < 32 ^ k → k + w.length ≤ 8 → w.foldl (fun v b => v <<< ((5 : Int32).toInt64 &&& 63) ||| (b - 97 + 1).toInt64) (Int64.ofNat v) = Int64.ofNat (w.foldl (fun v b => 32 * v + (b.toInt.toNat - 96)) v)
  | [], v, k, _, _, _ => rfl
  | b :: w, v, k, h, hv, hl => by
    simp only [List.all_cons, Bool.and_eq_true] at h
    simp only [List.length_cons] at hl
    obtain ⟨c1, c2⟩ := lt_code h.1
    show w.foldl _ (Int64.ofNat v <<< _ ||| (b - 97 + 1).toInt64) = Int64.ofNat (w.foldl _ (32 * v + (b.toInt.toNat - 96)))
    have hp : 32 ^ k ≤ 32 ^ 7 := Nat.pow_le_pow_right (by decide) (by omega)
    rw [c1, sh5 (by omega) c2]
    exact codeL_n w _ (k + 1) h.2 (by rw [Nat.pow_succ]; omega) (by omega)
theorem foldl_snoc {f : Nat → Int32 → Nat} {w : List Int32} {b : Int32} {v : Nat} : (w ++ [b]).foldl f v = f (w.foldl f v) b := by rw [List.foldl_append]; rfl
theorem nil_or (w : List Int32) : w = [] ∨ ∃ u b, w = u ++ [b] := by
  rcases List.eq_nil_or_concat w with e | ⟨u, b, e⟩
  · exact .inl e
  · exact .inr ⟨u, b, by rw [e, List.concat_eq_append]⟩
theorem cnL_inj : ∀ (k : Nat) (w w' : List Int32), w.length + w'.length ≤ k → w.all isLt = true → w'.all isLt = true → cnL w = cnL w' → w = w' := by
  intro k
  induction k with
  | zero =>
    intro w w' hk _ _ _
    have e1 : w = [] := List.length_eq_zero_iff.mp (by omega)
    have e2 : w' = [] := List.length_eq_zero_iff.mp (by omega)
    rw [e1, e2]
  | succ k ih =>
    intro w w' hk h1 h2 e
    have pos : ∀ (u : List Int32) (b : Int32), (u ++ [b]).all isLt = true → cnL (u ++ [b]) = 32 * cnL u + (b.toInt.toNat - 96) ∧ 1 ≤ b.toInt.toNat - 96 ∧ b.toInt.toNat - 96 < 32 ∧ u.all isLt = true ∧ isLt b = true := by
      intro u b h
      rw [List.all_append, Bool.and_eq_true] at h
      have hb : isLt b = true := by simpa using h.2
      have := isLt_rg hb
      exact ⟨foldl_snoc, by omega, by omega, h.1, hb⟩
    rcases nil_or w with rfl | ⟨u, b, rfl⟩
    · rcases nil_or w' with rfl | ⟨u', b', rfl⟩
      · rfl
      · obtain ⟨q1, q2, q3, q4, -⟩ := pos u' b' h2
        rw [q1] at e
        have e : 0 = 32 * cnL u' + (b'.toInt.toNat - 96) := e
        omega
    · obtain ⟨p1, p2, p3, p4, p5⟩ := pos u b h1
      rcases nil_or w' with rfl | ⟨u', b', rfl⟩
      · rw [p1] at e
        have e : 32 * cnL u + (b.toInt.toNat - 96) = 0 := e
        omega
      · obtain ⟨q1, q2, q3, q4, q5⟩ := pos u' b' h2
        rw [p1, q1] at e
        have eu : u = u' := ih u u' (by simp only [List.length_append, List.length_cons, List.length_nil] at hk; omega) p4 q4 (by omega)
        have r1 := isLt_rg p5
        have r2 := isLt_rg q5
        have eb : b = b' := Int32.toInt_inj.mp (by omega)
        rw [eu, eb]
theorem codeL_inj {w w' : List Int32} (h1 : w.all isLt = true) (h2 : w'.all isLt = true) (l1 : w.length ≤ 8) (l2 : w'.length ≤ 8) (e : codeL w = codeL w') : w = w' := by
  have a1 := codeL_n w 0 0 h1 (by decide) (by omega)
  have a2 := codeL_n w' 0 0 h2 (by decide) (by omega)
  have b1 := cnL_lt w 0 0 h1 (by decide)
  have b2 := cnL_lt w' 0 0 h2 (by decide)
  have c1 : 32 ^ (0 + w.length) ≤ 32 ^ 8 := Nat.pow_le_pow_right (by decide) (by omega)
  have c2 : 32 ^ (0 + w'.length) ≤ 32 ^ 8 := Nat.pow_le_pow_right (by decide) (by omega)
  have e : Int64.ofNat (cnL w) = Int64.ofNat (cnL w') := a1.symm.trans (e.trans a2)
  have e : cnL w = cnL w' := by
    have q := congrArg (fun z : Int64 => z.toBitVec.toNat) e
    have g1 : ((Int64.ofNat (cnL w)).toBitVec).toNat = cnL w % 2 ^ 64 := BitVec.toNat_ofNat _ _
    have g2 : ((Int64.ofNat (cnL w')).toBitVec).toNat = cnL w' % 2 ^ 64 := BitVec.toNat_ofNat _ _
    have q : ((Int64.ofNat (cnL w)).toBitVec).toNat = ((Int64.ofNat (cnL w')).toBitVec).toNat := q
    rw [g1, g2] at q
    unfold cnL at q ⊢
    omega
  exact cnL_inj _ w w' (Nat.le_refl _) h1 h2 e
/-! songs -/
def cnS (w : List Int32) : Nat := w.foldl (fun v b => 4 * v + (b.toInt.toNat - 97)) 0
def isNt (b : Int32) : Bool := decide (97 ≤ b) && decide (b ≤ 100)
theorem isNt_rg {b : Int32} (h : isNt b = true) : 97 ≤ b.toInt ∧ b.toInt ≤ 100 := by
  unfold isNt at h
  simp only [Bool.and_eq_true, decide_eq_true_eq, Int32.le_iff_toInt_le] at h
  exact h
theorem sh2 {V X : Nat} (hV : V < 2 ^ 20) (hX : X < 4) : nI V <<< (2 &&& 31) ||| nI X = nI (4 * V + X) := by
  have e5 : ((2 : Int32) &&& 31) = 2 := by decide
  rw [e5]
  refine Int32.toBitVec_inj.mp ?_
  refine BitVec.eq_of_toNat_eq ?_
  have h1 : (nI V).toBitVec = BitVec.ofNat 32 V := rfl
  have h2 : (nI X).toBitVec = BitVec.ofNat 32 X := rfl
  have h3 : (nI (4 * V + X)).toBitVec = BitVec.ofNat 32 (4 * V + X) := rfl
  rw [Int32.toBitVec_or, Int32.toBitVec_shiftLeft, h1, h2, h3]
  have e6 : (Int32.toBitVec 2).smod 32 = BitVec.ofNat 32 2 := by decide
  rw [e6, BitVec.toNat_or]
  have e7 : (BitVec.ofNat 32 V <<< BitVec.ofNat 32 2).toNat = V <<< 2 := by
    rw [BitVec.shiftLeft_eq', BitVec.toNat_shiftLeft, BitVec.toNat_ofNat, BitVec.toNat_ofNat]
    have : (2 % 2 ^ 32) = 2 := by decide
    rw [this, Nat.mod_eq_of_lt (a := V) (by omega), Nat.shiftLeft_eq]
    exact Nat.mod_eq_of_lt (by omega)
  rw [e7, BitVec.toNat_ofNat, BitVec.toNat_ofNat, Nat.mod_eq_of_lt (a := X) (by omega), Nat.mod_eq_of_lt (a := 4 * V + X) (by omega), ← Nat.shiftLeft_add_eq_or_of_lt (by omega : X < 2 ^ 2), Nat.shiftLeft_eq]
  omega
theorem nt_code {b : Int32} (h : isNt b = true) : b - 97 = nI (b.toInt.toNat - 97) ∧ b.toInt.toNat - 97 < 4 := by
  obtain ⟨h1, h2⟩ := isNt_rg h
  have eb : b = nI (97 + (b.toInt.toNat - 97)) := by
    refine Int32.toInt_inj.mp ?_
    rw [nI_toInt (by omega)]
    omega
  refine ⟨?_, by omega⟩
  have := nI_sub (a := 97 + (b.toInt.toNat - 97)) (b := 97) (by omega)
  rw [← eb, show 97 + (b.toInt.toNat - 97) - 97 = b.toInt.toNat - 97 by omega] at this
  exact this
theorem cnS_lt : ∀ (w : List Int32) (v k : Nat), w.all isNt = true → v < 4 ^ k → w.foldl (fun v b => 4 * v + (b.toInt.toNat - 97)) v < 4 ^ (k + w.length)
  | [], v, k, _, hv => hv
  | b :: w, v, k, h, hv => by
    simp only [List.all_cons, Bool.and_eq_true] at h
    have hb := isNt_rg h.1
    have := cnS_lt w (4 * v + (b.toInt.toNat - 97)) (k + 1) h.2 (by rw [Nat.pow_succ]; omega)
    show w.foldl _ (4 * v + (b.toInt.toNat - 97)) < 4 ^ (k + (w.length + 1))
    rw [show k + (w.length + 1) = k + 1 + w.length by omega]
    exact this
theorem codeS_n : ∀ (w : List Int32) (v k : Nat), w.all isNt = true → v < 4 ^ k → k + w.length ≤ 6 → w.foldl (fun (v b : Int32) => v <<< (2 &&& 31) ||| (b - 97)) (nI v) = nI (w.foldl (fun v b => 4 * v + (b.toInt.toNat - 97)) v)
  | [], v, k, _, _, _ => rfl
  | b :: w, v, k, h, hv, hl => by
    simp only [List.all_cons, Bool.and_eq_true] at h
    simp only [List.length_cons] at hl
    obtain ⟨c1, c2⟩ := nt_code h.1
    show w.foldl (fun (v b : Int32) => v <<< (2 &&& 31) ||| (b - 97)) (nI v <<< (2 &&& 31) ||| (b - 97)) = nI (w.foldl (fun v b => 4 * v + (b.toInt.toNat - 97)) (4 * v + (b.toInt.toNat - 97)))
    have hp : 4 ^ k ≤ 4 ^ 5 := Nat.pow_le_pow_right (by decide) (by omega)
    rw [c1, sh2 (by omega) c2]
    exact codeS_n w _ (k + 1) h.2 (by rw [Nat.pow_succ]; omega) (by omega)
theorem cnS_inj : ∀ (w w' : List Int32) (v v' : Nat), w.length = w'.length → w.all isNt = true → w'.all isNt = true → w.foldl (fun v b => 4 * v + (b.toInt.toNat - 97)) v = w'.foldl (fun v b => 4 * v + (b.toInt.toNat - 97)) v' → v = v' ∧ w = w'
  | [], [], v, v', _, _, _, e => ⟨e, rfl⟩
  | [], _ :: _, _, _, h, _, _, _ => by cases h
  | _ :: _, [], _, _, h, _, _, _ => by cases h
  | b :: w, b' :: w', v, v', hl, h1, h2, e => by
    simp only [List.all_cons, Bool.and_eq_true] at h1 h2
    simp only [List.length_cons] at hl
    obtain ⟨q1, q2⟩ := cnS_inj w w' _ _ (by omega) h1.2 h2.2 e
    have q1 : 4 * v + (b.toInt.toNat - 97) = 4 * v' + (b'.toInt.toNat - 97) := q1
    have r1 := isNt_rg h1.1
    have r2 := isNt_rg h2.1
    have eb : b = b' := Int32.toInt_inj.mp (by omega)
    exact ⟨by omega, by rw [eb, q2]⟩
theorem codeS_inj {w w' : List Int32} (h1 : w.all isNt = true) (h2 : w'.all isNt = true) (l1 : w.length ≤ 6) (l2 : w.length = w'.length) (e : codeS w = codeS w') : w = w' := by
  have a1 := codeS_n w 0 0 h1 (by decide) (by omega)
  have a2 := codeS_n w' 0 0 h2 (by decide) (by omega)
  have b1 := cnS_lt w 0 0 h1 (by decide)
  have b2 := cnS_lt w' 0 0 h2 (by decide)
  have c1 : 4 ^ (0 + w.length) ≤ 4 ^ 6 := Nat.pow_le_pow_right (by decide) (by omega)
  have c2 : 4 ^ (0 + w'.length) ≤ 4 ^ 6 := Nat.pow_le_pow_right (by decide) (by omega)
  have e := congrArg Int32.toInt (a1.symm.trans (e.trans a2))
  rw [nI_toInt (by omega), nI_toInt (by omega)] at e
  exact (cnS_inj w w' 0 0 l2 h1 h2 (by omega)).2
