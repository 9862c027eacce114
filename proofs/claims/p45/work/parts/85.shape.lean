/-! what a run keeps: the shapes of the cells that were there -/
section ZMG
variable {pc len : Nat} {ls : zL} {st : List zV} {h : zH} {x : zC ⊕ zR}
def zge (h h' : zH) : Prop := ∀ (a : Nat) (q : Nat × Nat), zsh h a = some q → zsh h' a = some q
theorem zge.rf : zge h h := fun _ _ q => q
theorem zge.tr {a b c : zH} (h1 : zge a b) (h2 : zge b c) : zge a c := fun x q hq => h2 x q (h1 x q hq)
theorem zge.of {a b : zH} (h1 : b.1 = a.1) (_ : b.2.2.2.2 = a.2.2.2.2) : zge a b := by
  intro x q hq
  unfold zsh at hq ⊢
  rw [h1]
  exact hq
theorem zge_new {k n : Nat} : zge h (znew h k n) := by
  intro x q hq
  have h1 := zsh_lt hq
  have h2 := zsh_eq hq
  show (if x < h.1.1 + 1 then some (if x = h.1.1 then (k, n) else h.1.2.1 x) else none) = some q
  rw [if_pos (by omega), if_neg (by omega), h2]
theorem zge_thr : zge h (zthr h) := fun _ _ q => q
theorem zldv_g {m : zM} {ca k : Nat} (hz : zldv m ca k len pc ls st h = some x) : zge h (zhp x) := by
  unfold zldv at hz
  split at hz
  · split at hz
    · cases hz; exact zge.rf
    · cases hz
  · cases hz
theorem zload_g {so k : Nat} (hz : zload so k len pc ls st h = some x) : zge h (zhp x) := by
  unfold zload at hz
  split at hz
  · split at hz
    · cases hz; exact zge.rf
    · cases hz
  · split at hz
    · cases hz; exact zge.rf
    · cases hz
  · split at hz
    · cases hz; exact zge.rf
    · cases hz
  · cases hz
theorem zstore_g {m : zM} {so k : Nat} (hz : zstore m so k len pc ls st h = some x) : zge h (zhp x) := by
  unfold zstore at hz
  split at hz
  · split at hz
    · cases hz; exact zge.rf
    · cases hz
  · split at hz
    · cases hz; exact zge.rf
    · cases hz
  · split at hz
    · cases hz; exact zge.rf
    · cases hz
  · cases hz
theorem zarith_g {i : Instr} (hz : zarith i len pc ls st h = some x) : zge h (zhp x) := by
  unfold zarith at hz
  split at hz
  · split at hz
    · cases hz; exact zge.rf
    · split at hz
      · cases hz; exact zge.rf
      · cases hz
  · split at hz
    · cases hz; exact zge.rf
    · cases hz
  · split at hz
    · cases hz; exact zge.rf
    · cases hz
  · cases hz
theorem zjump_g {off : Int} (hz : zjump pc off ls st h = some x) : zge h (zhp x) := by
  unfold zjump at hz
  split at hz
  · cases hz; exact zge.rf
  · cases hz
theorem zbr_g {b : Bool} {off : Int} (hz : zbr b pc len off ls st h = some x) : zge h (zhp x) := by
  unfold zbr at hz
  split at hz
  · split at hz
    · cases hz; exact zge.rf
    · cases hz; exact zge.rf
  · cases hz
theorem zput_g {ci a f : Nat} {v : zV} {h' : zH} (hz : zput h ci a f v = some h') : zge h h' := by
  unfold zput at hz
  split at hz
  · split at hz
    · cases hz; exact zge.of rfl rfl
    · cases hz
  · split at hz
    · cases hz; exact zge.of rfl rfl
    · cases hz
  · cases hz
theorem zst_g {kd a : Nat} {i v : Int32} {h' : zH} (hz : zst h kd a i v = some h') : zge h h' := by
  unfold zst at hz
  split at hz
  · split at hz
    · split at hz
      · cases hz; exact zge.of rfl rfl
      · cases hz
    · cases hz
  · cases hz
theorem zprim_g {deep : Bool} {kd : Nat} (hz : zprim deep kd pc ls st h = some x) : zge h (zhp x) := by
  unfold zprim at hz
  split at hz
  · split at hz
    · split at hz
      · split at hz
        · cases hz; exact zge.rf
        · cases hz
      · cases hz
    · split at hz
      · split at hz
        · split at hz
          · cases hz; exact zge.rf
          · cases hz
        · cases hz
      · split at hz
        · split at hz
          · split at hz
            · cases hz; exact zge.rf
            · cases hz
          · cases hz
        · split at hz
          · split at hz
            · split at hz
              · cases hz; exact zge.rf
              · cases hz
            · cases hz
          · split at hz
            · unfold zcopy at hz
              split at hz
              · split at hz
                · split at hz
                  · cases hz; exact zge.of rfl rfl
                  · cases hz
                · cases hz
              · cases hz
            · cases hz
  · cases hz
theorem zstr_g {cm : zM} (hz : zstr cm pc ls st h = some x) : zge h (zhp x) := by
  unfold zstr at hz
  split at hz
  · split at hz
    · split at hz
      · cases hz; exact zge.rf
      · cases hz
    · cases hz
  · split at hz
    · split at hz
      · cases hz; exact zge.rf
      · cases hz
    · cases hz
  · cases hz
variable {call : zM → List zV → zH → Option zR}
theorem zcall_g {cm : zM} {kd na : Nat} (hcall : ∀ cm vs hh v hh', call cm vs hh = some (v, hh') → zge hh hh') (hz : zcall call cm kd na pc ls st h = some x) : zge h (zhp x) := by
  unfold zcall at hz
  split at hz
  · split at hz
    · split at hz
      · next r h' q => cases hz; exact hcall _ _ _ _ _ q
      · cases hz
    · split at hz
      · split at hz
        · split at hz
          · split at hz
            · next r h' q => cases hz; exact hcall _ _ _ _ _ q
            · cases hz
          · cases hz
        · cases hz
      · cases hz
  · cases hz
theorem zled_g (hcall : ∀ cm vs hh v hh', call cm vs hh = some (v, hh') → zge hh hh') (hz : zled call pc ls st h = some x) : zge h (zhp x) := by
  unfold zled at hz
  split at hz
  · split at hz
    · split at hz
      · next b h' q => cases hz; exact (hcall _ _ _ _ _ q).tr (zge.of rfl rfl)
      · next b h' q => cases hz; exact hcall _ _ _ _ _ q
      · cases hz
    · cases hz
  · cases hz
theorem zexec_g {scr : Option (Nat × (Nat → Int32))} {deep : Bool} {m : zM} {i : Instr} (hcall : ∀ cm vs hh v hh', call cm vs hh = some (v, hh') → zge hh hh') (hs : zexec scr call deep m i len pc ls st h = some x) : zge h (zhp x) := by
  cases i with
  | iconst n => cases hs; exact zge.rf
  | bipush n => cases hs; exact zge.rf
  | sipush n => cases hs; exact zge.rf
  | lconst n => cases hs; exact zge.rf
  | ldc k => exact zldv_g hs
  | ldc_w k => exact zldv_g hs
  | ldc2_w k => exact zldv_g hs
  | iload k => exact zload_g hs
  | iload_n k => exact zload_g hs
  | lload k => exact zload_g hs
  | lload_n k => exact zload_g hs
  | aload k => exact zload_g hs
  | aload_n k => exact zload_g hs
  | istore k => exact zstore_g hs
  | istore_n k => exact zstore_g hs
  | lstore k => exact zstore_g hs
  | lstore_n k => exact zstore_g hs
  | astore k => exact zstore_g hs
  | astore_n k => exact zstore_g hs
  | iinc k n =>
    simp only [zexec] at hs
    split at hs
    · split at hs
      · cases hs; exact zge.rf
      · cases hs
    · cases hs
  | lshl =>
    simp only [zexec] at hs
    split at hs
    · cases hs; exact zge.rf
    · cases hs
  | ifCond cd off =>
    simp only [zexec] at hs
    split at hs
    · exact zbr_g hs
    · cases hs
  | if_icmp cd off =>
    simp only [zexec] at hs
    split at hs
    · exact zbr_g hs
    · cases hs
  | goto off => exact zjump_g hs
  | tableswitch df lo hi offs =>
    simp only [zexec] at hs
    split at hs
    · split at hs
      · exact zjump_g hs
      · split at hs
        · exact zjump_g hs
        · cases hs
    · cases hs
  | getfield k =>
    simp only [zexec] at hs
    split at hs
    · split at hs
      · split at hs
        · cases hs; exact zge.rf
        · cases hs
      · cases hs
    · cases hs
  | putfield k =>
    simp only [zexec] at hs
    split at hs
    · split at hs
      · split at hs
        · split at hs
          · next h' hp => cases hs; exact zput_g hp
          · cases hs
        · cases hs
      · cases hs
    · cases hs
  | iaload =>
    simp only [zexec] at hs
    split at hs
    · split at hs
      · cases hs; exact zge.rf
      · cases hs
    · cases hs
  | baload =>
    simp only [zexec] at hs
    split at hs
    · split at hs
      · cases hs; exact zge.rf
      · cases hs
    · cases hs
  | laload =>
    simp only [zexec] at hs
    split at hs
    · split at hs
      · split at hs
        · cases hs; exact zge.rf
        · cases hs
      · cases hs
    · cases hs
  | aaload =>
    simp only [zexec] at hs
    split at hs
    · split at hs
      · split at hs
        · cases hs; exact zge.rf
        · cases hs
      · cases hs
    · cases hs
  | iastore =>
    simp only [zexec] at hs
    split at hs
    · split at hs
      · next h' hv => cases hs; exact zst_g hv
      · cases hs
    · cases hs
  | bastore =>
    simp only [zexec] at hs
    split at hs
    · split at hs
      · next h' hv => cases hs; exact zst_g hv
      · cases hs
    · cases hs
  | lastore =>
    simp only [zexec] at hs
    split at hs
    · split at hs
      · split at hs
        · cases hs; exact zge.of rfl rfl
        · cases hs
      · cases hs
    · cases hs
  | aastore =>
    simp only [zexec] at hs
    split at hs
    · split at hs
      · split at hs
        · cases hs; exact zge.of rfl rfl
        · cases hs
      · cases hs
    · cases hs
  | arraylength =>
    simp only [zexec] at hs
    split at hs
    · split at hs
      · cases hs; exact zge.rf
      · cases hs
    · cases hs
  | new k =>
    simp only [zexec] at hs
    split at hs
    · split at hs
      · split at hs
        · cases hs; exact zge_new
        · cases hs
      · split at hs
        · cases hs; exact zge_thr
        · cases hs
    · cases hs
  | newarray t =>
    simp only [zexec] at hs
    split at hs
    · split at hs
      · split at hs
        · cases hs; exact zge_new
        · cases hs; exact zge_new
        · cases hs; exact zge_new
        · cases hs
      · cases hs
    · cases hs
  | anewarray k =>
    simp only [zexec] at hs
    split at hs
    · split at hs
      · split at hs
        · split at hs
          · cases hs; exact zge_new
          · cases hs
        · cases hs
      · cases hs
    · cases hs
  | dup =>
    simp only [zexec] at hs
    split at hs
    · split at hs
      · cases hs; exact zge.rf
      · cases hs
    · cases hs
  | dup2 =>
    simp only [zexec] at hs
    split at hs
    · split at hs
      · cases hs; exact zge.rf
      · cases hs
    · cases hs
  | pop =>
    simp only [zexec] at hs
    split at hs
    · split at hs
      · cases hs; exact zge.rf
      · cases hs
    · cases hs
  | pop2 =>
    simp only [zexec] at hs
    split at hs
    · split at hs
      · cases hs; exact zge.rf
      · cases hs
    · cases hs
  | invokevirtual k =>
    simp only [zexec] at hs
    split at hs
    · split at hs
      · split at hs
        · exact zstr_g hs
        · exact zcall_g hcall hs
      · cases hs
    · cases hs
  | getstatic k =>
    simp only [zexec] at hs
    split at hs
    · cases hs; exact zge.rf
    · cases hs
  | invokestatic k =>
    simp only [zexec] at hs
    split at hs
    · split at hs
      · exact zcall_g hcall hs
      · split at hs
        · split at hs
          · exact zled_g hcall hs
          · cases hs
        · split at hs
          · cases hs
          · exact zprim_g hs
    · cases hs
  | invokespecial k =>
    simp only [zexec] at hs
    split at hs
    · split at hs
      · exact zcall_g hcall hs
      · split at hs
        · exact zprim_g hs
        · cases hs
    · cases hs
  | ireturn =>
    simp only [zexec] at hs
    split at hs
    · split at hs
      · split at hs
        · cases hs; exact zge.rf
        · cases hs
      · cases hs
    · cases hs
  | lreturn =>
    simp only [zexec] at hs
    split at hs
    · split at hs
      · cases hs; exact zge.rf
      · cases hs
    · cases hs
  | return_ =>
    simp only [zexec] at hs
    split at hs
    · split at hs
      · cases hs; exact zge.rf
      · cases hs
    · cases hs
  | _ => simp only [zexec] at hs; exact zarith_g hs
end ZMG
theorem zrun_g : ∀ (n : Nat) (scr : Option (Nat × (Nat → Int32))) (d : Nat) (m : zM) (g : zC) (v : Option zV) (h' : zH), zrun n scr d m g = some (v, h') → zge g.2.2.2 h' := by
  intro n
  induction n with
  | zero => intro scr d m g v h' hz; cases hz
  | succ n ih =>
    intro scr d m g v h' hz
    unfold zrun at hz
    have hcall : ∀ cm vs hh v hh', (fun (k : zM) (vs : List zV) (h : zH) => (match d with
      | 0 => none
      | d' + 1 => if zwd vs ≤ k.2.2.1 then zrun n none d' k (0, zargs 0 vs, [], h) else none : Option zR)) cm vs hh = some (v, hh') → zge hh hh' := by
      intro cm vs hh v hh' hq
      dsimp only at hq
      split at hq
      · cases hq
      · split at hq
        · exact ih _ _ _ _ _ _ hq
        · cases hq
    split at hz
    · next g' hs =>
      unfold zstep at hs
      split at hs
      · split at hs
        · exact (zexec_g hcall hs).tr (ih _ _ _ _ _ _ hz)
        · cases hs
      · cases hs
    · next r hs =>
      cases hz
      unfold zstep at hs
      split at hs
      · split at hs
        · exact zexec_g hcall hs
        · cases hs
      · cases hs
    · cases hz
