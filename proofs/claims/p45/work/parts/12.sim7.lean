/-! runs -/
def zhp (x : zC ⊕ zR) : zH := match x with
  | .inl g => g.2.2.2
  | .inr r => r.2
section ZM
variable {pc len : Nat} {ls : zL} {st : List zV} {h : zH} {x : zC ⊕ zR}
def zle (h h' : zH) : Prop := zc h ≤ zc h' ∧ zt h ≤ zt h'
theorem zle.rf : zle h h := ⟨Nat.le_refl _, Nat.le_refl _⟩
theorem zle.tr {a b c : zH} (h1 : zle a b) (h2 : zle b c) : zle a c := ⟨Nat.le_trans h1.1 h2.1, Nat.le_trans h1.2 h2.2⟩
theorem zle.of {a b : zH} (h1 : b.1 = a.1) (h2 : b.2.2.2.2 = a.2.2.2.2) : zle a b := by
  unfold zle zc zt
  rw [h1, h2]
  exact ⟨Nat.le_refl _, Nat.le_refl _⟩
theorem zle_new {k n : Nat} : zle h (znew h k n) := ⟨by rw [zc_new]; omega, by rw [zt_new]; omega⟩
theorem zle_thr : zle h (zthr h) := by
  refine ⟨?_, ?_⟩
  · show h.1.1 + h.2.2.2.2 ≤ h.1.1 + (h.2.2.2.2 + 1)
    omega
  · show h.1.2.2 + 6 * h.2.2.2.2 ≤ h.1.2.2 + 6 * (h.2.2.2.2 + 1)
    omega
theorem zldv_h {m : zM} {ca k : Nat} (hz : zldv m ca k len pc ls st h = some x) : zle h (zhp x) := by
  unfold zldv at hz
  split at hz
  · split at hz
    · cases hz; exact zle.rf
    · cases hz
  · cases hz
theorem zload_h {so k : Nat} (hz : zload so k len pc ls st h = some x) : zle h (zhp x) := by
  unfold zload at hz
  split at hz
  · split at hz
    · cases hz; exact zle.rf
    · cases hz
  · split at hz
    · cases hz; exact zle.rf
    · cases hz
  · split at hz
    · cases hz; exact zle.rf
    · cases hz
  · cases hz
theorem zstore_h {m : zM} {so k : Nat} (hz : zstore m so k len pc ls st h = some x) : zle h (zhp x) := by
  unfold zstore at hz
  split at hz
  · split at hz
    · cases hz; exact zle.rf
    · cases hz
  · split at hz
    · cases hz; exact zle.rf
    · cases hz
  · split at hz
    · cases hz; exact zle.rf
    · cases hz
  · cases hz
theorem zarith_h {i : Instr} (hz : zarith i len pc ls st h = some x) : zle h (zhp x) := by
  unfold zarith at hz
  split at hz
  · split at hz
    · cases hz; exact zle.rf
    · split at hz
      · cases hz; exact zle.rf
      · cases hz
  · split at hz
    · cases hz; exact zle.rf
    · cases hz
  · split at hz
    · cases hz; exact zle.rf
    · cases hz
  · cases hz
theorem zjump_h {off : Int} (hz : zjump pc off ls st h = some x) : zle h (zhp x) := by
  unfold zjump at hz
  split at hz
  · cases hz; exact zle.rf
  · cases hz
theorem zbr_h {b : Bool} {off : Int} (hz : zbr b pc len off ls st h = some x) : zle h (zhp x) := by
  unfold zbr at hz
  split at hz
  · split at hz
    · cases hz; exact zle.rf
    · cases hz; exact zle.rf
  · cases hz
theorem zput_h {ci a f : Nat} {v : zV} {h' : zH} (hz : zput h ci a f v = some h') : zle h h' := by
  unfold zput at hz
  split at hz
  · split at hz
    · cases hz; exact zle.of rfl rfl
    · cases hz
  · split at hz
    · cases hz; exact zle.of rfl rfl
    · cases hz
  · cases hz
theorem zst_h {kd a : Nat} {i v : Int32} {h' : zH} (hz : zst h kd a i v = some h') : zle h h' := by
  unfold zst at hz
  split at hz
  · split at hz
    · split at hz
      · cases hz; exact zle.of rfl rfl
      · cases hz
    · cases hz
  · cases hz
theorem zprim_h {deep : Bool} {kd : Nat} (hz : zprim deep kd pc ls st h = some x) : zle h (zhp x) := by
  unfold zprim at hz
  split at hz
  · split at hz
    · split at hz
      · split at hz
        · cases hz; exact zle.rf
        · cases hz
      · cases hz
    · split at hz
      · split at hz
        · split at hz
          · cases hz; exact zle.rf
          · cases hz
        · cases hz
      · split at hz
        · split at hz
          · split at hz
            · cases hz; exact zle.rf
            · cases hz
          · cases hz
        · split at hz
          · split at hz
            · split at hz
              · cases hz; exact zle.rf
              · cases hz
            · cases hz
          · split at hz
            · unfold zcopy at hz
              split at hz
              · split at hz
                · split at hz
                  · cases hz; exact zle.of rfl rfl
                  · cases hz
                · cases hz
              · cases hz
            · cases hz
  · cases hz
theorem zstr_h {cm : zM} (hz : zstr cm pc ls st h = some x) : zle h (zhp x) := by
  unfold zstr at hz
  split at hz
  · split at hz
    · split at hz
      · cases hz; exact zle.rf
      · cases hz
    · cases hz
  · split at hz
    · split at hz
      · cases hz; exact zle.rf
      · cases hz
    · cases hz
  · cases hz
variable {call : zM → List zV → zH → Option zR}
theorem zcall_h {cm : zM} {kd na : Nat} (hcall : ∀ cm vs hh v hh', call cm vs hh = some (v, hh') → zle hh hh') (hz : zcall call cm kd na pc ls st h = some x) : zle h (zhp x) := by
  unfold zcall at hz
  split at hz
  · split at hz
    · split at hz
      · next r h' q => cases hz; exact hcall _ _ _ _ _ q
      · cases hz
    · split at hz
      · split at hz
        · split at hz
          · split at hz
            · next r h' q => cases hz; exact hcall _ _ _ _ _ q
            · cases hz
          · cases hz
        · cases hz
      · cases hz
  · cases hz
theorem zled_h (hcall : ∀ cm vs hh v hh', call cm vs hh = some (v, hh') → zle hh hh') (hz : zled call pc ls st h = some x) : zle h (zhp x) := by
  unfold zled at hz
  split at hz
  · split at hz
    · split at hz
      · next b h' q => cases hz; exact (hcall _ _ _ _ _ q).tr (zle.of rfl rfl)
      · next b h' q => cases hz; exact hcall _ _ _ _ _ q
      · cases hz
    · cases hz
  · cases hz
theorem zexec_h {scr : Option (Nat × (Nat → Int32))} {deep : Bool} {m : zM} {i : Instr} (hcall : ∀ cm vs hh v hh', call cm vs hh = some (v, hh') → zle hh hh') (hs : zexec scr call deep m i len pc ls st h = some x) : zle h (zhp x) := by
  cases i with
  | iconst n => cases hs; exact zle.rf
  | bipush n => cases hs; exact zle.rf
  | sipush n => cases hs; exact zle.rf
  | lconst n => cases hs; exact zle.rf
  | ldc k => exact zldv_h hs
  | ldc_w k => exact zldv_h hs
  | ldc2_w k => exact zldv_h hs
  | iload k => exact zload_h hs
  | iload_n k => exact zload_h hs
  | lload k => exact zload_h hs
  | lload_n k => exact zload_h hs
  | aload k => exact zload_h hs
  | aload_n k => exact zload_h hs
  | istore k => exact zstore_h hs
  | istore_n k => exact zstore_h hs
  | lstore k => exact zstore_h hs
  | lstore_n k => exact zstore_h hs
  | astore k => exact zstore_h hs
  | astore_n k => exact zstore_h hs
  | iinc k n =>
    simp only [zexec] at hs
    split at hs
    · split at hs
      · cases hs; exact zle.rf
      · cases hs
    · cases hs
  | lshl =>
    simp only [zexec] at hs
    split at hs
    · cases hs; exact zle.rf
    · cases hs
  | ifCond cd off =>
    simp only [zexec] at hs
    split at hs
    · exact zbr_h hs
    · cases hs
  | if_icmp cd off =>
    simp only [zexec] at hs
    split at hs
    · exact zbr_h hs
    · cases hs
  | goto off => exact zjump_h hs
  | tableswitch df lo hi offs =>
    simp only [zexec] at hs
    split at hs
    · split at hs
      · exact zjump_h hs
      · split at hs
        · exact zjump_h hs
        · cases hs
    · cases hs
  | getfield k =>
    simp only [zexec] at hs
    split at hs
    · split at hs
      · split at hs
        · cases hs; exact zle.rf
        · cases hs
      · cases hs
    · cases hs
  | putfield k =>
    simp only [zexec] at hs
    split at hs
    · split at hs
      · split at hs
        · split at hs
          · next h' hp => cases hs; exact zput_h hp
          · cases hs
        · cases hs
      · cases hs
    · cases hs
  | iaload =>
    simp only [zexec] at hs
    split at hs
    · split at hs
      · cases hs; exact zle.rf
      · cases hs
    · cases hs
  | baload =>
    simp only [zexec] at hs
    split at hs
    · split at hs
      · cases hs; exact zle.rf
      · cases hs
    · cases hs
  | laload =>
    simp only [zexec] at hs
    split at hs
    · split at hs
      · split at hs
        · cases hs; exact zle.rf
        · cases hs
      · cases hs
    · cases hs
  | aaload =>
    simp only [zexec] at hs
    split at hs
    · split at hs
      · split at hs
        · cases hs; exact zle.rf
        · cases hs
      · cases hs
    · cases hs
  | iastore =>
    simp only [zexec] at hs
    split at hs
    · split at hs
      · next h' hv => cases hs; exact zst_h hv
      · cases hs
    · cases hs
  | bastore =>
    simp only [zexec] at hs
    split at hs
    · split at hs
      · next h' hv => cases hs; exact zst_h hv
      · cases hs
    · cases hs
  | lastore =>
    simp only [zexec] at hs
    split at hs
    · split at hs
      · split at hs
        · cases hs; exact zle.of rfl rfl
        · cases hs
      · cases hs
    · cases hs
  | aastore =>
    simp only [zexec] at hs
    split at hs
    · split at hs
      · split at hs
        · cases hs; exact zle.of rfl rfl
        · cases hs
      · cases hs
    · cases hs
  | arraylength =>
    simp only [zexec] at hs
    split at hs
    · split at hs
      · cases hs; exact zle.rf
      · cases hs
    · cases hs
  | new k =>
    simp only [zexec] at hs
    split at hs
    · split at hs
      · split at hs
        · cases hs; exact zle_new
        · cases hs
      · split at hs
        · cases hs; exact zle_thr
        · cases hs
    · cases hs
  | newarray t =>
    simp only [zexec] at hs
    split at hs
    · split at hs
      · split at hs
        · cases hs; exact zle_new
        · cases hs; exact zle_new
        · cases hs; exact zle_new
        · cases hs
      · cases hs
    · cases hs
  | anewarray k =>
    simp only [zexec] at hs
    split at hs
    · split at hs
      · split at hs
        · split at hs
          · cases hs; exact zle_new
          · cases hs
        · cases hs
      · cases hs
    · cases hs
  | dup =>
    simp only [zexec] at hs
    split at hs
    · split at hs
      · cases hs; exact zle.rf
      · cases hs
    · cases hs
  | dup2 =>
    simp only [zexec] at hs
    split at hs
    · split at hs
      · cases hs; exact zle.rf
      · cases hs
    · cases hs
  | pop =>
    simp only [zexec] at hs
    split at hs
    · split at hs
      · cases hs; exact zle.rf
      · cases hs
    · cases hs
  | pop2 =>
    simp only [zexec] at hs
    split at hs
    · split at hs
      · cases hs; exact zle.rf
      · cases hs
    · cases hs
  | invokevirtual k =>
    simp only [zexec] at hs
    split at hs
    · split at hs
      · split at hs
        · exact zstr_h hs
        · exact zcall_h hcall hs
      · cases hs
    · cases hs
  | getstatic k =>
    simp only [zexec] at hs
    split at hs
    · cases hs; exact zle.rf
    · cases hs
  | invokestatic k =>
    simp only [zexec] at hs
    split at hs
    · split at hs
      · exact zcall_h hcall hs
      · split at hs
        · split at hs
          · exact zled_h hcall hs
          · cases hs
        · split at hs
          · cases hs
          · exact zprim_h hs
    · cases hs
  | invokespecial k =>
    simp only [zexec] at hs
    split at hs
    · split at hs
      · exact zcall_h hcall hs
      · split at hs
        · exact zprim_h hs
        · cases hs
    · cases hs
  | ireturn =>
    simp only [zexec] at hs
    split at hs
    · split at hs
      · split at hs
        · cases hs; exact zle.rf
        · cases hs
      · cases hs
    · cases hs
  | lreturn =>
    simp only [zexec] at hs
    split at hs
    · split at hs
      · cases hs; exact zle.rf
      · cases hs
    · cases hs
  | return_ =>
    simp only [zexec] at hs
    split at hs
    · split at hs
      · cases hs; exact zle.rf
      · cases hs
    · cases hs
  | _ => simp only [zexec] at hs; exact zarith_h hs
end ZM
theorem zrun_h : ∀ (n : Nat) (scr : Option (Nat × (Nat → Int32))) (d : Nat) (m : zM) (g : zC) (v : Option zV) (h' : zH), zrun n scr d m g = some (v, h') → zle g.2.2.2 h' := by
  intro n
  induction n with
  | zero => intro scr d m g v h' hz; cases hz
  | succ n ih =>
    intro scr d m g v h' hz
    unfold zrun at hz
    have hcall : ∀ cm vs hh v hh', (fun (k : zM) (vs : List zV) (h : zH) => (match d with
      | 0 => none
      | d' + 1 => if zwd vs ≤ k.2.2.1 then zrun n none d' k (0, zargs 0 vs, [], h) else none : Option zR)) cm vs hh = some (v, hh') → zle hh hh' := by
      intro cm vs hh v hh' hq
      dsimp only at hq
      split at hq
      · cases hq
      · split at hq
        · exact ih _ _ _ _ _ _ hq
        · cases hq
    split at hz
    · next g' hs =>
      unfold zstep at hs
      split at hs
      · split at hs
        · exact (zexec_h hcall hs).tr (ih _ _ _ _ _ _ hz)
        · cases hs
      · cases hs
    · next r hs =>
      cases hz
      unfold zstep at hs
      split at hs
      · split at hs
        · exact zexec_h hcall hs
        · cases hs
      · cases hs
    · cases hz
section ZI
variable {pc len : Nat} {ls : zL} {st : List zV} {h : zH} {x : zC ⊕ zR}
theorem zldv_i {m : zM} {ca k : Nat} (hz : zldv m ca k len pc ls st h = some x) : ∃ g, x = .inl g := by
  unfold zldv at hz
  split at hz
  · split at hz
    · cases hz; exact ⟨_, rfl⟩
    · cases hz
  · cases hz
theorem zload_i {so k : Nat} (hz : zload so k len pc ls st h = some x) : ∃ g, x = .inl g := by
  unfold zload at hz
  split at hz
  · split at hz
    · cases hz; exact ⟨_, rfl⟩
    · cases hz
  · split at hz
    · cases hz; exact ⟨_, rfl⟩
    · cases hz
  · split at hz
    · cases hz; exact ⟨_, rfl⟩
    · cases hz
  · cases hz
theorem zstore_i {m : zM} {so k : Nat} (hz : zstore m so k len pc ls st h = some x) : ∃ g, x = .inl g := by
  unfold zstore at hz
  split at hz
  · split at hz
    · cases hz; exact ⟨_, rfl⟩
    · cases hz
  · split at hz
    · cases hz; exact ⟨_, rfl⟩
    · cases hz
  · split at hz
    · cases hz; exact ⟨_, rfl⟩
    · cases hz
  · cases hz
theorem zarith_i {i : Instr} (hz : zarith i len pc ls st h = some x) : ∃ g, x = .inl g := by
  unfold zarith at hz
  split at hz
  · split at hz
    · cases hz; exact ⟨_, rfl⟩
    · split at hz
      · cases hz; exact ⟨_, rfl⟩
      · cases hz
  · split at hz
    · cases hz; exact ⟨_, rfl⟩
    · cases hz
  · split at hz
    · cases hz; exact ⟨_, rfl⟩
    · cases hz
  · cases hz
theorem zjump_i {off : Int} (hz : zjump pc off ls st h = some x) : ∃ g, x = .inl g := by
  unfold zjump at hz
  split at hz
  · cases hz; exact ⟨_, rfl⟩
  · cases hz
theorem zbr_i {b : Bool} {off : Int} (hz : zbr b pc len off ls st h = some x) : ∃ g, x = .inl g := by
  unfold zbr at hz
  split at hz
  · split at hz
    · cases hz; exact ⟨_, rfl⟩
    · cases hz; exact ⟨_, rfl⟩
  · cases hz
theorem zprim_i {deep : Bool} {kd : Nat} (hz : zprim deep kd pc ls st h = some x) : ∃ g, x = .inl g := by
  unfold zprim at hz
  split at hz
  · split at hz
    · split at hz
      · split at hz
        · cases hz; exact ⟨_, rfl⟩
        · cases hz
      · cases hz
    · split at hz
      · split at hz
        · split at hz
          · cases hz; exact ⟨_, rfl⟩
          · cases hz
        · cases hz
      · split at hz
        · split at hz
          · split at hz
            · cases hz; exact ⟨_, rfl⟩
            · cases hz
          · cases hz
        · split at hz
          · split at hz
            · split at hz
              · cases hz; exact ⟨_, rfl⟩
              · cases hz
            · cases hz
          · split at hz
            · unfold zcopy at hz
              split at hz
              · split at hz
                · split at hz
                  · cases hz; exact ⟨_, rfl⟩
                  · cases hz
                · cases hz
              · cases hz
            · cases hz
  · cases hz
theorem zstr_i {cm : zM} (hz : zstr cm pc ls st h = some x) : ∃ g, x = .inl g := by
  unfold zstr at hz
  split at hz
  · split at hz
    · split at hz
      · cases hz; exact ⟨_, rfl⟩
      · cases hz
    · cases hz
  · split at hz
    · split at hz
      · cases hz; exact ⟨_, rfl⟩
      · cases hz
    · cases hz
  · cases hz
variable {call : zM → List zV → zH → Option zR}
theorem zcall_i {cm : zM} {kd na : Nat} (hz : zcall call cm kd na pc ls st h = some x) : ∃ g, x = .inl g := by
  unfold zcall at hz
  split at hz
  · split at hz
    · split at hz
      · next r h' q => cases hz; exact ⟨_, rfl⟩
      · cases hz
    · split at hz
      · split at hz
        · split at hz
          · split at hz
            · next r h' q => cases hz; exact ⟨_, rfl⟩
            · cases hz
          · cases hz
        · cases hz
      · cases hz
  · cases hz
theorem zled_i (hz : zled call pc ls st h = some x) : ∃ g, x = .inl g := by
  unfold zled at hz
  split at hz
  · split at hz
    · split at hz
      · next b h' q => cases hz; exact ⟨_, rfl⟩
      · next b h' q => cases hz; exact ⟨_, rfl⟩
      · cases hz
    · cases hz
  · cases hz
theorem zexec_i {scr : Option (Nat × (Nat → Int32))} {deep : Bool} {m : zM} {i : Instr} (hy : m.2.2.2.2.1 ≠ yX11_led) (h1 : i ≠ .ireturn) (h2 : i ≠ .lreturn) (h3 : i ≠ .return_) (hs : zexec scr call deep m i len pc ls st h = some x) : ∃ g, x = .inl g := by
  cases i with
  | iconst n => cases hs; exact ⟨_, rfl⟩
  | bipush n => cases hs; exact ⟨_, rfl⟩
  | sipush n => cases hs; exact ⟨_, rfl⟩
  | lconst n => cases hs; exact ⟨_, rfl⟩
  | ldc k => exact zldv_i hs
  | ldc_w k => exact zldv_i hs
  | ldc2_w k => exact zldv_i hs
  | iload k => exact zload_i hs
  | iload_n k => exact zload_i hs
  | lload k => exact zload_i hs
  | lload_n k => exact zload_i hs
  | aload k => exact zload_i hs
  | aload_n k => exact zload_i hs
  | istore k => exact zstore_i hs
  | istore_n k => exact zstore_i hs
  | lstore k => exact zstore_i hs
  | lstore_n k => exact zstore_i hs
  | astore k => exact zstore_i hs
  | astore_n k => exact zstore_i hs
  | iinc k n =>
    simp only [zexec] at hs
    split at hs
    · split at hs
      · cases hs; exact ⟨_, rfl⟩
      · cases hs
    · cases hs
  | lshl =>
    simp only [zexec] at hs
    split at hs
    · cases hs; exact ⟨_, rfl⟩
    · cases hs
  | ifCond cd off =>
    simp only [zexec] at hs
    split at hs
    · exact zbr_i hs
    · cases hs
  | if_icmp cd off =>
    simp only [zexec] at hs
    split at hs
    · exact zbr_i hs
    · cases hs
  | goto off => exact zjump_i hs
  | tableswitch df lo hi offs =>
    simp only [zexec] at hs
    split at hs
    · split at hs
      · exact zjump_i hs
      · split at hs
        · exact zjump_i hs
        · cases hs
    · cases hs
  | getfield k =>
    simp only [zexec] at hs
    split at hs
    · split at hs
      · split at hs
        · cases hs; exact ⟨_, rfl⟩
        · cases hs
      · cases hs
    · cases hs
  | putfield k =>
    simp only [zexec] at hs
    split at hs
    · split at hs
      · split at hs
        · split at hs
          · next h' hp => cases hs; exact ⟨_, rfl⟩
          · cases hs
        · cases hs
      · cases hs
    · cases hs
  | iaload =>
    simp only [zexec] at hs
    split at hs
    · split at hs
      · cases hs; exact ⟨_, rfl⟩
      · cases hs
    · cases hs
  | baload =>
    simp only [zexec] at hs
    split at hs
    · split at hs
      · cases hs; exact ⟨_, rfl⟩
      · cases hs
    · cases hs
  | laload =>
    simp only [zexec] at hs
    split at hs
    · split at hs
      · split at hs
        · cases hs; exact ⟨_, rfl⟩
        · cases hs
      · cases hs
    · cases hs
  | aaload =>
    simp only [zexec] at hs
    split at hs
    · split at hs
      · split at hs
        · cases hs; exact ⟨_, rfl⟩
        · cases hs
      · cases hs
    · cases hs
  | iastore =>
    simp only [zexec] at hs
    split at hs
    · split at hs
      · next h' hv => cases hs; exact ⟨_, rfl⟩
      · cases hs
    · cases hs
  | bastore =>
    simp only [zexec] at hs
    split at hs
    · split at hs
      · next h' hv => cases hs; exact ⟨_, rfl⟩
      · cases hs
    · cases hs
  | lastore =>
    simp only [zexec] at hs
    split at hs
    · split at hs
      · split at hs
        · cases hs; exact ⟨_, rfl⟩
        · cases hs
      · cases hs
    · cases hs
  | aastore =>
    simp only [zexec] at hs
    split at hs
    · split at hs
      · split at hs
        · cases hs; exact ⟨_, rfl⟩
        · cases hs
      · cases hs
    · cases hs
  | arraylength =>
    simp only [zexec] at hs
    split at hs
    · split at hs
      · cases hs; exact ⟨_, rfl⟩
      · cases hs
    · cases hs
  | new k =>
    simp only [zexec] at hs
    split at hs
    · split at hs
      · split at hs
        · cases hs; exact ⟨_, rfl⟩
        · cases hs
      · split at hs
        · next hq => exact absurd hq.2.1 hy
        · cases hs
    · cases hs
  | newarray t =>
    simp only [zexec] at hs
    split at hs
    · split at hs
      · split at hs
        · cases hs; exact ⟨_, rfl⟩
        · cases hs; exact ⟨_, rfl⟩
        · cases hs; exact ⟨_, rfl⟩
        · cases hs
      · cases hs
    · cases hs
  | anewarray k =>
    simp only [zexec] at hs
    split at hs
    · split at hs
      · split at hs
        · split at hs
          · cases hs; exact ⟨_, rfl⟩
          · cases hs
        · cases hs
      · cases hs
    · cases hs
  | dup =>
    simp only [zexec] at hs
    split at hs
    · split at hs
      · cases hs; exact ⟨_, rfl⟩
      · cases hs
    · cases hs
  | dup2 =>
    simp only [zexec] at hs
    split at hs
    · split at hs
      · cases hs; exact ⟨_, rfl⟩
      · cases hs
    · cases hs
  | pop =>
    simp only [zexec] at hs
    split at hs
    · split at hs
      · cases hs; exact ⟨_, rfl⟩
      · cases hs
    · cases hs
  | pop2 =>
    simp only [zexec] at hs
    split at hs
    · split at hs
      · cases hs; exact ⟨_, rfl⟩
      · cases hs
    · cases hs
  | invokevirtual k =>
    simp only [zexec] at hs
    split at hs
    · split at hs
      · split at hs
        · exact zstr_i hs
        · exact zcall_i hs
      · cases hs
    · cases hs
  | getstatic k =>
    simp only [zexec] at hs
    split at hs
    · cases hs; exact ⟨_, rfl⟩
    · cases hs
  | invokestatic k =>
    simp only [zexec] at hs
    split at hs
    · split at hs
      · exact zcall_i hs
      · split at hs
        · split at hs
          · exact zled_i hs
          · cases hs
        · split at hs
          · cases hs
          · exact zprim_i hs
    · cases hs
  | invokespecial k =>
    simp only [zexec] at hs
    split at hs
    · split at hs
      · exact zcall_i hs
      · split at hs
        · exact zprim_i hs
        · cases hs
    · cases hs
  | ireturn => exact absurd rfl h1
  | lreturn => exact absurd rfl h2
  | return_ => exact absurd rfl h3
  | _ => simp only [zexec] at hs; exact zarith_i hs
end ZI
