/-! the plain machine's steps, calls and runs are the real one's -/
section AmRun
variable {p : Program} {l : Launch} {e : Env} {R : Room} {s : State} {m : MethodId} {args : Array Value} {below : List Frame} {meth : Method} {c : Code} {H : Heap} {locs : List Loc} {cells slots : Nat} {Q : State → Prop}
variable {cc : ByteArray} {cn mx : Nat} {ini : Bool} {z0 : Nat} {sa : Nat → Nat} {dC : Nat → ClassId} {dI : Nat → Nat → Nat} {dA : Nat → ClassId} {pr : am_Pr} {Hz : Heap} {pc : Nat} {ls : Array Slot} {lv : List (Nat × Value)} {st : List Value} {σ : am_H}
set_option maxHeartbeats 4000000 in
theorem am_simple {f : am_Cf} (C : am_C p s m args meth c cc cn mx ini z0 sa dC dI dA pr Hz) (hW : am_Wd z0 sa dC dI dA σ H) (hS : va_S (fun q => z0 ≤ q) s.heap H locs) (hL : am_L (am_rho z0 sa) ls mx lv) {ins : Instr} {len : Nat} (hd : decode cc pc = .ok (ins, len)) (h : am_st1 pr cn mx ini pc lv st σ ins len = some f) (hc : cells + (f.2.2.2.1.length - σ.1.length) ≤ R.cells) (hs : slots + (am_sl f.2.2.2 - am_sl σ) ≤ R.slots) (kk : am_K p l e R s m args below meth c Q mx z0 sa dC dI dA cells slots σ f) : am_G p l e R s m args below meth c Q z0 sa cells slots H locs pc ls st := by
  cases ins with
  | iconst n => exact am_i_iconst C hW hS hL hd h kk
  | bipush n => exact am_i_bipush C hW hS hL hd h kk
  | sipush n => exact am_i_sipush C hW hS hL hd h kk
  | lconst n => exact am_i_lconst C hW hS hL hd h kk
  | aconst_null  => exact am_i_null C hW hS hL hd h kk
  | iload_n k => exact am_i_iload_n C hW hS hL hd h kk
  | iload i => exact am_i_iload C hW hS hL hd h kk
  | lload_n k => exact am_i_lload_n C hW hS hL hd h kk
  | lload i => exact am_i_lload C hW hS hL hd h kk
  | aload_n k => exact am_i_aload_n C hW hS hL hd h kk
  | aload i => exact am_i_aload C hW hS hL hd h kk
  | istore_n k => exact am_i_istore_n C hW hS hL hd h kk
  | istore i => exact am_i_istore C hW hS hL hd h kk
  | lstore_n k => exact am_i_lstore_n C hW hS hL hd h kk
  | lstore i => exact am_i_lstore C hW hS hL hd h kk
  | astore_n k => exact am_i_astore_n C hW hS hL hd h kk
  | astore i => exact am_i_astore C hW hS hL hd h kk
  | iinc i n => exact am_i_iinc C hW hS hL hd h kk
  | iadd  => exact am_i_iadd C hW hS hL hd h kk
  | isub  => exact am_i_isub C hW hS hL hd h kk
  | imul  => exact am_i_imul C hW hS hL hd h kk
  | idiv  => exact am_i_idiv C hW hS hL hd h kk
  | irem  => exact am_i_irem C hW hS hL hd h kk
  | iand  => exact am_i_iand C hW hS hL hd h kk
  | ior  => exact am_i_ior C hW hS hL hd h kk
  | ixor  => exact am_i_ixor C hW hS hL hd h kk
  | ishl  => exact am_i_ishl C hW hS hL hd h kk
  | ishr  => exact am_i_ishr C hW hS hL hd h kk
  | iushr  => exact am_i_iushr C hW hS hL hd h kk
  | ineg  => exact am_i_ineg C hW hS hL hd h kk
  | ladd  => exact am_i_ladd C hW hS hL hd h kk
  | lsub  => exact am_i_lsub C hW hS hL hd h kk
  | lmul  => exact am_i_lmul C hW hS hL hd h kk
  | ldiv  => exact am_i_ldiv C hW hS hL hd h kk
  | lrem  => exact am_i_lrem C hW hS hL hd h kk
  | lcmp  => exact am_i_lcmp C hW hS hL hd h kk
  | i2l  => exact am_i_i2l C hW hS hL hd h kk
  | l2i  => exact am_i_l2i C hW hS hL hd h kk
  | i2b  => exact am_i_i2b C hW hS hL hd h kk
  | i2c  => exact am_i_i2c C hW hS hL hd h kk
  | dup  => exact am_i_dup C hW hS hL hd h kk
  | pop  => exact am_i_pop C hW hS hL hd h kk
  | dup2  => exact am_i_dup2 C hW hS hL hd h kk
  | goto o => exact am_i_goto C hW hS hL hd h kk
  | ifnull o => exact am_i_ifnull C hW hS hL hd h kk
  | ifnonnull o => exact am_i_ifnonnull C hW hS hL hd h kk
  | tableswitch a b c d => exact am_i_tableswitch C hW hS hL hd h kk
  | lookupswitch a b => exact am_i_lookupswitch C hW hS hL hd h kk
  | ldc k => exact am_i_ldc C hW hS hL hd h kk
  | ldc_w k => exact am_i_ldc_w C hW hS hL hd h kk
  | ldc2_w k => exact am_i_ldc2_w C hW hS hL hd h kk
  | getstatic k => exact am_i_getstatic C hW hS hL hd h kk
  | getfield k => exact am_i_getfield C hW hS hL hd h kk
  | putfield k => exact am_i_putfield C hW hS hL hd h kk
  | iaload  => exact am_i_iaload C hW hS hL hd h kk
  | baload  => exact am_i_baload C hW hS hL hd h kk
  | laload  => exact am_i_laload C hW hS hL hd h kk
  | aaload  => exact am_i_aaload C hW hS hL hd h kk
  | iastore  => exact am_i_iastore C hW hS hL hd h kk
  | bastore  => exact am_i_bastore C hW hS hL hd h kk
  | lastore  => exact am_i_lastore C hW hS hL hd h kk
  | aastore  => exact am_i_aastore C hW hS hL hd h kk
  | arraylength  => exact am_i_arraylength C hW hS hL hd h kk
  | newarray t => exact am_i_newarray C hW hS hL hd h hc hs kk
  | anewarray k => exact am_i_anewarray C hW hS hL hd h hc hs kk
  | new k => exact am_i_new C hW hS hL hd h hc hs kk
  | ifCond q o =>
    cases q with
    | eq => exact am_i_if_eq C hW hS hL hd h kk
    | ne => exact am_i_if_ne C hW hS hL hd h kk
    | lt => exact am_i_if_lt C hW hS hL hd h kk
    | ge => exact am_i_if_ge C hW hS hL hd h kk
    | gt => exact am_i_if_gt C hW hS hL hd h kk
    | le => exact am_i_if_le C hW hS hL hd h kk
  | if_icmp q o =>
    cases q with
    | eq => exact am_i_icmp_eq C hW hS hL hd h kk
    | ne => exact am_i_icmp_ne C hW hS hL hd h kk
    | lt => exact am_i_icmp_lt C hW hS hL hd h kk
    | ge => exact am_i_icmp_ge C hW hS hL hd h kk
    | gt => exact am_i_icmp_gt C hW hS hL hd h kk
    | le => exact am_i_icmp_le C hW hS hL hd h kk
  | _ =>
    have h' : (none : Option am_Cf) = some f := h
    cases h'
/-- the shapes only grow -/
theorem am_putf_sh {τ : am_H} {a ci k : Nat} {v : Value} (h : am_putf σ a ci k v = some τ) : τ.1 = σ.1 := by
  unfold am_putf at h
  split at h
  · cases h; rfl
  · split at h
    · cases h; rfl
    · cases h
  · cases h; rfl
  · cases h; rfl
  · cases h; rfl
  · cases h
theorem am_br_sh {b : Bool} {off : Int} {r : List Value} {f : am_Cf} (h : am_br b pc off lv r σ = some f) : σ.1 <+: f.2.2.2.1 := by
  unfold am_br at h
  split at h
  · split at h <;> cases h <;> exact List.prefix_refl _
  · cases h
set_option maxHeartbeats 4000000 in
theorem am_st1_mono {f : am_Cf} {ins : Instr} {len : Nat} (h : am_st1 pr cn mx ini pc lv st σ ins len = some f) : σ.1 <+: f.2.2.2.1 := by
  cases ins <;> first
    | (have h' : (none : Option am_Cf) = some f := h; cases h'; done)
    | (dsimp only [am_st1] at h
       repeat' split at h
       all_goals first
         | (cases h; done)
         | (cases h; exact List.prefix_refl _)
         | (cases h; exact List.prefix_append _ _)
         | exact am_br_sh h
         | (obtain ⟨t, ht, rfl⟩ := Option.map_eq_some_iff.mp h; exact List.prefix_refl _)
         | (obtain ⟨t, ht, rfl⟩ := Option.map_eq_some_iff.mp h; show σ.1 <+: t.1; rw [am_putf_sh ht]; exact List.prefix_refl _))
theorem am_nat_mono {f : am_Cf} {kind : Nat} (h : am_nat kind pc lv st σ = some f) : f.2.2.2.1 = σ.1 := by
  unfold am_nat at h
  repeat' split at h
  all_goals first
    | (cases h; done)
    | (cases h; rfl)
theorem am_run_mono : ∀ (n d mi pc : Nat) (lv : List (Nat × Value)) (st : List Value) (σ : am_H) (r : Option Value) (τ : am_H), am_run pr n d mi pc lv st σ = some (r, τ) → σ.1 <+: τ.1
  | 0, d, mi, pc, lv, st, σ, r, τ, h => by cases h
  | n + 1, d, mi, pc, lv, st, σ, r, τ, h => by
    unfold am_run at h
    split at h
    · cases h
    · split at h
      · cases h
      · split at h
        · cases h; exact List.prefix_refl _
        · split at h
          · split at h
            · rename_i f hf
              exact (am_st1_mono hf).trans (am_run_mono n _ _ _ _ _ _ _ _ h)
            · cases h
          · split at h
            · split at h
              · split at h
                · split at h
                  · rename_i f hf
                    have h1 := am_run_mono n _ _ _ _ _ _ _ _ h
                    rw [am_nat_mono hf] at h1
                    exact h1
                  · cases h
                · cases h
              · split at h
                · cases h
                · split at h
                  · split at h
                    · rename_i r1 τ1 hr
                      exact (am_run_mono n _ _ _ _ _ _ _ _ hr).trans (am_run_mono n _ _ _ _ _ _ _ _ h)
                    · cases h
                  · cases h
            · cases h
theorem am_pre_len {σ τ : am_H} (h : σ.1 <+: τ.1) : σ.1.length ≤ τ.1.length := h.length_le
theorem am_pre_sl {σ τ : am_H} (h : σ.1 <+: τ.1) : am_sl σ ≤ am_sl τ := by
  obtain ⟨x, hx⟩ := h
  unfold am_sl
  rw [← hx, List.map_append, List.sum_append]
  omega
end AmRun
