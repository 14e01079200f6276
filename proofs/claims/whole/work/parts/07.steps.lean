/-! every instruction of the plain machine that is no call and no return is the real one's -/
section AmStep
variable {p : Program} {l : Launch} {e : Env} {R : Room} {s : State} {m : MethodId} {args : Array Value} {below : List Frame} {meth : Method} {c : Code} {H : Heap} {locs : List Loc} {cells slots : Nat} {Q : State → Prop}
variable {cc : ByteArray} {cn mx : Nat} {ini : Bool} {z0 : Nat} {sa : Nat → Nat} {dC : Nat → ClassId} {dI : Nat → Nat → Nat} {dA : Nat → ClassId} {pr : am_Pr} {Hz : Heap} {pc : Nat} {ls : Array Slot} {lv : List (Nat × Value)} {st : List Value} {σ : am_H}
/-- what goes on behind an instruction -/
def am_K (p : Program) (l : Launch) (e : Env) (R : Room) (s : State) (m : MethodId) (args : Array Value) (below : List Frame) (meth : Method) (c : Code) (Q : State → Prop) (mx z0 : Nat) (sa : Nat → Nat) (dC : Nat → ClassId) (dI : Nat → Nat → Nat) (dA : Nat → ClassId) (cells slots : Nat) (σ : am_H) (f : am_Cf) : Prop :=
  ∀ (H' : Heap) (locs' : List Loc) (ls' : Array Slot), am_Wd z0 sa dC dI dA f.2.2.2 H' → va_S (fun q => z0 ≤ q) s.heap H' locs' → am_L (am_rho z0 sa) ls' mx f.2.1 → W p l e R s m args below meth c H' locs' (cells + (f.2.2.2.1.length - σ.1.length)) (slots + (am_sl f.2.2.2 - am_sl σ)) Q (F0 m f.1 ls' (f.2.2.1.map (am_tr (am_rho z0 sa))))
/-- the goal at an instruction -/
abbrev am_G (p : Program) (l : Launch) (e : Env) (R : Room) (s : State) (m : MethodId) (args : Array Value) (below : List Frame) (meth : Method) (c : Code) (Q : State → Prop) (z0 : Nat) (sa : Nat → Nat) (cells slots : Nat) (H : Heap) (locs : List Loc) (pc : Nat) (ls : Array Slot) (st : List Value) : Prop :=
  W p l e R s m args below meth c H locs cells slots Q (F0 m pc ls (st.map (am_tr (am_rho z0 sa))))
theorem am_K.same {pc' : Nat} {lv' : List (Nat × Value)} {st' : List Value} (kk : am_K p l e R s m args below meth c Q mx z0 sa dC dI dA cells slots σ (pc', lv', st', σ)) (hW : am_Wd z0 sa dC dI dA σ H) (hS : va_S (fun q => z0 ≤ q) s.heap H locs) (ls' : Array Slot) (hL : am_L (am_rho z0 sa) ls' mx lv') : W p l e R s m args below meth c H locs cells slots Q (F0 m pc' ls' (st'.map (am_tr (am_rho z0 sa)))) := by
  have k0 := kk H locs ls' hW hS hL
  simpa only [Nat.sub_self, Nat.add_zero] using k0
theorem am_K.mem {pc' : Nat} {lv' : List (Nat × Value)} {st' : List Value} {τ : am_H} {H' : Heap} {locs' : List Loc} (kk : am_K p l e R s m args below meth c Q mx z0 sa dC dI dA cells slots σ (pc', lv', st', τ)) (ht : τ.1 = σ.1) (hW : am_Wd z0 sa dC dI dA τ H') (hS : va_S (fun q => z0 ≤ q) s.heap H' locs') (hL : am_L (am_rho z0 sa) ls mx lv') : W p l e R s m args below meth c H' locs' cells slots Q (F0 m pc' ls (st'.map (am_tr (am_rho z0 sa)))) := by
  have k0 := kk H' locs' ls hW hS hL
  have e2 : am_sl τ = am_sl σ := by unfold am_sl; rw [ht]
  simpa only [ht, e2, Nat.sub_self, Nat.add_zero] using k0
theorem am_i_iconst {f : am_Cf} (C : am_C p s m args meth c cc cn mx ini z0 sa dC dI dA pr Hz) (hW : am_Wd z0 sa dC dI dA σ H) (hS : va_S (fun q => z0 ≤ q) s.heap H locs) (hL : am_L (am_rho z0 sa) ls mx lv) {n : Int} {len : Nat} (hd : decode cc pc = .ok (.iconst n, len)) (h : am_st1 pr cn mx ini pc lv st σ (.iconst n) len = some f) (kk : am_K p l e R s m args below meth c Q mx z0 sa dC dI dA cells slots σ f) : am_G p l e R s m args below meth c Q z0 sa cells slots H locs pc ls st := by
  obtain ⟨hx, hb, hml, hown, hts, hini, hK, hF, hE, hz, hzs⟩ := C
  dsimp only [am_st1] at h
  split at h
  · rename_i hl
    subst hl
    cases h
    exact lv_iconst hx hb hd rfl (kk.same hW hS ls hL)
  · cases h
theorem am_i_bipush {f : am_Cf} (C : am_C p s m args meth c cc cn mx ini z0 sa dC dI dA pr Hz) (hW : am_Wd z0 sa dC dI dA σ H) (hS : va_S (fun q => z0 ≤ q) s.heap H locs) (hL : am_L (am_rho z0 sa) ls mx lv) {n : Int} {len : Nat} (hd : decode cc pc = .ok (.bipush n, len)) (h : am_st1 pr cn mx ini pc lv st σ (.bipush n) len = some f) (kk : am_K p l e R s m args below meth c Q mx z0 sa dC dI dA cells slots σ f) : am_G p l e R s m args below meth c Q z0 sa cells slots H locs pc ls st := by
  obtain ⟨hx, hb, hml, hown, hts, hini, hK, hF, hE, hz, hzs⟩ := C
  dsimp only [am_st1] at h
  split at h
  · rename_i hl
    subst hl
    cases h
    exact lv_bipush hx hb hd rfl (kk.same hW hS ls hL)
  · cases h
theorem am_i_sipush {f : am_Cf} (C : am_C p s m args meth c cc cn mx ini z0 sa dC dI dA pr Hz) (hW : am_Wd z0 sa dC dI dA σ H) (hS : va_S (fun q => z0 ≤ q) s.heap H locs) (hL : am_L (am_rho z0 sa) ls mx lv) {n : Int} {len : Nat} (hd : decode cc pc = .ok (.sipush n, len)) (h : am_st1 pr cn mx ini pc lv st σ (.sipush n) len = some f) (kk : am_K p l e R s m args below meth c Q mx z0 sa dC dI dA cells slots σ f) : am_G p l e R s m args below meth c Q z0 sa cells slots H locs pc ls st := by
  obtain ⟨hx, hb, hml, hown, hts, hini, hK, hF, hE, hz, hzs⟩ := C
  dsimp only [am_st1] at h
  split at h
  · rename_i hl
    subst hl
    cases h
    exact lv_sipush hx hb hd rfl (kk.same hW hS ls hL)
  · cases h
theorem am_i_lconst {f : am_Cf} (C : am_C p s m args meth c cc cn mx ini z0 sa dC dI dA pr Hz) (hW : am_Wd z0 sa dC dI dA σ H) (hS : va_S (fun q => z0 ≤ q) s.heap H locs) (hL : am_L (am_rho z0 sa) ls mx lv) {n : Fin 2} {len : Nat} (hd : decode cc pc = .ok (.lconst n, len)) (h : am_st1 pr cn mx ini pc lv st σ (.lconst n) len = some f) (kk : am_K p l e R s m args below meth c Q mx z0 sa dC dI dA cells slots σ f) : am_G p l e R s m args below meth c Q z0 sa cells slots H locs pc ls st := by
  obtain ⟨hx, hb, hml, hown, hts, hini, hK, hF, hE, hz, hzs⟩ := C
  dsimp only [am_st1] at h
  split at h
  · rename_i hl
    subst hl
    cases h
    exact lv_lconst hx hb hd rfl (kk.same hW hS ls hL)
  · cases h
theorem am_i_null {f : am_Cf} (C : am_C p s m args meth c cc cn mx ini z0 sa dC dI dA pr Hz) (hW : am_Wd z0 sa dC dI dA σ H) (hS : va_S (fun q => z0 ≤ q) s.heap H locs) (hL : am_L (am_rho z0 sa) ls mx lv) {len : Nat} (hd : decode cc pc = .ok (.aconst_null, len)) (h : am_st1 pr cn mx ini pc lv st σ (.aconst_null) len = some f) (kk : am_K p l e R s m args below meth c Q mx z0 sa dC dI dA cells slots σ f) : am_G p l e R s m args below meth c Q z0 sa cells slots H locs pc ls st := by
  obtain ⟨hx, hb, hml, hown, hts, hini, hK, hF, hE, hz, hzs⟩ := C
  dsimp only [am_st1] at h
  split at h
  · rename_i hl
    subst hl
    cases h
    exact lv_null hx hb hd (kk.same hW hS ls hL)
  · cases h
theorem am_i_iload_n {f : am_Cf} (C : am_C p s m args meth c cc cn mx ini z0 sa dC dI dA pr Hz) (hW : am_Wd z0 sa dC dI dA σ H) (hS : va_S (fun q => z0 ≤ q) s.heap H locs) (hL : am_L (am_rho z0 sa) ls mx lv) {k : Fin 4} {len : Nat} (hd : decode cc pc = .ok (.iload_n k, len)) (h : am_st1 pr cn mx ini pc lv st σ (.iload_n k) len = some f) (kk : am_K p l e R s m args below meth c Q mx z0 sa dC dI dA cells slots σ f) : am_G p l e R s m args below meth c Q z0 sa cells slots H locs pc ls st := by
  obtain ⟨hx, hb, hml, hown, hts, hini, hK, hF, hE, hz, hzs⟩ := C
  dsimp only [am_st1] at h
  split at h
  · rename_i hl
    subst hl
    split at h
    · rename_i x hv
      cases h
      exact lv_iload_n hx hb hd rfl (am_L1 hL hv rfl) (kk.same hW hS ls hL)
    · cases h
  · cases h
theorem am_i_iload {f : am_Cf} (C : am_C p s m args meth c cc cn mx ini z0 sa dC dI dA pr Hz) (hW : am_Wd z0 sa dC dI dA σ H) (hS : va_S (fun q => z0 ≤ q) s.heap H locs) (hL : am_L (am_rho z0 sa) ls mx lv) {i : Nat} {len : Nat} (hd : decode cc pc = .ok (.iload i, len)) (h : am_st1 pr cn mx ini pc lv st σ (.iload i) len = some f) (kk : am_K p l e R s m args below meth c Q mx z0 sa dC dI dA cells slots σ f) : am_G p l e R s m args below meth c Q z0 sa cells slots H locs pc ls st := by
  obtain ⟨hx, hb, hml, hown, hts, hini, hK, hF, hE, hz, hzs⟩ := C
  dsimp only [am_st1] at h
  split at h
  · rename_i hl
    subst hl
    split at h
    · rename_i x hv
      cases h
      exact lv_iload hx hb hd (am_L1 hL hv rfl) (kk.same hW hS ls hL)
    · cases h
  · cases h
theorem am_i_lload_n {f : am_Cf} (C : am_C p s m args meth c cc cn mx ini z0 sa dC dI dA pr Hz) (hW : am_Wd z0 sa dC dI dA σ H) (hS : va_S (fun q => z0 ≤ q) s.heap H locs) (hL : am_L (am_rho z0 sa) ls mx lv) {k : Fin 4} {len : Nat} (hd : decode cc pc = .ok (.lload_n k, len)) (h : am_st1 pr cn mx ini pc lv st σ (.lload_n k) len = some f) (kk : am_K p l e R s m args below meth c Q mx z0 sa dC dI dA cells slots σ f) : am_G p l e R s m args below meth c Q z0 sa cells slots H locs pc ls st := by
  obtain ⟨hx, hb, hml, hown, hts, hini, hK, hF, hE, hz, hzs⟩ := C
  dsimp only [am_st1] at h
  split at h
  · rename_i hl
    subst hl
    split at h
    · rename_i x hv
      cases h
      exact lv_lload_n hx hb hd rfl (am_L2 hL hv rfl) (kk.same hW hS ls hL)
    · cases h
  · cases h
theorem am_i_lload {f : am_Cf} (C : am_C p s m args meth c cc cn mx ini z0 sa dC dI dA pr Hz) (hW : am_Wd z0 sa dC dI dA σ H) (hS : va_S (fun q => z0 ≤ q) s.heap H locs) (hL : am_L (am_rho z0 sa) ls mx lv) {i : Nat} {len : Nat} (hd : decode cc pc = .ok (.lload i, len)) (h : am_st1 pr cn mx ini pc lv st σ (.lload i) len = some f) (kk : am_K p l e R s m args below meth c Q mx z0 sa dC dI dA cells slots σ f) : am_G p l e R s m args below meth c Q z0 sa cells slots H locs pc ls st := by
  obtain ⟨hx, hb, hml, hown, hts, hini, hK, hF, hE, hz, hzs⟩ := C
  dsimp only [am_st1] at h
  split at h
  · rename_i hl
    subst hl
    split at h
    · rename_i x hv
      cases h
      exact lv_lload hx hb hd (am_L2 hL hv rfl) (kk.same hW hS ls hL)
    · cases h
  · cases h
theorem am_i_aload_n {f : am_Cf} (C : am_C p s m args meth c cc cn mx ini z0 sa dC dI dA pr Hz) (hW : am_Wd z0 sa dC dI dA σ H) (hS : va_S (fun q => z0 ≤ q) s.heap H locs) (hL : am_L (am_rho z0 sa) ls mx lv) {k : Fin 4} {len : Nat} (hd : decode cc pc = .ok (.aload_n k, len)) (h : am_st1 pr cn mx ini pc lv st σ (.aload_n k) len = some f) (kk : am_K p l e R s m args below meth c Q mx z0 sa dC dI dA cells slots σ f) : am_G p l e R s m args below meth c Q z0 sa cells slots H locs pc ls st := by
  obtain ⟨hx, hb, hml, hown, hts, hini, hK, hF, hE, hz, hzs⟩ := C
  dsimp only [am_st1] at h
  split at h
  · rename_i hl
    subst hl
    split at h
    · rename_i x hv
      cases h
      exact lv_aload_n hx hb hd rfl (am_L1 hL hv rfl) (kk.same hW hS ls hL)
    · rename_i hv
      cases h
      exact lv_aload_nN hx hb hd rfl (am_L1 hL hv rfl) (kk.same hW hS ls hL)
    · cases h
  · cases h
theorem am_i_aload {f : am_Cf} (C : am_C p s m args meth c cc cn mx ini z0 sa dC dI dA pr Hz) (hW : am_Wd z0 sa dC dI dA σ H) (hS : va_S (fun q => z0 ≤ q) s.heap H locs) (hL : am_L (am_rho z0 sa) ls mx lv) {i : Nat} {len : Nat} (hd : decode cc pc = .ok (.aload i, len)) (h : am_st1 pr cn mx ini pc lv st σ (.aload i) len = some f) (kk : am_K p l e R s m args below meth c Q mx z0 sa dC dI dA cells slots σ f) : am_G p l e R s m args below meth c Q z0 sa cells slots H locs pc ls st := by
  obtain ⟨hx, hb, hml, hown, hts, hini, hK, hF, hE, hz, hzs⟩ := C
  dsimp only [am_st1] at h
  split at h
  · rename_i hl
    subst hl
    split at h
    · rename_i x hv
      cases h
      exact lv_aload hx hb hd (am_L1 hL hv rfl) (kk.same hW hS ls hL)
    · rename_i hv
      cases h
      exact lv_aloadN hx hb hd (am_L1 hL hv rfl) (kk.same hW hS ls hL)
    · cases h
  · cases h
theorem am_i_istore_n {f : am_Cf} (C : am_C p s m args meth c cc cn mx ini z0 sa dC dI dA pr Hz) (hW : am_Wd z0 sa dC dI dA σ H) (hS : va_S (fun q => z0 ≤ q) s.heap H locs) (hL : am_L (am_rho z0 sa) ls mx lv) {k : Fin 4} {len : Nat} (hd : decode cc pc = .ok (.istore_n k, len)) (h : am_st1 pr cn mx ini pc lv st σ (.istore_n k) len = some f) (kk : am_K p l e R s m args below meth c Q mx z0 sa dC dI dA cells slots σ f) : am_G p l e R s m args below meth c Q z0 sa cells slots H locs pc ls st := by
  obtain ⟨hx, hb, hml, hown, hts, hini, hK, hF, hE, hz, hzs⟩ := C
  dsimp only [am_st1] at h
  split at h
  · rename_i hl
    obtain ⟨hl, hlt⟩ := hl
    subst hl
    split at h
    · cases h
      exact lv_istore_n hx hb hd rfl hL hlt (am_st_1 (am_rho z0 sa) lv _ (v := .int _) rfl) (fun ls' hl' => kk.same hW hS ls' hl')
    · cases h
  · cases h
theorem am_i_istore {f : am_Cf} (C : am_C p s m args meth c cc cn mx ini z0 sa dC dI dA pr Hz) (hW : am_Wd z0 sa dC dI dA σ H) (hS : va_S (fun q => z0 ≤ q) s.heap H locs) (hL : am_L (am_rho z0 sa) ls mx lv) {i : Nat} {len : Nat} (hd : decode cc pc = .ok (.istore i, len)) (h : am_st1 pr cn mx ini pc lv st σ (.istore i) len = some f) (kk : am_K p l e R s m args below meth c Q mx z0 sa dC dI dA cells slots σ f) : am_G p l e R s m args below meth c Q z0 sa cells slots H locs pc ls st := by
  obtain ⟨hx, hb, hml, hown, hts, hini, hK, hF, hE, hz, hzs⟩ := C
  dsimp only [am_st1] at h
  split at h
  · rename_i hl
    obtain ⟨hl, hlt⟩ := hl
    subst hl
    split at h
    · cases h
      exact lv_istore hx hb hd hL hlt (am_st_1 (am_rho z0 sa) lv _ (v := .int _) rfl) (fun ls' hl' => kk.same hW hS ls' hl')
    · cases h
  · cases h
theorem am_i_lstore_n {f : am_Cf} (C : am_C p s m args meth c cc cn mx ini z0 sa dC dI dA pr Hz) (hW : am_Wd z0 sa dC dI dA σ H) (hS : va_S (fun q => z0 ≤ q) s.heap H locs) (hL : am_L (am_rho z0 sa) ls mx lv) {k : Fin 4} {len : Nat} (hd : decode cc pc = .ok (.lstore_n k, len)) (h : am_st1 pr cn mx ini pc lv st σ (.lstore_n k) len = some f) (kk : am_K p l e R s m args below meth c Q mx z0 sa dC dI dA cells slots σ f) : am_G p l e R s m args below meth c Q z0 sa cells slots H locs pc ls st := by
  obtain ⟨hx, hb, hml, hown, hts, hini, hK, hF, hE, hz, hzs⟩ := C
  dsimp only [am_st1] at h
  split at h
  · rename_i hl
    obtain ⟨hl, hlt⟩ := hl
    subst hl
    split at h
    · cases h
      exact lv_lstore_n hx hb hd rfl hL hlt (am_st_2 (am_rho z0 sa) lv _ (v := .long _) rfl) (fun ls' hl' => kk.same hW hS ls' hl')
    · cases h
  · cases h
theorem am_i_lstore {f : am_Cf} (C : am_C p s m args meth c cc cn mx ini z0 sa dC dI dA pr Hz) (hW : am_Wd z0 sa dC dI dA σ H) (hS : va_S (fun q => z0 ≤ q) s.heap H locs) (hL : am_L (am_rho z0 sa) ls mx lv) {i : Nat} {len : Nat} (hd : decode cc pc = .ok (.lstore i, len)) (h : am_st1 pr cn mx ini pc lv st σ (.lstore i) len = some f) (kk : am_K p l e R s m args below meth c Q mx z0 sa dC dI dA cells slots σ f) : am_G p l e R s m args below meth c Q z0 sa cells slots H locs pc ls st := by
  obtain ⟨hx, hb, hml, hown, hts, hini, hK, hF, hE, hz, hzs⟩ := C
  dsimp only [am_st1] at h
  split at h
  · rename_i hl
    obtain ⟨hl, hlt⟩ := hl
    subst hl
    split at h
    · cases h
      exact lv_lstore hx hb hd hL hlt (am_st_2 (am_rho z0 sa) lv _ (v := .long _) rfl) (fun ls' hl' => kk.same hW hS ls' hl')
    · cases h
  · cases h
theorem am_i_astore_n {f : am_Cf} (C : am_C p s m args meth c cc cn mx ini z0 sa dC dI dA pr Hz) (hW : am_Wd z0 sa dC dI dA σ H) (hS : va_S (fun q => z0 ≤ q) s.heap H locs) (hL : am_L (am_rho z0 sa) ls mx lv) {k : Fin 4} {len : Nat} (hd : decode cc pc = .ok (.astore_n k, len)) (h : am_st1 pr cn mx ini pc lv st σ (.astore_n k) len = some f) (kk : am_K p l e R s m args below meth c Q mx z0 sa dC dI dA cells slots σ f) : am_G p l e R s m args below meth c Q z0 sa cells slots H locs pc ls st := by
  obtain ⟨hx, hb, hml, hown, hts, hini, hK, hF, hE, hz, hzs⟩ := C
  dsimp only [am_st1] at h
  split at h
  · rename_i hl
    obtain ⟨hl, hlt⟩ := hl
    subst hl
    split at h
    · cases h
      exact lv_astore_n hx hb hd rfl hL hlt (am_st_1 (am_rho z0 sa) lv _ (v := .ref _) rfl) (fun ls' hl' => kk.same hW hS ls' hl')
    · cases h
      exact lv_astore_nN hx hb hd rfl hL hlt (am_st_1 (am_rho z0 sa) lv _ (v := .null) rfl) (fun ls' hl' => kk.same hW hS ls' hl')
    · cases h
  · cases h
theorem am_i_astore {f : am_Cf} (C : am_C p s m args meth c cc cn mx ini z0 sa dC dI dA pr Hz) (hW : am_Wd z0 sa dC dI dA σ H) (hS : va_S (fun q => z0 ≤ q) s.heap H locs) (hL : am_L (am_rho z0 sa) ls mx lv) {i : Nat} {len : Nat} (hd : decode cc pc = .ok (.astore i, len)) (h : am_st1 pr cn mx ini pc lv st σ (.astore i) len = some f) (kk : am_K p l e R s m args below meth c Q mx z0 sa dC dI dA cells slots σ f) : am_G p l e R s m args below meth c Q z0 sa cells slots H locs pc ls st := by
  obtain ⟨hx, hb, hml, hown, hts, hini, hK, hF, hE, hz, hzs⟩ := C
  dsimp only [am_st1] at h
  split at h
  · rename_i hl
    obtain ⟨hl, hlt⟩ := hl
    subst hl
    split at h
    · cases h
      exact lv_astore hx hb hd hL hlt (am_st_1 (am_rho z0 sa) lv _ (v := .ref _) rfl) (fun ls' hl' => kk.same hW hS ls' hl')
    · cases h
      exact lv_astoreN hx hb hd hL hlt (am_st_1 (am_rho z0 sa) lv _ (v := .null) rfl) (fun ls' hl' => kk.same hW hS ls' hl')
    · cases h
  · cases h
theorem am_i_iinc {f : am_Cf} (C : am_C p s m args meth c cc cn mx ini z0 sa dC dI dA pr Hz) (hW : am_Wd z0 sa dC dI dA σ H) (hS : va_S (fun q => z0 ≤ q) s.heap H locs) (hL : am_L (am_rho z0 sa) ls mx lv) {i : Nat} {n : Int} {len : Nat} (hd : decode cc pc = .ok (.iinc i n, len)) (h : am_st1 pr cn mx ini pc lv st σ (.iinc i n) len = some f) (kk : am_K p l e R s m args below meth c Q mx z0 sa dC dI dA cells slots σ f) : am_G p l e R s m args below meth c Q z0 sa cells slots H locs pc ls st := by
  obtain ⟨hx, hb, hml, hown, hts, hini, hK, hF, hE, hz, hzs⟩ := C
  dsimp only [am_st1] at h
  split at h
  · rename_i hl
    obtain ⟨hl, hlt⟩ := hl
    subst hl
    split at h
    · rename_i x hv
      cases h
      obtain ⟨k, hk⟩ := List.getElem?_of_mem (List.mem_map.mpr ⟨(i, Value.int x), am_ld1_mem hv rfl, rfl⟩ : (i, am_tr (am_rho z0 sa) (Value.int x)) ∈ (am_eff lv).map (fun q => (q.1, am_tr (am_rho z0 sa) q.2)))
      exact lv_iinc hx hb hd hL (k := k) hk rfl hlt (am_st_1 (am_rho z0 sa) lv _ (v := .int (x + Int32.ofInt n)) rfl) (fun ls' hl' => kk.same hW hS ls' hl')
    · cases h
  · cases h
theorem am_i_iadd {f : am_Cf} (C : am_C p s m args meth c cc cn mx ini z0 sa dC dI dA pr Hz) (hW : am_Wd z0 sa dC dI dA σ H) (hS : va_S (fun q => z0 ≤ q) s.heap H locs) (hL : am_L (am_rho z0 sa) ls mx lv) {len : Nat} (hd : decode cc pc = .ok (.iadd, len)) (h : am_st1 pr cn mx ini pc lv st σ (.iadd) len = some f) (kk : am_K p l e R s m args below meth c Q mx z0 sa dC dI dA cells slots σ f) : am_G p l e R s m args below meth c Q z0 sa cells slots H locs pc ls st := by
  obtain ⟨hx, hb, hml, hown, hts, hini, hK, hF, hE, hz, hzs⟩ := C
  dsimp only [am_st1] at h
  split at h
  · rename_i hl
    subst hl
    split at h
    · cases h
      exact lv_iadd hx hb hd (kk.same hW hS ls hL)
    · cases h
  · cases h
theorem am_i_isub {f : am_Cf} (C : am_C p s m args meth c cc cn mx ini z0 sa dC dI dA pr Hz) (hW : am_Wd z0 sa dC dI dA σ H) (hS : va_S (fun q => z0 ≤ q) s.heap H locs) (hL : am_L (am_rho z0 sa) ls mx lv) {len : Nat} (hd : decode cc pc = .ok (.isub, len)) (h : am_st1 pr cn mx ini pc lv st σ (.isub) len = some f) (kk : am_K p l e R s m args below meth c Q mx z0 sa dC dI dA cells slots σ f) : am_G p l e R s m args below meth c Q z0 sa cells slots H locs pc ls st := by
  obtain ⟨hx, hb, hml, hown, hts, hini, hK, hF, hE, hz, hzs⟩ := C
  dsimp only [am_st1] at h
  split at h
  · rename_i hl
    subst hl
    split at h
    · cases h
      exact lv_isub hx hb hd (kk.same hW hS ls hL)
    · cases h
  · cases h
theorem am_i_imul {f : am_Cf} (C : am_C p s m args meth c cc cn mx ini z0 sa dC dI dA pr Hz) (hW : am_Wd z0 sa dC dI dA σ H) (hS : va_S (fun q => z0 ≤ q) s.heap H locs) (hL : am_L (am_rho z0 sa) ls mx lv) {len : Nat} (hd : decode cc pc = .ok (.imul, len)) (h : am_st1 pr cn mx ini pc lv st σ (.imul) len = some f) (kk : am_K p l e R s m args below meth c Q mx z0 sa dC dI dA cells slots σ f) : am_G p l e R s m args below meth c Q z0 sa cells slots H locs pc ls st := by
  obtain ⟨hx, hb, hml, hown, hts, hini, hK, hF, hE, hz, hzs⟩ := C
  dsimp only [am_st1] at h
  split at h
  · rename_i hl
    subst hl
    split at h
    · cases h
      exact lv_imul hx hb hd (kk.same hW hS ls hL)
    · cases h
  · cases h
theorem am_i_iand {f : am_Cf} (C : am_C p s m args meth c cc cn mx ini z0 sa dC dI dA pr Hz) (hW : am_Wd z0 sa dC dI dA σ H) (hS : va_S (fun q => z0 ≤ q) s.heap H locs) (hL : am_L (am_rho z0 sa) ls mx lv) {len : Nat} (hd : decode cc pc = .ok (.iand, len)) (h : am_st1 pr cn mx ini pc lv st σ (.iand) len = some f) (kk : am_K p l e R s m args below meth c Q mx z0 sa dC dI dA cells slots σ f) : am_G p l e R s m args below meth c Q z0 sa cells slots H locs pc ls st := by
  obtain ⟨hx, hb, hml, hown, hts, hini, hK, hF, hE, hz, hzs⟩ := C
  dsimp only [am_st1] at h
  split at h
  · rename_i hl
    subst hl
    split at h
    · cases h
      exact lv_iand hx hb hd (kk.same hW hS ls hL)
    · cases h
  · cases h
theorem am_i_ior {f : am_Cf} (C : am_C p s m args meth c cc cn mx ini z0 sa dC dI dA pr Hz) (hW : am_Wd z0 sa dC dI dA σ H) (hS : va_S (fun q => z0 ≤ q) s.heap H locs) (hL : am_L (am_rho z0 sa) ls mx lv) {len : Nat} (hd : decode cc pc = .ok (.ior, len)) (h : am_st1 pr cn mx ini pc lv st σ (.ior) len = some f) (kk : am_K p l e R s m args below meth c Q mx z0 sa dC dI dA cells slots σ f) : am_G p l e R s m args below meth c Q z0 sa cells slots H locs pc ls st := by
  obtain ⟨hx, hb, hml, hown, hts, hini, hK, hF, hE, hz, hzs⟩ := C
  dsimp only [am_st1] at h
  split at h
  · rename_i hl
    subst hl
    split at h
    · cases h
      exact lv_ior hx hb hd (kk.same hW hS ls hL)
    · cases h
  · cases h
theorem am_i_ixor {f : am_Cf} (C : am_C p s m args meth c cc cn mx ini z0 sa dC dI dA pr Hz) (hW : am_Wd z0 sa dC dI dA σ H) (hS : va_S (fun q => z0 ≤ q) s.heap H locs) (hL : am_L (am_rho z0 sa) ls mx lv) {len : Nat} (hd : decode cc pc = .ok (.ixor, len)) (h : am_st1 pr cn mx ini pc lv st σ (.ixor) len = some f) (kk : am_K p l e R s m args below meth c Q mx z0 sa dC dI dA cells slots σ f) : am_G p l e R s m args below meth c Q z0 sa cells slots H locs pc ls st := by
  obtain ⟨hx, hb, hml, hown, hts, hini, hK, hF, hE, hz, hzs⟩ := C
  dsimp only [am_st1] at h
  split at h
  · rename_i hl
    subst hl
    split at h
    · cases h
      exact lv_ixor hx hb hd (kk.same hW hS ls hL)
    · cases h
  · cases h
theorem am_i_ishl {f : am_Cf} (C : am_C p s m args meth c cc cn mx ini z0 sa dC dI dA pr Hz) (hW : am_Wd z0 sa dC dI dA σ H) (hS : va_S (fun q => z0 ≤ q) s.heap H locs) (hL : am_L (am_rho z0 sa) ls mx lv) {len : Nat} (hd : decode cc pc = .ok (.ishl, len)) (h : am_st1 pr cn mx ini pc lv st σ (.ishl) len = some f) (kk : am_K p l e R s m args below meth c Q mx z0 sa dC dI dA cells slots σ f) : am_G p l e R s m args below meth c Q z0 sa cells slots H locs pc ls st := by
  obtain ⟨hx, hb, hml, hown, hts, hini, hK, hF, hE, hz, hzs⟩ := C
  dsimp only [am_st1] at h
  split at h
  · rename_i hl
    subst hl
    split at h
    · cases h
      exact lv_ishl hx hb hd (kk.same hW hS ls hL)
    · cases h
  · cases h
theorem am_i_ishr {f : am_Cf} (C : am_C p s m args meth c cc cn mx ini z0 sa dC dI dA pr Hz) (hW : am_Wd z0 sa dC dI dA σ H) (hS : va_S (fun q => z0 ≤ q) s.heap H locs) (hL : am_L (am_rho z0 sa) ls mx lv) {len : Nat} (hd : decode cc pc = .ok (.ishr, len)) (h : am_st1 pr cn mx ini pc lv st σ (.ishr) len = some f) (kk : am_K p l e R s m args below meth c Q mx z0 sa dC dI dA cells slots σ f) : am_G p l e R s m args below meth c Q z0 sa cells slots H locs pc ls st := by
  obtain ⟨hx, hb, hml, hown, hts, hini, hK, hF, hE, hz, hzs⟩ := C
  dsimp only [am_st1] at h
  split at h
  · rename_i hl
    subst hl
    split at h
    · cases h
      exact lv_ishr hx hb hd (kk.same hW hS ls hL)
    · cases h
  · cases h
theorem am_i_ineg {f : am_Cf} (C : am_C p s m args meth c cc cn mx ini z0 sa dC dI dA pr Hz) (hW : am_Wd z0 sa dC dI dA σ H) (hS : va_S (fun q => z0 ≤ q) s.heap H locs) (hL : am_L (am_rho z0 sa) ls mx lv) {len : Nat} (hd : decode cc pc = .ok (.ineg, len)) (h : am_st1 pr cn mx ini pc lv st σ (.ineg) len = some f) (kk : am_K p l e R s m args below meth c Q mx z0 sa dC dI dA cells slots σ f) : am_G p l e R s m args below meth c Q z0 sa cells slots H locs pc ls st := by
  obtain ⟨hx, hb, hml, hown, hts, hini, hK, hF, hE, hz, hzs⟩ := C
  dsimp only [am_st1] at h
  split at h
  · rename_i hl
    subst hl
    split at h
    · cases h
      exact lv_ineg hx hb hd (kk.same hW hS ls hL)
    · cases h
  · cases h
theorem am_i_ladd {f : am_Cf} (C : am_C p s m args meth c cc cn mx ini z0 sa dC dI dA pr Hz) (hW : am_Wd z0 sa dC dI dA σ H) (hS : va_S (fun q => z0 ≤ q) s.heap H locs) (hL : am_L (am_rho z0 sa) ls mx lv) {len : Nat} (hd : decode cc pc = .ok (.ladd, len)) (h : am_st1 pr cn mx ini pc lv st σ (.ladd) len = some f) (kk : am_K p l e R s m args below meth c Q mx z0 sa dC dI dA cells slots σ f) : am_G p l e R s m args below meth c Q z0 sa cells slots H locs pc ls st := by
  obtain ⟨hx, hb, hml, hown, hts, hini, hK, hF, hE, hz, hzs⟩ := C
  dsimp only [am_st1] at h
  split at h
  · rename_i hl
    subst hl
    split at h
    · cases h
      exact lv_ladd hx hb hd (kk.same hW hS ls hL)
    · cases h
  · cases h
theorem am_i_lsub {f : am_Cf} (C : am_C p s m args meth c cc cn mx ini z0 sa dC dI dA pr Hz) (hW : am_Wd z0 sa dC dI dA σ H) (hS : va_S (fun q => z0 ≤ q) s.heap H locs) (hL : am_L (am_rho z0 sa) ls mx lv) {len : Nat} (hd : decode cc pc = .ok (.lsub, len)) (h : am_st1 pr cn mx ini pc lv st σ (.lsub) len = some f) (kk : am_K p l e R s m args below meth c Q mx z0 sa dC dI dA cells slots σ f) : am_G p l e R s m args below meth c Q z0 sa cells slots H locs pc ls st := by
  obtain ⟨hx, hb, hml, hown, hts, hini, hK, hF, hE, hz, hzs⟩ := C
  dsimp only [am_st1] at h
  split at h
  · rename_i hl
    subst hl
    split at h
    · cases h
      exact lv_lsub hx hb hd (kk.same hW hS ls hL)
    · cases h
  · cases h
theorem am_i_lmul {f : am_Cf} (C : am_C p s m args meth c cc cn mx ini z0 sa dC dI dA pr Hz) (hW : am_Wd z0 sa dC dI dA σ H) (hS : va_S (fun q => z0 ≤ q) s.heap H locs) (hL : am_L (am_rho z0 sa) ls mx lv) {len : Nat} (hd : decode cc pc = .ok (.lmul, len)) (h : am_st1 pr cn mx ini pc lv st σ (.lmul) len = some f) (kk : am_K p l e R s m args below meth c Q mx z0 sa dC dI dA cells slots σ f) : am_G p l e R s m args below meth c Q z0 sa cells slots H locs pc ls st := by
  obtain ⟨hx, hb, hml, hown, hts, hini, hK, hF, hE, hz, hzs⟩ := C
  dsimp only [am_st1] at h
  split at h
  · rename_i hl
    subst hl
    split at h
    · cases h
      exact lv_lmul hx hb hd (kk.same hW hS ls hL)
    · cases h
  · cases h
theorem am_i_iushr {f : am_Cf} (C : am_C p s m args meth c cc cn mx ini z0 sa dC dI dA pr Hz) (hW : am_Wd z0 sa dC dI dA σ H) (hS : va_S (fun q => z0 ≤ q) s.heap H locs) (hL : am_L (am_rho z0 sa) ls mx lv) {len : Nat} (hd : decode cc pc = .ok (.iushr, len)) (h : am_st1 pr cn mx ini pc lv st σ (.iushr) len = some f) (kk : am_K p l e R s m args below meth c Q mx z0 sa dC dI dA cells slots σ f) : am_G p l e R s m args below meth c Q z0 sa cells slots H locs pc ls st := by
  obtain ⟨hx, hb, hml, hown, hts, hini, hK, hF, hE, hz, hzs⟩ := C
  dsimp only [am_st1] at h
  split at h
  · rename_i hl
    subst hl
    split at h
    · cases h
      exact lv_iushr hx hb hd rfl (kk.same hW hS ls hL)
    · cases h
  · cases h
theorem am_i_i2l {f : am_Cf} (C : am_C p s m args meth c cc cn mx ini z0 sa dC dI dA pr Hz) (hW : am_Wd z0 sa dC dI dA σ H) (hS : va_S (fun q => z0 ≤ q) s.heap H locs) (hL : am_L (am_rho z0 sa) ls mx lv) {len : Nat} (hd : decode cc pc = .ok (.i2l, len)) (h : am_st1 pr cn mx ini pc lv st σ (.i2l) len = some f) (kk : am_K p l e R s m args below meth c Q mx z0 sa dC dI dA cells slots σ f) : am_G p l e R s m args below meth c Q z0 sa cells slots H locs pc ls st := by
  obtain ⟨hx, hb, hml, hown, hts, hini, hK, hF, hE, hz, hzs⟩ := C
  dsimp only [am_st1] at h
  split at h
  · rename_i hl
    subst hl
    split at h
    · cases h
      exact lv_i2l hx hb hd rfl (kk.same hW hS ls hL)
    · cases h
  · cases h
theorem am_i_l2i {f : am_Cf} (C : am_C p s m args meth c cc cn mx ini z0 sa dC dI dA pr Hz) (hW : am_Wd z0 sa dC dI dA σ H) (hS : va_S (fun q => z0 ≤ q) s.heap H locs) (hL : am_L (am_rho z0 sa) ls mx lv) {len : Nat} (hd : decode cc pc = .ok (.l2i, len)) (h : am_st1 pr cn mx ini pc lv st σ (.l2i) len = some f) (kk : am_K p l e R s m args below meth c Q mx z0 sa dC dI dA cells slots σ f) : am_G p l e R s m args below meth c Q z0 sa cells slots H locs pc ls st := by
  obtain ⟨hx, hb, hml, hown, hts, hini, hK, hF, hE, hz, hzs⟩ := C
  dsimp only [am_st1] at h
  split at h
  · rename_i hl
    subst hl
    split at h
    · cases h
      exact lv_l2i hx hb hd rfl (kk.same hW hS ls hL)
    · cases h
  · cases h
theorem am_i_i2b {f : am_Cf} (C : am_C p s m args meth c cc cn mx ini z0 sa dC dI dA pr Hz) (hW : am_Wd z0 sa dC dI dA σ H) (hS : va_S (fun q => z0 ≤ q) s.heap H locs) (hL : am_L (am_rho z0 sa) ls mx lv) {len : Nat} (hd : decode cc pc = .ok (.i2b, len)) (h : am_st1 pr cn mx ini pc lv st σ (.i2b) len = some f) (kk : am_K p l e R s m args below meth c Q mx z0 sa dC dI dA cells slots σ f) : am_G p l e R s m args below meth c Q z0 sa cells slots H locs pc ls st := by
  obtain ⟨hx, hb, hml, hown, hts, hini, hK, hF, hE, hz, hzs⟩ := C
  dsimp only [am_st1] at h
  split at h
  · rename_i hl
    subst hl
    split at h
    · cases h
      exact lv_i2b hx hb hd rfl (kk.same hW hS ls hL)
    · cases h
  · cases h
theorem am_i_i2c {f : am_Cf} (C : am_C p s m args meth c cc cn mx ini z0 sa dC dI dA pr Hz) (hW : am_Wd z0 sa dC dI dA σ H) (hS : va_S (fun q => z0 ≤ q) s.heap H locs) (hL : am_L (am_rho z0 sa) ls mx lv) {len : Nat} (hd : decode cc pc = .ok (.i2c, len)) (h : am_st1 pr cn mx ini pc lv st σ (.i2c) len = some f) (kk : am_K p l e R s m args below meth c Q mx z0 sa dC dI dA cells slots σ f) : am_G p l e R s m args below meth c Q z0 sa cells slots H locs pc ls st := by
  obtain ⟨hx, hb, hml, hown, hts, hini, hK, hF, hE, hz, hzs⟩ := C
  dsimp only [am_st1] at h
  split at h
  · rename_i hl
    subst hl
    split at h
    · cases h
      exact lv_i2c hx hb hd rfl (kk.same hW hS ls hL)
    · cases h
  · cases h
theorem am_i_lcmp {f : am_Cf} (C : am_C p s m args meth c cc cn mx ini z0 sa dC dI dA pr Hz) (hW : am_Wd z0 sa dC dI dA σ H) (hS : va_S (fun q => z0 ≤ q) s.heap H locs) (hL : am_L (am_rho z0 sa) ls mx lv) {len : Nat} (hd : decode cc pc = .ok (.lcmp, len)) (h : am_st1 pr cn mx ini pc lv st σ (.lcmp) len = some f) (kk : am_K p l e R s m args below meth c Q mx z0 sa dC dI dA cells slots σ f) : am_G p l e R s m args below meth c Q z0 sa cells slots H locs pc ls st := by
  obtain ⟨hx, hb, hml, hown, hts, hini, hK, hF, hE, hz, hzs⟩ := C
  dsimp only [am_st1] at h
  split at h
  · rename_i hl
    subst hl
    split at h
    · cases h
      exact W.lcmp hx hb hd (kk.same hW hS ls hL)
    · cases h
  · cases h
theorem am_i_idiv {f : am_Cf} (C : am_C p s m args meth c cc cn mx ini z0 sa dC dI dA pr Hz) (hW : am_Wd z0 sa dC dI dA σ H) (hS : va_S (fun q => z0 ≤ q) s.heap H locs) (hL : am_L (am_rho z0 sa) ls mx lv) {len : Nat} (hd : decode cc pc = .ok (.idiv, len)) (h : am_st1 pr cn mx ini pc lv st σ (.idiv) len = some f) (kk : am_K p l e R s m args below meth c Q mx z0 sa dC dI dA cells slots σ f) : am_G p l e R s m args below meth c Q z0 sa cells slots H locs pc ls st := by
  obtain ⟨hx, hb, hml, hown, hts, hini, hK, hF, hE, hz, hzs⟩ := C
  dsimp only [am_st1] at h
  split at h
  · rename_i hl
    subst hl
    split at h
    · split at h
      · cases h
      · rename_i hne
        cases h
        exact lv_idiv hx hb hd hne (kk.same hW hS ls hL)
    · cases h
  · cases h
theorem am_i_irem {f : am_Cf} (C : am_C p s m args meth c cc cn mx ini z0 sa dC dI dA pr Hz) (hW : am_Wd z0 sa dC dI dA σ H) (hS : va_S (fun q => z0 ≤ q) s.heap H locs) (hL : am_L (am_rho z0 sa) ls mx lv) {len : Nat} (hd : decode cc pc = .ok (.irem, len)) (h : am_st1 pr cn mx ini pc lv st σ (.irem) len = some f) (kk : am_K p l e R s m args below meth c Q mx z0 sa dC dI dA cells slots σ f) : am_G p l e R s m args below meth c Q z0 sa cells slots H locs pc ls st := by
  obtain ⟨hx, hb, hml, hown, hts, hini, hK, hF, hE, hz, hzs⟩ := C
  dsimp only [am_st1] at h
  split at h
  · rename_i hl
    subst hl
    split at h
    · split at h
      · cases h
      · rename_i hne
        cases h
        exact lv_irem hx hb hd hne (kk.same hW hS ls hL)
    · cases h
  · cases h
theorem am_i_ldiv {f : am_Cf} (C : am_C p s m args meth c cc cn mx ini z0 sa dC dI dA pr Hz) (hW : am_Wd z0 sa dC dI dA σ H) (hS : va_S (fun q => z0 ≤ q) s.heap H locs) (hL : am_L (am_rho z0 sa) ls mx lv) {len : Nat} (hd : decode cc pc = .ok (.ldiv, len)) (h : am_st1 pr cn mx ini pc lv st σ (.ldiv) len = some f) (kk : am_K p l e R s m args below meth c Q mx z0 sa dC dI dA cells slots σ f) : am_G p l e R s m args below meth c Q z0 sa cells slots H locs pc ls st := by
  obtain ⟨hx, hb, hml, hown, hts, hini, hK, hF, hE, hz, hzs⟩ := C
  dsimp only [am_st1] at h
  split at h
  · rename_i hl
    subst hl
    split at h
    · split at h
      · cases h
      · rename_i hne
        cases h
        exact lv_ldiv hx hb hd hne (kk.same hW hS ls hL)
    · cases h
  · cases h
theorem am_i_lrem {f : am_Cf} (C : am_C p s m args meth c cc cn mx ini z0 sa dC dI dA pr Hz) (hW : am_Wd z0 sa dC dI dA σ H) (hS : va_S (fun q => z0 ≤ q) s.heap H locs) (hL : am_L (am_rho z0 sa) ls mx lv) {len : Nat} (hd : decode cc pc = .ok (.lrem, len)) (h : am_st1 pr cn mx ini pc lv st σ (.lrem) len = some f) (kk : am_K p l e R s m args below meth c Q mx z0 sa dC dI dA cells slots σ f) : am_G p l e R s m args below meth c Q z0 sa cells slots H locs pc ls st := by
  obtain ⟨hx, hb, hml, hown, hts, hini, hK, hF, hE, hz, hzs⟩ := C
  dsimp only [am_st1] at h
  split at h
  · rename_i hl
    subst hl
    split at h
    · split at h
      · cases h
      · rename_i hne
        cases h
        exact lv_lrem hx hb hd hne (kk.same hW hS ls hL)
    · cases h
  · cases h
theorem am_i_dup {f : am_Cf} (C : am_C p s m args meth c cc cn mx ini z0 sa dC dI dA pr Hz) (hW : am_Wd z0 sa dC dI dA σ H) (hS : va_S (fun q => z0 ≤ q) s.heap H locs) (hL : am_L (am_rho z0 sa) ls mx lv) {len : Nat} (hd : decode cc pc = .ok (.dup, len)) (h : am_st1 pr cn mx ini pc lv st σ (.dup) len = some f) (kk : am_K p l e R s m args below meth c Q mx z0 sa dC dI dA cells slots σ f) : am_G p l e R s m args below meth c Q z0 sa cells slots H locs pc ls st := by
  obtain ⟨hx, hb, hml, hown, hts, hini, hK, hF, hE, hz, hzs⟩ := C
  dsimp only [am_st1] at h
  split at h
  · rename_i hl
    subst hl
    split at h
    · split at h
      · rename_i hc
        cases h
        exact lv_dup hx hb hd (by rw [am_tr_cat]; exact hc) (kk.same hW hS ls hL)
      · cases h
    · cases h
  · cases h
theorem am_i_pop {f : am_Cf} (C : am_C p s m args meth c cc cn mx ini z0 sa dC dI dA pr Hz) (hW : am_Wd z0 sa dC dI dA σ H) (hS : va_S (fun q => z0 ≤ q) s.heap H locs) (hL : am_L (am_rho z0 sa) ls mx lv) {len : Nat} (hd : decode cc pc = .ok (.pop, len)) (h : am_st1 pr cn mx ini pc lv st σ (.pop) len = some f) (kk : am_K p l e R s m args below meth c Q mx z0 sa dC dI dA cells slots σ f) : am_G p l e R s m args below meth c Q z0 sa cells slots H locs pc ls st := by
  obtain ⟨hx, hb, hml, hown, hts, hini, hK, hF, hE, hz, hzs⟩ := C
  dsimp only [am_st1] at h
  split at h
  · rename_i hl
    subst hl
    split at h
    · split at h
      · rename_i hc
        cases h
        exact lv_pop hx hb hd (by rw [am_tr_cat]; exact hc) (kk.same hW hS ls hL)
      · cases h
    · cases h
  · cases h
theorem am_i_dup2 {f : am_Cf} (C : am_C p s m args meth c cc cn mx ini z0 sa dC dI dA pr Hz) (hW : am_Wd z0 sa dC dI dA σ H) (hS : va_S (fun q => z0 ≤ q) s.heap H locs) (hL : am_L (am_rho z0 sa) ls mx lv) {len : Nat} (hd : decode cc pc = .ok (.dup2, len)) (h : am_st1 pr cn mx ini pc lv st σ (.dup2) len = some f) (kk : am_K p l e R s m args below meth c Q mx z0 sa dC dI dA cells slots σ f) : am_G p l e R s m args below meth c Q z0 sa cells slots H locs pc ls st := by
  obtain ⟨hx, hb, hml, hown, hts, hini, hK, hF, hE, hz, hzs⟩ := C
  dsimp only [am_st1] at h
  split at h
  · rename_i hl
    subst hl
    split at h
    · split at h
      · rename_i hc
        cases h
        exact lv_dup2_11 hx hb hd (by rw [am_tr_cat]; exact hc.1) (by rw [am_tr_cat]; exact hc.2) (kk.same hW hS ls hL)
      · cases h
    · cases h
  · cases h
theorem am_i_goto {f : am_Cf} (C : am_C p s m args meth c cc cn mx ini z0 sa dC dI dA pr Hz) (hW : am_Wd z0 sa dC dI dA σ H) (hS : va_S (fun q => z0 ≤ q) s.heap H locs) (hL : am_L (am_rho z0 sa) ls mx lv) {off : Int} {len : Nat} (hd : decode cc pc = .ok (.goto off, len)) (h : am_st1 pr cn mx ini pc lv st σ (.goto off) len = some f) (kk : am_K p l e R s m args below meth c Q mx z0 sa dC dI dA cells slots σ f) : am_G p l e R s m args below meth c Q z0 sa cells slots H locs pc ls st := by
  obtain ⟨hx, hb, hml, hown, hts, hini, hK, hF, hE, hz, hzs⟩ := C
  dsimp only [am_st1] at h
  split at h
  · rename_i hl
    subst hl
    obtain ⟨t, ht, rfl⟩ := Option.map_eq_some_iff.mp h
    exact lv_goto hx hb hd (am_tgt_spec ht) (kk.same hW hS ls hL)
  · cases h
theorem am_i_if_eq {f : am_Cf} (C : am_C p s m args meth c cc cn mx ini z0 sa dC dI dA pr Hz) (hW : am_Wd z0 sa dC dI dA σ H) (hS : va_S (fun q => z0 ≤ q) s.heap H locs) (hL : am_L (am_rho z0 sa) ls mx lv) {off : Int} {len : Nat} (hd : decode cc pc = .ok (.ifCond .eq off, len)) (h : am_st1 pr cn mx ini pc lv st σ (.ifCond .eq off) len = some f) (kk : am_K p l e R s m args below meth c Q mx z0 sa dC dI dA cells slots σ f) : am_G p l e R s m args below meth c Q z0 sa cells slots H locs pc ls st := by
  obtain ⟨hx, hb, hml, hown, hts, hini, hK, hF, hE, hz, hzs⟩ := C
  dsimp only [am_st1] at h
  split at h
  · rename_i hl
    subst hl
    split at h
    · unfold am_br at h
      split at h
      · rename_i t ht
        split at h
        · rename_i hq
          cases h
          exact lv_if_eq hx hb hd (am_tgt_spec ht) (fun _ => kk.same hW hS ls hL) (fun z => absurd (of_decide_eq_true hq) z)
        · rename_i hq
          cases h
          exact lv_if_eq hx hb hd (am_tgt_spec ht) (fun z => absurd (decide_eq_true z) hq) (fun _ => kk.same hW hS ls hL)
      · cases h
    · cases h
  · cases h
theorem am_i_icmp_eq {f : am_Cf} (C : am_C p s m args meth c cc cn mx ini z0 sa dC dI dA pr Hz) (hW : am_Wd z0 sa dC dI dA σ H) (hS : va_S (fun q => z0 ≤ q) s.heap H locs) (hL : am_L (am_rho z0 sa) ls mx lv) {off : Int} {len : Nat} (hd : decode cc pc = .ok (.if_icmp .eq off, len)) (h : am_st1 pr cn mx ini pc lv st σ (.if_icmp .eq off) len = some f) (kk : am_K p l e R s m args below meth c Q mx z0 sa dC dI dA cells slots σ f) : am_G p l e R s m args below meth c Q z0 sa cells slots H locs pc ls st := by
  obtain ⟨hx, hb, hml, hown, hts, hini, hK, hF, hE, hz, hzs⟩ := C
  dsimp only [am_st1] at h
  split at h
  · rename_i hl
    subst hl
    split at h
    · unfold am_br at h
      split at h
      · rename_i t ht
        split at h
        · rename_i hq
          cases h
          exact lv_icmp_eq hx hb hd (am_tgt_spec ht) (fun _ => kk.same hW hS ls hL) (fun z => absurd (of_decide_eq_true hq) z)
        · rename_i hq
          cases h
          exact lv_icmp_eq hx hb hd (am_tgt_spec ht) (fun z => absurd (decide_eq_true z) hq) (fun _ => kk.same hW hS ls hL)
      · cases h
    · cases h
  · cases h
theorem am_i_if_ne {f : am_Cf} (C : am_C p s m args meth c cc cn mx ini z0 sa dC dI dA pr Hz) (hW : am_Wd z0 sa dC dI dA σ H) (hS : va_S (fun q => z0 ≤ q) s.heap H locs) (hL : am_L (am_rho z0 sa) ls mx lv) {off : Int} {len : Nat} (hd : decode cc pc = .ok (.ifCond .ne off, len)) (h : am_st1 pr cn mx ini pc lv st σ (.ifCond .ne off) len = some f) (kk : am_K p l e R s m args below meth c Q mx z0 sa dC dI dA cells slots σ f) : am_G p l e R s m args below meth c Q z0 sa cells slots H locs pc ls st := by
  obtain ⟨hx, hb, hml, hown, hts, hini, hK, hF, hE, hz, hzs⟩ := C
  dsimp only [am_st1] at h
  split at h
  · rename_i hl
    subst hl
    split at h
    · unfold am_br at h
      split at h
      · rename_i t ht
        split at h
        · rename_i hq
          cases h
          exact lv_if_ne hx hb hd (am_tgt_spec ht) (fun _ => kk.same hW hS ls hL) (fun z => absurd z (of_decide_eq_true hq))
        · rename_i hq
          cases h
          exact lv_if_ne hx hb hd (am_tgt_spec ht) (fun z => absurd (decide_eq_true z) hq) (fun _ => kk.same hW hS ls hL)
      · cases h
    · cases h
  · cases h
theorem am_i_icmp_ne {f : am_Cf} (C : am_C p s m args meth c cc cn mx ini z0 sa dC dI dA pr Hz) (hW : am_Wd z0 sa dC dI dA σ H) (hS : va_S (fun q => z0 ≤ q) s.heap H locs) (hL : am_L (am_rho z0 sa) ls mx lv) {off : Int} {len : Nat} (hd : decode cc pc = .ok (.if_icmp .ne off, len)) (h : am_st1 pr cn mx ini pc lv st σ (.if_icmp .ne off) len = some f) (kk : am_K p l e R s m args below meth c Q mx z0 sa dC dI dA cells slots σ f) : am_G p l e R s m args below meth c Q z0 sa cells slots H locs pc ls st := by
  obtain ⟨hx, hb, hml, hown, hts, hini, hK, hF, hE, hz, hzs⟩ := C
  dsimp only [am_st1] at h
  split at h
  · rename_i hl
    subst hl
    split at h
    · unfold am_br at h
      split at h
      · rename_i t ht
        split at h
        · rename_i hq
          cases h
          exact lv_icmp_ne hx hb hd (am_tgt_spec ht) (fun _ => kk.same hW hS ls hL) (fun z => absurd z (of_decide_eq_true hq))
        · rename_i hq
          cases h
          exact lv_icmp_ne hx hb hd (am_tgt_spec ht) (fun z => absurd (decide_eq_true z) hq) (fun _ => kk.same hW hS ls hL)
      · cases h
    · cases h
  · cases h
theorem am_i_if_lt {f : am_Cf} (C : am_C p s m args meth c cc cn mx ini z0 sa dC dI dA pr Hz) (hW : am_Wd z0 sa dC dI dA σ H) (hS : va_S (fun q => z0 ≤ q) s.heap H locs) (hL : am_L (am_rho z0 sa) ls mx lv) {off : Int} {len : Nat} (hd : decode cc pc = .ok (.ifCond .lt off, len)) (h : am_st1 pr cn mx ini pc lv st σ (.ifCond .lt off) len = some f) (kk : am_K p l e R s m args below meth c Q mx z0 sa dC dI dA cells slots σ f) : am_G p l e R s m args below meth c Q z0 sa cells slots H locs pc ls st := by
  obtain ⟨hx, hb, hml, hown, hts, hini, hK, hF, hE, hz, hzs⟩ := C
  dsimp only [am_st1] at h
  split at h
  · rename_i hl
    subst hl
    split at h
    · unfold am_br at h
      split at h
      · rename_i t ht
        split at h
        · rename_i hq
          cases h
          exact lv_if_lt hx hb hd (am_tgt_spec ht) (fun _ => kk.same hW hS ls hL) (fun z => absurd (of_decide_eq_true hq) z)
        · rename_i hq
          cases h
          exact lv_if_lt hx hb hd (am_tgt_spec ht) (fun z => absurd (decide_eq_true z) hq) (fun _ => kk.same hW hS ls hL)
      · cases h
    · cases h
  · cases h
theorem am_i_icmp_lt {f : am_Cf} (C : am_C p s m args meth c cc cn mx ini z0 sa dC dI dA pr Hz) (hW : am_Wd z0 sa dC dI dA σ H) (hS : va_S (fun q => z0 ≤ q) s.heap H locs) (hL : am_L (am_rho z0 sa) ls mx lv) {off : Int} {len : Nat} (hd : decode cc pc = .ok (.if_icmp .lt off, len)) (h : am_st1 pr cn mx ini pc lv st σ (.if_icmp .lt off) len = some f) (kk : am_K p l e R s m args below meth c Q mx z0 sa dC dI dA cells slots σ f) : am_G p l e R s m args below meth c Q z0 sa cells slots H locs pc ls st := by
  obtain ⟨hx, hb, hml, hown, hts, hini, hK, hF, hE, hz, hzs⟩ := C
  dsimp only [am_st1] at h
  split at h
  · rename_i hl
    subst hl
    split at h
    · unfold am_br at h
      split at h
      · rename_i t ht
        split at h
        · rename_i hq
          cases h
          exact lv_icmp_lt hx hb hd (am_tgt_spec ht) (fun _ => kk.same hW hS ls hL) (fun z => absurd (of_decide_eq_true hq) z)
        · rename_i hq
          cases h
          exact lv_icmp_lt hx hb hd (am_tgt_spec ht) (fun z => absurd (decide_eq_true z) hq) (fun _ => kk.same hW hS ls hL)
      · cases h
    · cases h
  · cases h
theorem am_i_if_ge {f : am_Cf} (C : am_C p s m args meth c cc cn mx ini z0 sa dC dI dA pr Hz) (hW : am_Wd z0 sa dC dI dA σ H) (hS : va_S (fun q => z0 ≤ q) s.heap H locs) (hL : am_L (am_rho z0 sa) ls mx lv) {off : Int} {len : Nat} (hd : decode cc pc = .ok (.ifCond .ge off, len)) (h : am_st1 pr cn mx ini pc lv st σ (.ifCond .ge off) len = some f) (kk : am_K p l e R s m args below meth c Q mx z0 sa dC dI dA cells slots σ f) : am_G p l e R s m args below meth c Q z0 sa cells slots H locs pc ls st := by
  obtain ⟨hx, hb, hml, hown, hts, hini, hK, hF, hE, hz, hzs⟩ := C
  dsimp only [am_st1] at h
  split at h
  · rename_i hl
    subst hl
    split at h
    · unfold am_br at h
      split at h
      · rename_i t ht
        split at h
        · rename_i hq
          cases h
          exact lv_if_ge hx hb hd (am_tgt_spec ht) (fun _ => kk.same hW hS ls hL) (fun z => absurd (of_decide_eq_true hq) z)
        · rename_i hq
          cases h
          exact lv_if_ge hx hb hd (am_tgt_spec ht) (fun z => absurd (decide_eq_true z) hq) (fun _ => kk.same hW hS ls hL)
      · cases h
    · cases h
  · cases h
theorem am_i_icmp_ge {f : am_Cf} (C : am_C p s m args meth c cc cn mx ini z0 sa dC dI dA pr Hz) (hW : am_Wd z0 sa dC dI dA σ H) (hS : va_S (fun q => z0 ≤ q) s.heap H locs) (hL : am_L (am_rho z0 sa) ls mx lv) {off : Int} {len : Nat} (hd : decode cc pc = .ok (.if_icmp .ge off, len)) (h : am_st1 pr cn mx ini pc lv st σ (.if_icmp .ge off) len = some f) (kk : am_K p l e R s m args below meth c Q mx z0 sa dC dI dA cells slots σ f) : am_G p l e R s m args below meth c Q z0 sa cells slots H locs pc ls st := by
  obtain ⟨hx, hb, hml, hown, hts, hini, hK, hF, hE, hz, hzs⟩ := C
  dsimp only [am_st1] at h
  split at h
  · rename_i hl
    subst hl
    split at h
    · unfold am_br at h
      split at h
      · rename_i t ht
        split at h
        · rename_i hq
          cases h
          exact lv_icmp_ge hx hb hd (am_tgt_spec ht) (fun _ => kk.same hW hS ls hL) (fun z => absurd (of_decide_eq_true hq) z)
        · rename_i hq
          cases h
          exact lv_icmp_ge hx hb hd (am_tgt_spec ht) (fun z => absurd (decide_eq_true z) hq) (fun _ => kk.same hW hS ls hL)
      · cases h
    · cases h
  · cases h
theorem am_i_if_gt {f : am_Cf} (C : am_C p s m args meth c cc cn mx ini z0 sa dC dI dA pr Hz) (hW : am_Wd z0 sa dC dI dA σ H) (hS : va_S (fun q => z0 ≤ q) s.heap H locs) (hL : am_L (am_rho z0 sa) ls mx lv) {off : Int} {len : Nat} (hd : decode cc pc = .ok (.ifCond .gt off, len)) (h : am_st1 pr cn mx ini pc lv st σ (.ifCond .gt off) len = some f) (kk : am_K p l e R s m args below meth c Q mx z0 sa dC dI dA cells slots σ f) : am_G p l e R s m args below meth c Q z0 sa cells slots H locs pc ls st := by
  obtain ⟨hx, hb, hml, hown, hts, hini, hK, hF, hE, hz, hzs⟩ := C
  dsimp only [am_st1] at h
  split at h
  · rename_i hl
    subst hl
    split at h
    · unfold am_br at h
      split at h
      · rename_i t ht
        split at h
        · rename_i hq
          cases h
          exact lv_if_gt hx hb hd (am_tgt_spec ht) (fun _ => kk.same hW hS ls hL) (fun z => absurd (of_decide_eq_true hq) z)
        · rename_i hq
          cases h
          exact lv_if_gt hx hb hd (am_tgt_spec ht) (fun z => absurd (decide_eq_true z) hq) (fun _ => kk.same hW hS ls hL)
      · cases h
    · cases h
  · cases h
theorem am_i_icmp_gt {f : am_Cf} (C : am_C p s m args meth c cc cn mx ini z0 sa dC dI dA pr Hz) (hW : am_Wd z0 sa dC dI dA σ H) (hS : va_S (fun q => z0 ≤ q) s.heap H locs) (hL : am_L (am_rho z0 sa) ls mx lv) {off : Int} {len : Nat} (hd : decode cc pc = .ok (.if_icmp .gt off, len)) (h : am_st1 pr cn mx ini pc lv st σ (.if_icmp .gt off) len = some f) (kk : am_K p l e R s m args below meth c Q mx z0 sa dC dI dA cells slots σ f) : am_G p l e R s m args below meth c Q z0 sa cells slots H locs pc ls st := by
  obtain ⟨hx, hb, hml, hown, hts, hini, hK, hF, hE, hz, hzs⟩ := C
  dsimp only [am_st1] at h
  split at h
  · rename_i hl
    subst hl
    split at h
    · unfold am_br at h
      split at h
      · rename_i t ht
        split at h
        · rename_i hq
          cases h
          exact lv_icmp_gt hx hb hd (am_tgt_spec ht) (fun _ => kk.same hW hS ls hL) (fun z => absurd (of_decide_eq_true hq) z)
        · rename_i hq
          cases h
          exact lv_icmp_gt hx hb hd (am_tgt_spec ht) (fun z => absurd (decide_eq_true z) hq) (fun _ => kk.same hW hS ls hL)
      · cases h
    · cases h
  · cases h
theorem am_i_if_le {f : am_Cf} (C : am_C p s m args meth c cc cn mx ini z0 sa dC dI dA pr Hz) (hW : am_Wd z0 sa dC dI dA σ H) (hS : va_S (fun q => z0 ≤ q) s.heap H locs) (hL : am_L (am_rho z0 sa) ls mx lv) {off : Int} {len : Nat} (hd : decode cc pc = .ok (.ifCond .le off, len)) (h : am_st1 pr cn mx ini pc lv st σ (.ifCond .le off) len = some f) (kk : am_K p l e R s m args below meth c Q mx z0 sa dC dI dA cells slots σ f) : am_G p l e R s m args below meth c Q z0 sa cells slots H locs pc ls st := by
  obtain ⟨hx, hb, hml, hown, hts, hini, hK, hF, hE, hz, hzs⟩ := C
  dsimp only [am_st1] at h
  split at h
  · rename_i hl
    subst hl
    split at h
    · unfold am_br at h
      split at h
      · rename_i t ht
        split at h
        · rename_i hq
          cases h
          exact lv_if_le hx hb hd (am_tgt_spec ht) (fun _ => kk.same hW hS ls hL) (fun z => absurd (of_decide_eq_true hq) z)
        · rename_i hq
          cases h
          exact lv_if_le hx hb hd (am_tgt_spec ht) (fun z => absurd (decide_eq_true z) hq) (fun _ => kk.same hW hS ls hL)
      · cases h
    · cases h
  · cases h
theorem am_i_icmp_le {f : am_Cf} (C : am_C p s m args meth c cc cn mx ini z0 sa dC dI dA pr Hz) (hW : am_Wd z0 sa dC dI dA σ H) (hS : va_S (fun q => z0 ≤ q) s.heap H locs) (hL : am_L (am_rho z0 sa) ls mx lv) {off : Int} {len : Nat} (hd : decode cc pc = .ok (.if_icmp .le off, len)) (h : am_st1 pr cn mx ini pc lv st σ (.if_icmp .le off) len = some f) (kk : am_K p l e R s m args below meth c Q mx z0 sa dC dI dA cells slots σ f) : am_G p l e R s m args below meth c Q z0 sa cells slots H locs pc ls st := by
  obtain ⟨hx, hb, hml, hown, hts, hini, hK, hF, hE, hz, hzs⟩ := C
  dsimp only [am_st1] at h
  split at h
  · rename_i hl
    subst hl
    split at h
    · unfold am_br at h
      split at h
      · rename_i t ht
        split at h
        · rename_i hq
          cases h
          exact lv_icmp_le hx hb hd (am_tgt_spec ht) (fun _ => kk.same hW hS ls hL) (fun z => absurd (of_decide_eq_true hq) z)
        · rename_i hq
          cases h
          exact lv_icmp_le hx hb hd (am_tgt_spec ht) (fun z => absurd (decide_eq_true z) hq) (fun _ => kk.same hW hS ls hL)
      · cases h
    · cases h
  · cases h
theorem am_i_ifnull {f : am_Cf} (C : am_C p s m args meth c cc cn mx ini z0 sa dC dI dA pr Hz) (hW : am_Wd z0 sa dC dI dA σ H) (hS : va_S (fun q => z0 ≤ q) s.heap H locs) (hL : am_L (am_rho z0 sa) ls mx lv) {off : Int} {len : Nat} (hd : decode cc pc = .ok (.ifnull off, len)) (h : am_st1 pr cn mx ini pc lv st σ (.ifnull off) len = some f) (kk : am_K p l e R s m args below meth c Q mx z0 sa dC dI dA cells slots σ f) : am_G p l e R s m args below meth c Q z0 sa cells slots H locs pc ls st := by
  obtain ⟨hx, hb, hml, hown, hts, hini, hK, hF, hE, hz, hzs⟩ := C
  dsimp only [am_st1] at h
  split at h
  · rename_i hl
    subst hl
    split at h
    · unfold am_br at h
      split at h
      · rename_i t ht
        cases h
        exact lv_ifnullN hx hb hd (am_tgt_spec ht) (kk.same hW hS ls hL)
      · cases h
    · unfold am_br at h
      split at h
      · cases h
        exact lv_ifnull hx hb hd (kk.same hW hS ls hL)
      · cases h
    · cases h
  · cases h
theorem am_i_ifnonnull {f : am_Cf} (C : am_C p s m args meth c cc cn mx ini z0 sa dC dI dA pr Hz) (hW : am_Wd z0 sa dC dI dA σ H) (hS : va_S (fun q => z0 ≤ q) s.heap H locs) (hL : am_L (am_rho z0 sa) ls mx lv) {off : Int} {len : Nat} (hd : decode cc pc = .ok (.ifnonnull off, len)) (h : am_st1 pr cn mx ini pc lv st σ (.ifnonnull off) len = some f) (kk : am_K p l e R s m args below meth c Q mx z0 sa dC dI dA cells slots σ f) : am_G p l e R s m args below meth c Q z0 sa cells slots H locs pc ls st := by
  obtain ⟨hx, hb, hml, hown, hts, hini, hK, hF, hE, hz, hzs⟩ := C
  dsimp only [am_st1] at h
  split at h
  · rename_i hl
    subst hl
    split at h
    · unfold am_br at h
      split at h
      · cases h
        exact lv_ifnonnullN hx hb hd (kk.same hW hS ls hL)
      · cases h
    · unfold am_br at h
      split at h
      · rename_i t ht
        cases h
        exact lv_ifnonnull hx hb hd (am_tgt_spec ht) (kk.same hW hS ls hL)
      · cases h
    · cases h
  · cases h
theorem am_i_tableswitch {f : am_Cf} (C : am_C p s m args meth c cc cn mx ini z0 sa dC dI dA pr Hz) (hW : am_Wd z0 sa dC dI dA σ H) (hS : va_S (fun q => z0 ≤ q) s.heap H locs) (hL : am_L (am_rho z0 sa) ls mx lv) {dflt lo hi : Int} {offs : Array Int} {len : Nat} (hd : decode cc pc = .ok (.tableswitch dflt lo hi offs, len)) (h : am_st1 pr cn mx ini pc lv st σ (.tableswitch dflt lo hi offs) len = some f) (kk : am_K p l e R s m args below meth c Q mx z0 sa dC dI dA cells slots σ f) : am_G p l e R s m args below meth c Q z0 sa cells slots H locs pc ls st := by
  obtain ⟨hx, hb, hml, hown, hts, hini, hK, hF, hE, hz, hzs⟩ := C
  dsimp only [am_st1] at h
  split at h
  · obtain ⟨t, ht, rfl⟩ := Option.map_eq_some_iff.mp h
    split at ht
    · rename_i hq
      exact lv_tableOut hx hb hd hq (am_tgt_spec ht) (kk.same hW hS ls hL)
    · rename_i hq
      obtain ⟨off, ho, ht⟩ := Option.bind_eq_some_iff.mp ht
      exact lv_tableIn hx hb hd (fun z => hq (Or.inl z)) (fun z => hq (Or.inr z)) ho (am_tgt_spec ht) (kk.same hW hS ls hL)
  · cases h
theorem am_i_lookupswitch {f : am_Cf} (C : am_C p s m args meth c cc cn mx ini z0 sa dC dI dA pr Hz) (hW : am_Wd z0 sa dC dI dA σ H) (hS : va_S (fun q => z0 ≤ q) s.heap H locs) (hL : am_L (am_rho z0 sa) ls mx lv) {dflt : Int} {ps : Array (Int × Int)} {len : Nat} (hd : decode cc pc = .ok (.lookupswitch dflt ps, len)) (h : am_st1 pr cn mx ini pc lv st σ (.lookupswitch dflt ps) len = some f) (kk : am_K p l e R s m args below meth c Q mx z0 sa dC dI dA cells slots σ f) : am_G p l e R s m args below meth c Q z0 sa cells slots H locs pc ls st := by
  obtain ⟨hx, hb, hml, hown, hts, hini, hK, hF, hE, hz, hzs⟩ := C
  dsimp only [am_st1] at h
  split at h
  · split at h
    · rename_i hp
      obtain ⟨t, ht, rfl⟩ := Option.map_eq_some_iff.mp h
      exact lv_lookup hx hb hd hp rfl (am_tgt_spec ht) (kk.same hW hS ls hL)
    · cases h
  · cases h
theorem am_i_ldc {f : am_Cf} (C : am_C p s m args meth c cc cn mx ini z0 sa dC dI dA pr Hz) (hW : am_Wd z0 sa dC dI dA σ H) (hS : va_S (fun q => z0 ≤ q) s.heap H locs) (hL : am_L (am_rho z0 sa) ls mx lv) {k : Nat} {len : Nat} (hd : decode cc pc = .ok (.ldc k, len)) (h : am_st1 pr cn mx ini pc lv st σ (.ldc k) len = some f) (kk : am_K p l e R s m args below meth c Q mx z0 sa dC dI dA cells slots σ f) : am_G p l e R s m args below meth c Q z0 sa cells slots H locs pc ls st := by
  obtain ⟨hx, hb, hml, hown, hts, hini, hK, hF, hE, hz, hzs⟩ := C
  dsimp only [am_st1] at h
  split at h
  · rename_i hl
    subst hl
    split at h
    · rename_i q hq
      cases h
      exact lv_ldc hx hb hown (hts _ (am_ilink hq)) hd (kk.same hW hS ls hL)
    · split at h
      · rename_i i hq
        cases h
        obtain ⟨rfl, tx, ht⟩ := am_tlink hq
        have hz := hF.2.2.2.2.2.2.1 i _ ht
        have hlt : i < 28 := (List.getElem?_eq_some_iff.mp ht).1
        have e1 : am_tr (am_rho z0 sa) (.ref (4 + i)) = .ref (sa (4 + i)) := by simp [am_tr, am_rho]; omega
        have k0 := kk.same hW hS ls hL
        simp only [List.map_cons, e1] at k0
        exact va_ldcS hx hb hown hz hd k0
      · cases h
  · cases h
theorem am_i_ldc_w {f : am_Cf} (C : am_C p s m args meth c cc cn mx ini z0 sa dC dI dA pr Hz) (hW : am_Wd z0 sa dC dI dA σ H) (hS : va_S (fun q => z0 ≤ q) s.heap H locs) (hL : am_L (am_rho z0 sa) ls mx lv) {k : Nat} {len : Nat} (hd : decode cc pc = .ok (.ldc_w k, len)) (h : am_st1 pr cn mx ini pc lv st σ (.ldc_w k) len = some f) (kk : am_K p l e R s m args below meth c Q mx z0 sa dC dI dA cells slots σ f) : am_G p l e R s m args below meth c Q z0 sa cells slots H locs pc ls st := by
  obtain ⟨hx, hb, hml, hown, hts, hini, hK, hF, hE, hz, hzs⟩ := C
  dsimp only [am_st1] at h
  split at h
  · rename_i hl
    subst hl
    split at h
    · rename_i q hq
      cases h
      exact lv_ldcw hx hb hown (hts _ (am_ilink hq)) hd (kk.same hW hS ls hL)
    · cases h
  · cases h
theorem am_i_ldc2_w {f : am_Cf} (C : am_C p s m args meth c cc cn mx ini z0 sa dC dI dA pr Hz) (hW : am_Wd z0 sa dC dI dA σ H) (hS : va_S (fun q => z0 ≤ q) s.heap H locs) (hL : am_L (am_rho z0 sa) ls mx lv) {k : Nat} {len : Nat} (hd : decode cc pc = .ok (.ldc2_w k, len)) (h : am_st1 pr cn mx ini pc lv st σ (.ldc2_w k) len = some f) (kk : am_K p l e R s m args below meth c Q mx z0 sa dC dI dA cells slots σ f) : am_G p l e R s m args below meth c Q z0 sa cells slots H locs pc ls st := by
  obtain ⟨hx, hb, hml, hown, hts, hini, hK, hF, hE, hz, hzs⟩ := C
  dsimp only [am_st1] at h
  split at h
  · rename_i hl
    subst hl
    split at h
    · rename_i q hq
      cases h
      exact lv_ldc2 hx hb hown (hts _ (am_jlink hq)) hd (kk.same hW hS ls hL)
    · cases h
  · cases h
end AmStep
