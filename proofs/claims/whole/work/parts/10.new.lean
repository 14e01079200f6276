def am_five : FieldType → Bool
  | .int => true
  | .boolean => true
  | .long => true
  | .object _ => true
  | .array _ => true
  | _ => false
theorem am_five_all : (List.range 10).all (fun ci => (List.range (am_nf ci)).all (fun k => am_five (am_ty ci k))) = true := by decide +kernel
theorem am_ty_five (ci : Nat) (h : ci < 10) (k : Nat) (hk : k < am_nf ci) : am_ty ci k = .int ∨ am_ty ci k = .boolean ∨ am_ty ci k = .long ∨ (∃ C, am_ty ci k = .object C) ∨ ∃ t, am_ty ci k = .array t := by
  have h1 := List.all_eq_true.mp (List.all_eq_true.mp am_five_all ci (List.mem_range.mpr h)) k (List.mem_range.mpr hk)
  revert h1
  cases am_ty ci k <;> simp [am_five]
section AmNew
variable {p : Program} {l : Launch} {e : Env} {R : Room} {s : State} {m : MethodId} {args : Array Value} {below : List Frame} {meth : Method} {c : Code} {H : Heap} {locs : List Loc} {cells slots : Nat} {Q : State → Prop}
variable {cc : ByteArray} {cn mx : Nat} {ini : Bool} {z0 : Nat} {sa : Nat → Nat} {dC : Nat → ClassId} {dI : Nat → Nat → Nat} {dA : Nat → ClassId} {pr : am_Pr} {Hz : Heap} {pc : Nat} {ls : Array Slot} {lv : List (Nat × Value)} {st : List Value} {σ : am_H}
theorem am_rho_new (hW : am_Wd z0 sa dC dI dA σ H) : am_rho z0 sa σ.1.length = H.size := by
  have h1 := hW.1
  have e : am_rho z0 sa σ.1.length = z0 + (σ.1.length - 64) := if_neg (by omega)
  rw [e, hW.2.1]
/-- behind the making of a cell -/
theorem am_grown {k n : Nat} {H1 : Heap} (hW : am_Wd z0 sa dC dI dA σ H) (hS : va_S (fun q => z0 ≤ q) s.heap H locs) (hat : va_at (dC, dI) am_cl (H.size, am_el (am_rho z0 sa) dA (am_push σ k n) σ.1.length k n) H1) (z : H1.size = H.size + 1) (oq : ∀ q : Nat, q < H.size → H1[q]? = H[q]?) : am_Wd z0 sa dC dI dA (am_push σ k n) H1 ∧ va_S (fun q => z0 ≤ q) s.heap H1 locs := by
  have h64 := hW.1
  have hk : ∀ (k : Nat) (x : Nat × va_E), (am_ws z0 (am_rho z0 sa) dA σ)[k]? = some x → H1[x.1]? = H[x.1]? := fun k x hx => oq x.1 ((hW.2.2 k x hx).lt)
  have hap := am_ws_app (z0 := z0) (ρ := am_rho z0 sa) (dA := dA) (σ := σ) (τ := am_push σ k n) (c := k) (n := n) (e := am_el (am_rho z0 sa) dA (am_push σ k n) σ.1.length k n) h64 rfl (fun b hb => am_push_old hb) rfl
  have hP1 := (hW.2.2.kept hk).app (w2 := [(z0 + (σ.1.length - 64), am_el (am_rho z0 sa) dA (am_push σ k n) σ.1.length k n)]) (fun j x hx => by
    have hz : j < 1 := (List.getElem?_eq_some_iff.mp hx).1
    rw [show j = 0 by omega] at hx
    cases hx
    rw [← hW.2.1]
    exact hat)
  rw [hap] at hP1
  refine ⟨⟨by rw [am_len_push]; omega, by rw [am_len_push, z, hW.2.1]; omega, hP1⟩, ⟨Nat.le_trans hS.1 (by omega), fun x h1 h2 => (oq x (Nat.lt_of_lt_of_le h1 hS.1)).trans (hS.2.1 x h1 h2), hS.2.2⟩⟩
theorem am_K.grow {k n pc' : Nat} {st' : List Value} {H1 : Heap} (kk : am_K p l e R s m args below meth c Q mx z0 sa dC dI dA cells slots σ (pc', lv, st', am_push σ k n)) (hW : am_Wd z0 sa dC dI dA (am_push σ k n) H1) (hS : va_S (fun q => z0 ≤ q) s.heap H1 locs) (hL : am_L (am_rho z0 sa) ls mx lv) : W p l e R s m args below meth c H1 locs (cells + 1) (slots + n) Q (F0 m pc' ls (st'.map (am_tr (am_rho z0 sa)))) := by
  have k0 := kk H1 locs ls hW hS hL
  simp only [am_len_push, am_sl_push, Nat.add_sub_cancel_left] at k0
  exact k0
theorem am_i_newarray {f : am_Cf} (C : am_C p s m args meth c cc cn mx ini z0 sa dC dI dA pr Hz) (hW : am_Wd z0 sa dC dI dA σ H) (hS : va_S (fun q => z0 ≤ q) s.heap H locs) (hL : am_L (am_rho z0 sa) ls mx lv) {t : ArrayType} {len : Nat} (hd : decode cc pc = .ok (.newarray t, len)) (h : am_st1 pr cn mx ini pc lv st σ (.newarray t) len = some f) (hc : cells + (f.2.2.2.1.length - σ.1.length) ≤ R.cells) (hs : slots + (am_sl f.2.2.2 - am_sl σ) ≤ R.slots) (kk : am_K p l e R s m args below meth c Q mx z0 sa dC dI dA cells slots σ f) : am_G p l e R s m args below meth c Q z0 sa cells slots H locs pc ls st := by
  obtain ⟨hx, hb, hml, hown, hts, hini, hK, hF, hE, hz, hzs⟩ := C
  have hAC := am_arr_all
  simp only [Bool.and_eq_true] at hAC
  dsimp only [am_st1] at h
  split at h
  · rename_i hl
    subst hl
    split at h
    · rename_i n r
      split at h
      · rename_i k hk
        split at h
        · rename_i hn
          cases h
          simp only [am_len_push, am_sl_push, Nat.add_sub_cancel_left] at hc hs
          have hr := am_rho_new hW
          have fin : ∀ (ty : FieldType) (t0 : Nat) (cA : ClassId), (am_tys dA)[t0]? = some (cA, ty) → s.vm.findClass ("[" ++ ty.toString) = some cA → newarray.typeOf t = ty → Cond.arrayClass ty ∈ am_TG → componentBytes ty ≤ 8 → am_el (am_rho z0 sa) dA (am_push σ k n.toNatClampNeg) σ.1.length k n.toNatClampNeg = .inl (cA, (am_el (am_rho z0 sa) dA (am_push σ k n.toNatClampNeg) σ.1.length k n.toNatClampNeg).elim (fun q => q.2) (fun _ => (0, .inl (fun _ => 0)))) → vp_cell cA ((am_el (am_rho z0 sa) dA (am_push σ k n.toNatClampNeg) σ.1.length k n.toNatClampNeg).elim (fun q => q.2) (fun _ => (0, .inl (fun _ => 0)))) = arrV cA n.toNatClampNeg (fun _ => defaultValue ty) → am_G p l e R s m args below meth c Q z0 sa cells slots H locs pc ls (Value.int n :: r) := by
            intro ty t0 cA h1 h2 h3 h4 h5 h6 h7
            subst h3
            refine va_newaK (g := F0 m pc ls (.int n :: r.map (am_tr (am_rho z0 sa)))) hx hb (hts _ h4) rfl hd rfl hn.1 rfl (Nat.le_trans (Nat.mul_le_mul_left _ h5) hn.2) hc hs rfl fun H1 cB e1 z1 o1 hAr hNm => ?_
            cases Option.some.inj (h2.symm.trans hNm)
            have g := am_grown (k := k) (n := n.toNatClampNeg) hW hS (by rw [h6]; show H1[H.size]? = some (vp_cell _ _); rw [h7]; exact e1) z1 o1
            have k0 := kk.grow g.1 g.2 hL
            have e2 : am_tr (am_rho z0 sa) (.ref σ.1.length) = .ref H.size := congrArg Value.ref hr
            simp only [List.map_cons, e2] at k0
            exact k0
          cases t <;> simp only [am_at] at hk <;> (try (cases hk; done)) <;> cases hk
          · exact fin .boolean 1 (dA 1) rfl (hK.2 1 _ rfl).2 rfl (am_is_mem hAC.1.1.2) (by decide) rfl (by show vp_cell _ (_, .inl ((am_push σ 21 n.toNatClampNeg).2.1 σ.1.length)) = _; rw [show (am_push σ 21 n.toNatClampNeg).2.1 σ.1.length = fun _ => 0 from am_row_eq, vp_cell_i]; rfl)
          · exact fin .byte 2 (dA 2) rfl (hK.2 2 _ rfl).2 rfl (am_is_mem hAC.1.2) (by decide) rfl (by show vp_cell _ (_, .inl ((am_push σ 22 n.toNatClampNeg).2.1 σ.1.length)) = _; rw [show (am_push σ 22 n.toNatClampNeg).2.1 σ.1.length = fun _ => 0 from am_row_eq, vp_cell_i]; rfl)
          · exact fin .int 0 (dA 0) rfl (hK.2 0 _ rfl).2 rfl (am_is_mem hAC.1.1.1) (by decide) rfl (by show vp_cell _ (_, .inl ((am_push σ 20 n.toNatClampNeg).2.1 σ.1.length)) = _; rw [show (am_push σ 20 n.toNatClampNeg).2.1 σ.1.length = fun _ => 0 from am_row_eq, vp_cell_i]; rfl)
          · exact fin .long 3 (dA 3) rfl (hK.2 3 _ rfl).2 rfl (am_is_mem hAC.2) (by decide) rfl (by show vp_cell _ (_, .inr (.inl ((am_push σ 23 n.toNatClampNeg).2.2.1 σ.1.length))) = _; rw [show (am_push σ 23 n.toNatClampNeg).2.2.1 σ.1.length = fun _ => 0 from am_row_eq, vp_cell_l]; rfl)
        · cases h
      · cases h
    · cases h
  · cases h
theorem am_i_anewarray {f : am_Cf} (C : am_C p s m args meth c cc cn mx ini z0 sa dC dI dA pr Hz) (hW : am_Wd z0 sa dC dI dA σ H) (hS : va_S (fun q => z0 ≤ q) s.heap H locs) (hL : am_L (am_rho z0 sa) ls mx lv) {k len : Nat} (hd : decode cc pc = .ok (.anewarray k, len)) (h : am_st1 pr cn mx ini pc lv st σ (.anewarray k) len = some f) (hc : cells + (f.2.2.2.1.length - σ.1.length) ≤ R.cells) (hs : slots + (am_sl f.2.2.2 - am_sl σ) ≤ R.slots) (kk : am_K p l e R s m args below meth c Q mx z0 sa dC dI dA cells slots σ f) : am_G p l e R s m args below meth c Q z0 sa cells slots H locs pc ls st := by
  obtain ⟨hx, hb, hml, hown, hts, hini, hK, hF, hE, hz, hzs⟩ := C
  dsimp only [am_st1] at h
  have fin : ∀ (n : Int32) (r : List Value) (ci kd t0 : Nat) (C : String) (i0 : Nat), am_kl.lookup (am_key cn k) = some (ci, i0) → am_cn ci = C → va_AO C s → (am_tys dA)[t0]? = some (dA t0, .object C) → (∀ τ : am_H, am_el (am_rho z0 sa) dA τ σ.1.length kd n.toNatClampNeg = .inl (dA t0, n.toNatClampNeg, .inr (.inr (.inr (.inr (fun j => (τ.2.2.2 σ.1.length j).map (am_rho z0 sa))))))) → (¬ n < 0 ∧ n.toNatClampNeg * 4 ≤ 536870912) → len = 3 → f = (pc + 3, lv, .ref σ.1.length :: r, am_push σ kd n.toNatClampNeg) → am_G p l e R s m args below meth c Q z0 sa cells slots H locs pc ls (Value.int n :: r) := by
    intro n r ci kd t0 C i0 hq hC hover ht hel hn hl hf
    subst hl
    subst hf
    subst hC
    simp only [am_len_push, am_sl_push, Nat.add_sub_cancel_left] at hc hs
    have hr := am_rho_new hW
    refine W.anew (g := F0 m pc ls (.int n :: r.map (am_tr (am_rho z0 sa)))) hx hb hown (hts _ (am_klink hq).1) (va_AO.use hover) rfl hd rfl hn.1 hn.2 hc hs fun cA kA comp f1 f2 f3 f4 => ?_
    generalize hH1 : H.push ({ cls := cA, slots := Array.replicate n.toNatClampNeg .null, vm := .none } : Cell) = H1
    have z1 : H1.size = H.size + 1 := by rw [← hH1, Array.size_push]
    have e1 : H1[H.size]? = some (arrV cA n.toNatClampNeg (fun _ => .null)) := by rw [← hH1, Array.getElem?_push_size, ← arrV_new]
    have o1 : ∀ q : Nat, q < H.size → H1[q]? = H[q]? := fun q hq => by rw [← hH1, Array.getElem?_push, if_neg (Nat.ne_of_lt hq)]
    obtain ⟨kA', comp', g1, g2, g3, g4⟩ := (hK.2 t0 _ ht).2
    cases Option.some.inj (g4.symm.trans f1)
    have e5 : (am_push σ kd n.toNatClampNeg).2.2.2 σ.1.length = fun _ => none := am_row_eq
    have g := am_grown (k := kd) (n := n.toNatClampNeg) hW hS (by rw [hel]; show H1[H.size]? = some (vp_cell _ _); rw [e5, vp_cell_q]; exact e1) z1 o1
    have k0 := kk.grow g.1 g.2 hL
    have e2 : am_tr (am_rho z0 sa) (.ref σ.1.length) = .ref H.size := congrArg Value.ref hr
    simp only [List.map_cons, e2] at k0
    exact k0
  split at h
  · rename_i hl
    split at h
    · rename_i n r
      split at h
      · rename_i i0 hq
        split at h
        · rename_i hn
          exact fin n r 0 24 4 "RookHouse$House" i0 hq rfl hF.2.2.2.2.2.2.2.2.2.1 rfl (fun τ => rfl) hn hl (Option.some.inj h).symm
        · cases h
      · rename_i i0 hq
        split at h
        · rename_i hn
          exact fin n r 6 25 5 "RookHouse$Text" i0 hq rfl hF.2.2.2.2.2.2.2.2.2.2 rfl (fun τ => rfl) hn hl (Option.some.inj h).symm
        · cases h
      · cases h
    · cases h
  · cases h
theorem am_i_new {f : am_Cf} (C : am_C p s m args meth c cc cn mx ini z0 sa dC dI dA pr Hz) (hW : am_Wd z0 sa dC dI dA σ H) (hS : va_S (fun q => z0 ≤ q) s.heap H locs) (hL : am_L (am_rho z0 sa) ls mx lv) {k len : Nat} (hd : decode cc pc = .ok (.new k, len)) (h : am_st1 pr cn mx ini pc lv st σ (.new k) len = some f) (hc : cells + (f.2.2.2.1.length - σ.1.length) ≤ R.cells) (hs : slots + (am_sl f.2.2.2 - am_sl σ) ≤ R.slots) (kk : am_K p l e R s m args below meth c Q mx z0 sa dC dI dA cells slots σ f) : am_G p l e R s m args below meth c Q z0 sa cells slots H locs pc ls st := by
  obtain ⟨hx, hb, hml, hown, hts, hini, hK, hF, hE, hz, hzs⟩ := C
  dsimp only [am_st1] at h
  split at h
  · rename_i hl
    subst hl
    split at h
    · rename_i q hq
      cases h
      simp only [am_len_push, am_sl_push, Nat.add_sub_cancel_left] at hc hs
      obtain ⟨f1, f2⟩ := am_klink hq
      have hcl := am_cl_get q.1 f2
      have hKn := hK.1 q.1 _ hcl
      have hr := am_rho_new hW
      refine W.newcK (g := F0 m pc ls (st.map (am_tr (am_rho z0 sa)))) hx hb hown (hts _ f1) (hts _ (am_inst f2).1) (hts _ (am_inst f2).2) rfl hd hc hs hKn.2.1 rfl fun H1 kC hkC e1 z1 o1 => ?_
      have g := am_grown (k := q.1) (n := am_nf q.1) hW hS (by
        unfold am_el
        rw [if_pos (show q.1 < 20 by omega)]
        refine ⟨_, hcl, (u_born (am_ty q.1) hts (am_uin q.1 f2) hKn hkC e1 (am_ty_ok q.1 f2)).to (fun j hj => ?_)⟩
        have hj : j < am_nf q.1 := hj
        show _ = vp_V _ j
        unfold vp_V
        rw [List.getD_eq_getElem?_getD, am_flds_get hj]
        have a1 : (am_push σ q.1 (am_nf q.1)).2.1 σ.1.length = fun _ => 0 := am_row_eq
        have a2 : (am_push σ q.1 (am_nf q.1)).2.2.1 σ.1.length = fun _ => 0 := am_row_eq
        have a3 : (am_push σ q.1 (am_nf q.1)).2.2.2 σ.1.length = fun _ => none := am_row_eq
        have hty : am_ty q.1 j = .int ∨ am_ty q.1 j = .boolean ∨ am_ty q.1 j = .long ∨ (∃ C, am_ty q.1 j = .object C) ∨ ∃ t, am_ty q.1 j = .array t := am_ty_five q.1 f2 j hj
        rcases hty with h | h | h | ⟨C, h⟩ | ⟨t, h⟩ <;> rw [h] <;> simp [am_kd, am_fv, a1, a2, a3, defaultValue, am_tr, va_rf]) z1 o1
      have k0 := kk.grow g.1 g.2 hL
      have e2 : am_tr (am_rho z0 sa) (.ref σ.1.length) = .ref H.size := congrArg Value.ref hr
      simp only [List.map_cons, e2] at k0
      exact k0
    · cases h
  · cases h
end AmNew
