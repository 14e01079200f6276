section AmMem
variable {p : Program} {l : Launch} {e : Env} {R : Room} {s : State} {m : MethodId} {args : Array Value} {below : List Frame} {meth : Method} {c : Code} {H : Heap} {locs : List Loc} {cells slots : Nat} {Q : State → Prop}
variable {cc : ByteArray} {cn mx : Nat} {ini : Bool} {z0 : Nat} {sa : Nat → Nat} {dC : Nat → ClassId} {dI : Nat → Nat → Nat} {dA : Nat → ClassId} {pr : am_Pr} {Hz : Heap} {pc : Nat} {ls : Array Slot} {lv : List (Nat × Value)} {st : List Value} {σ : am_H}
theorem am_e1 (a : Nat) (h : 4 ≤ a ∧ a < 32) : am_rho z0 sa (a + 32) = sa (36 + (a - 4)) := by
  rw [show 36 + (a - 4) = a + 32 by omega]
  exact if_pos (by omega)
theorem am_e2 (a : Nat) (h : 4 ≤ a ∧ a < 32) : am_rho z0 sa a = sa (4 + (a - 4)) := by
  rw [show 4 + (a - 4) = a by omega]
  exact if_pos (by omega)
theorem am_e3 (a : Nat) (h : 4 ≤ a ∧ a < 32) : a - 4 < 28 := by omega
theorem am_rho_lo {a : Nat} (h : a < 64) : am_rho z0 sa a = sa a := if_pos h
/-- an object's cell in the list -/
theorem am_obj {a ci n : Nat} (h : 64 ≤ a) (hc : ci < 10) (hq : σ.1[a]? = some (ci, n)) : (am_ws z0 (am_rho z0 sa) dA σ)[a - 64]? = some (am_rho z0 sa a, .inr (ci, am_flds (am_rho z0 sa) σ a ci n)) := by
  rw [am_ws_at h hq]
  simp only [am_el]
  rw [if_pos (show ci < 20 by omega)]
theorem am_flds_get {ρ : Nat → Nat} {a ci n k : Nat} (hk : k < n) : (am_flds ρ σ a ci n)[k]? = some (am_tr ρ (am_fv σ a (am_kd (am_ty ci k)) k)) := by
  simp [am_flds, hk]
theorem am_flds_len {ρ : Nat → Nat} {a ci n : Nat} : (am_flds ρ σ a ci n).length = n := by simp [am_flds]
theorem am_flds_set {ρ : Nat → Nat} {τ : am_H} {a ci n k : Nat} {v : Value} (hk : k < n) (hv : am_tr ρ (am_fv τ a (am_kd (am_ty ci k)) k) = v) (ho : ∀ j, j ≠ k → am_fv τ a (am_kd (am_ty ci j)) j = am_fv σ a (am_kd (am_ty ci j)) j) : (am_flds ρ σ a ci n).set k v = am_flds ρ τ a ci n := by
  apply List.ext_getElem?
  intro j
  by_cases hj : j = k
  · subst hj
    rw [List.getElem?_set_self (by rw [am_flds_len]; exact hk), am_flds_get hk, hv]
  · rw [List.getElem?_set_ne (fun z => hj z.symm)]
    by_cases hn : j < n
    · rw [am_flds_get hn, am_flds_get hn, ho j hj]
    · rw [List.getElem?_eq_none_iff.mpr (by rw [am_flds_len]; omega), List.getElem?_eq_none_iff.mpr (by rw [am_flds_len]; omega)]
theorem am_i_getstatic {f : am_Cf} (C : am_C p s m args meth c cc cn mx ini z0 sa dC dI dA pr Hz) (hW : am_Wd z0 sa dC dI dA σ H) (hS : va_S (fun q => z0 ≤ q) s.heap H locs) (hL : am_L (am_rho z0 sa) ls mx lv) {k len : Nat} (hd : decode cc pc = .ok (.getstatic k, len)) (h : am_st1 pr cn mx ini pc lv st σ (.getstatic k) len = some f) (kk : am_K p l e R s m args below meth c Q mx z0 sa dC dI dA cells slots σ f) : am_G p l e R s m args below meth c Q z0 sa cells slots H locs pc ls st := by
  obtain ⟨hx, hb, hml, hown, hts, hini, hK, hF, hE, hz, hzs⟩ := C
  have hk := am_kept hE hz
  have key : ∀ c0 i0 : Nat, am_key cn k = c0 * 10000 + i0 → i0 < 10000 → c0 * 10000 + i0 < 9999999 → cn = c0 ∧ k = i0 := by
    intro c0 i0 e1 e2 e3
    unfold am_key at e1
    split at e1
    · omega
    · omega
  dsimp only [am_st1] at h
  split at h
  · rename_i hl
    subst hl
    split at h
    · rename_i hq
      obtain ⟨rfl, rfl⟩ := key 0 21 hq (by omega) (by omega)
      cases h
      have k0 := kk.same hW hS ls hL
      exact va_getsN hx hb (hF.1.kept hk) hS hown (va_Nw.use rfl hF.2.2.2.2.2.2.2.1) (fun x h => h) hd k0
    · rename_i hq
      obtain ⟨rfl, rfl⟩ := key 8 158 hq (by omega) (by omega)
      cases h
      have k0 := kk.same hW hS ls hL
      exact va_gets hx hb (hF.1.kept hk) hS hown (hts (.fieldLink "RookHouse" 158 "RookHouse" "MOST_OF_TERM" "[I") (am_is_mem (i := 636) (by decide +kernel))) (fun x h => h) hd k0
    · rename_i hq
      obtain ⟨rfl, rfl⟩ := key 8 392 hq (by omega) (by omega)
      cases h
      have k0 := kk.same hW hS ls hL
      exact va_gets hx hb (hF.2.1.kept hk) hS hown (hts (.fieldLink "RookHouse" 392 "RookHouse" "ORDERS_OF" "[I") (am_is_mem (i := 1041) (by decide +kernel))) (fun x h => h) hd k0
    · rename_i hq
      obtain ⟨rfl, rfl⟩ := key 13 38 hq (by omega) (by omega)
      cases h
      have k0 := kk.same hW hS ls hL
      exact va_gets hx hb (hF.2.2.1.kept hk) hS hown (hts (.fieldLink "java/lang/String" 38 "java/lang/String" "COMPACT_STRINGS" "Z") (am_is_mem (i := 725) (by decide +kernel))) (fun x h => h) hd k0
    · rename_i hq
      obtain ⟨rfl, rfl⟩ := key 13 1053 hq (by omega) (by omega)
      cases h
      have k0 := kk.same hW hS ls hL
      refine va_gets hx hb (hF.2.2.2.1.kept hk) hS hown (hts (.fieldLink "java/lang/String" 1053 "jdk/internal/util/Preconditions" "SIOOBE_FORMATTER" "Ljava/util/function/BiFunction;") (am_is_mem (i := 741) (by decide +kernel))) (fun x h => h) hd ?_
      have e : am_tr (am_rho z0 sa) (if pr.2.2 then Value.null else .ref 3) = (if pr.2.2 then Value.null else .ref (sa 3)) := by split <;> rfl
      simp only [List.map_cons, e] at k0
      exact k0
    · cases h
  · cases h
theorem am_i_getfield {f : am_Cf} (C : am_C p s m args meth c cc cn mx ini z0 sa dC dI dA pr Hz) (hW : am_Wd z0 sa dC dI dA σ H) (hS : va_S (fun q => z0 ≤ q) s.heap H locs) (hL : am_L (am_rho z0 sa) ls mx lv) {k len : Nat} (hd : decode cc pc = .ok (.getfield k, len)) (h : am_st1 pr cn mx ini pc lv st σ (.getfield k) len = some f) (kk : am_K p l e R s m args below meth c Q mx z0 sa dC dI dA cells slots σ f) : am_G p l e R s m args below meth c Q z0 sa cells slots H locs pc ls st := by
  obtain ⟨hx, hb, hml, hown, hts, hini, hK, hF, hE, hz, hzs⟩ := C
  have hkp := am_kept hE hz
  have key : ∀ c0 i0 : Nat, am_key cn k = c0 * 10000 + i0 → i0 < 10000 → c0 * 10000 + i0 < 9999999 → cn = c0 ∧ k = i0 := by
    intro c0 i0 e1 e2 e3
    unfold am_key at e1
    split at e1
    · omega
    · omega
  dsimp only [am_st1] at h
  split at h
  · rename_i hl
    subst hl
    split at h
    · rename_i a r
      split at h
      · rename_i q hq
        split at h
        · rename_i ha
          cases h
          obtain ⟨f1, f2, f3, f4⟩ := am_flink hq
          exact va_get hx hb hts (am_uin q.1 f2) hown hK hW.2.2 (a - 64) (am_obj ha.1 f2 ha.2) (am_cl_get q.1 f2) q.2.1 f3 (hts _ f1) (fun x h => h) (am_flds_get f3) hd (kk.same hW hS ls hL)
        · cases h
      · split at h
        · rename_i hq
          obtain ⟨rfl, rfl⟩ := key 13 9 hq (by omega) (by omega)
          by_cases ha : 4 ≤ a ∧ a < 32
          · rw [if_pos ha] at h
            cases h
            have k0 := kk.same hW hS ls hL
            have e1 : am_tr (am_rho z0 sa) (.ref (a + 32)) = .ref (sa (36 + (a - 4))) := congrArg Value.ref (am_e1 a ha)
            have e2 := am_e2 (z0 := z0) (sa := sa) a ha
            simp only [List.map_cons, e1] at k0
            have hv := ((hF.2.2.2.2.2.1.kept hkp) (a - 4) (am_e3 a ha)).2.2
            show W p l e R s m args below meth c H locs cells slots Q (F0 m pc ls (.ref (am_rho z0 sa a) :: r.map (am_tr (am_rho z0 sa))))
            rw [e2]
            exact vk_getf hx hb hv hS hown (hts (.fieldLink "java/lang/String" 9 "java/lang/String" "value" "[B") (am_is_mem (i := 1886) (by decide +kernel))) (fun x h => h) hd k0
          · rw [if_neg ha] at h
            cases h
        · rename_i hq
          obtain ⟨rfl, rfl⟩ := key 13 15 hq (by omega) (by omega)
          by_cases ha : 4 ≤ a ∧ a < 32
          · rw [if_pos ha] at h
            cases h
            have k0 := kk.same hW hS ls hL
            have e2 := am_e2 (z0 := z0) (sa := sa) a ha
            have hv := ((hF.2.2.2.2.2.1.kept hkp) (a - 4) (am_e3 a ha)).2.1
            show W p l e R s m args below meth c H locs cells slots Q (F0 m pc ls (.ref (am_rho z0 sa a) :: r.map (am_tr (am_rho z0 sa))))
            rw [e2]
            exact vk_getf hx hb hv hS hown (hts (.fieldLink "java/lang/String" 15 "java/lang/String" "coder" "B") (am_is_mem (i := 1887) (by decide +kernel))) (fun x h => h) hd k0
          · rw [if_neg ha] at h
            cases h
        · cases h
    · cases h
  · cases h
/-- what a store of a field does -/
theorem am_putf_spec {τ : am_H} {a ci k n : Nat} {v : Value} (h : am_putf σ a ci k v = some τ) (ha : 64 ≤ a) (hc : ci < 10) (hq : σ.1[a]? = some (ci, n)) (hk : k < n) : τ.1 = σ.1 ∧ narrow (am_ty ci k) (am_tr (am_rho z0 sa) v) = am_tr (am_rho z0 sa) v ∧ fits (am_ty ci k) (am_tr (am_rho z0 sa) v) = true ∧ (am_ws z0 (am_rho z0 sa) dA σ).set (a - 64) (am_rho z0 sa a, .inr (ci, (am_flds (am_rho z0 sa) σ a ci n).set k (am_tr (am_rho z0 sa) v))) = am_ws z0 (am_rho z0 sa) dA τ := by
  have fin : ∀ τ : am_H, τ.1 = σ.1 → (∀ b, b ≠ a → am_elt (am_rho z0 sa) dA τ b = am_elt (am_rho z0 sa) dA σ b) → am_tr (am_rho z0 sa) (am_fv τ a (am_kd (am_ty ci k)) k) = am_tr (am_rho z0 sa) v → (∀ j, j ≠ k → am_fv τ a (am_kd (am_ty ci j)) j = am_fv σ a (am_kd (am_ty ci j)) j) → (am_ws z0 (am_rho z0 sa) dA σ).set (a - 64) (am_rho z0 sa a, .inr (ci, (am_flds (am_rho z0 sa) σ a ci n).set k (am_tr (am_rho z0 sa) v))) = am_ws z0 (am_rho z0 sa) dA τ := by
    intro τ h1 h2 h3 h4
    refine am_ws_set ha hq h1 h2 ?_
    simp only [am_el]
    rw [if_pos (show ci < 20 by omega), am_flds_set hk h3 h4]
  have oI : ∀ (x : Int32) (j : Nat), j ≠ k → am_fv (σ.1, am_u σ.2.1 a k x, σ.2.2.1, σ.2.2.2) a (am_kd (am_ty ci j)) j = am_fv σ a (am_kd (am_ty ci j)) j := by
    intro x j hj
    unfold am_fv
    split <;> simp [am_u, hj]
  have oJ : ∀ (x : Int64) (j : Nat), j ≠ k → am_fv (σ.1, σ.2.1, am_u σ.2.2.1 a k x, σ.2.2.2) a (am_kd (am_ty ci j)) j = am_fv σ a (am_kd (am_ty ci j)) j := by
    intro x j hj
    unfold am_fv
    split <;> simp [am_u, hj]
  have oP : ∀ (x : Option Nat) (j : Nat), j ≠ k → am_fv (σ.1, σ.2.1, σ.2.2.1, am_u σ.2.2.2 a k x) a (am_kd (am_ty ci j)) j = am_fv σ a (am_kd (am_ty ci j)) j := by
    intro x j hj
    unfold am_fv
    split <;> simp [am_u, hj]
  unfold am_putf at h
  split at h
  · rename_i x hkd
    cases h
    have ht : am_ty ci k = .int := by revert hkd; cases am_ty ci k <;> simp [am_kd]
    refine ⟨rfl, by rw [ht]; rfl, by rw [ht]; rfl, fin _ rfl (fun b hb => am_elt_I (a := a) (am_u_ne hb)) ?_ (oI x)⟩
    simp [hkd, am_fv, am_u]
  · rename_i x hkd
    split at h
    · rename_i h01
      cases h
      have ht : am_ty ci k = .boolean := by revert hkd; cases am_ty ci k <;> simp [am_kd]
      refine ⟨rfl, ?_, ?_, fin _ rfl (fun b hb => am_elt_I (a := a) (am_u_ne hb)) ?_ (oI x)⟩
      · rw [ht]; rcases h01 with rfl | rfl <;> rfl
      · rw [ht]; rcases h01 with rfl | rfl <;> rfl
      · simp [hkd, am_fv, am_u]
    · cases h
  · rename_i x hkd
    cases h
    have ht : am_ty ci k = .long := by revert hkd; cases am_ty ci k <;> simp [am_kd]
    refine ⟨rfl, by rw [ht]; rfl, by rw [ht]; rfl, fin _ rfl (fun b hb => am_elt_J (a := a) (am_u_ne hb)) ?_ (oJ x)⟩
    simp [hkd, am_fv, am_u]
  · rename_i b0 hkd
    cases h
    have ht : (∃ C, am_ty ci k = .object C) ∨ ∃ t, am_ty ci k = .array t := by revert hkd; cases am_ty ci k <;> simp [am_kd]
    refine ⟨rfl, ?_, ?_, fin _ rfl (fun b hb => am_elt_P (a := a) (am_u_ne hb)) ?_ (oP _)⟩
    · rcases ht with ⟨t, ht⟩ | ⟨t, ht⟩ <;> rw [ht] <;> rfl
    · rcases ht with ⟨t, ht⟩ | ⟨t, ht⟩ <;> rw [ht] <;> rfl
    · simp [hkd, am_fv, am_u, va_rf]
  · rename_i hkd
    cases h
    have ht : (∃ C, am_ty ci k = .object C) ∨ ∃ t, am_ty ci k = .array t := by revert hkd; cases am_ty ci k <;> simp [am_kd]
    refine ⟨rfl, ?_, ?_, fin _ rfl (fun b hb => am_elt_P (a := a) (am_u_ne hb)) ?_ (oP _)⟩
    · rcases ht with ⟨t, ht⟩ | ⟨t, ht⟩ <;> rw [ht] <;> rfl
    · rcases ht with ⟨t, ht⟩ | ⟨t, ht⟩ <;> rw [ht] <;> rfl
    · simp [hkd, am_fv, am_u, va_rf]
  · cases h
theorem am_Wd_set {τ : am_H} {H1 : Heap} (hW : am_Wd z0 sa dC dI dA σ H) (ht : τ.1 = σ.1) (hz : H1.size = H.size) (hP : va_P (dC, dI) am_cl (am_ws z0 (am_rho z0 sa) dA τ) H1) : am_Wd z0 sa dC dI dA τ H1 := ⟨by rw [ht]; exact hW.1, by rw [ht, hz]; exact hW.2.1, hP⟩
/-- behind a store into one cell -/
theorem am_after {τ : am_H} {a : Nat} {q : Nat × Nat} {H1 : Heap} (hW : am_Wd z0 sa dC dI dA σ H) (ha : 64 ≤ a) (hq : σ.1[a]? = some q) (ht : τ.1 = σ.1) (ho : ∀ b, b ≠ a → am_elt (am_rho z0 sa) dA τ b = am_elt (am_rho z0 sa) dA σ b) (hat : va_at (dC, dI) am_cl (am_rho z0 sa a, am_el (am_rho z0 sa) dA τ a q.1 q.2) H1) (z : H1.size = H.size) (oq : ∀ q : Nat, q ≠ am_rho z0 sa a → H1[q]? = H[q]?) : am_Wd z0 sa dC dI dA τ H1 := by
  have h1 := hW.2.2.set am_ws_D (am_ws_at ha hq) hat oq
  rw [am_ws_set (e := am_el (am_rho z0 sa) dA τ a q.1 q.2) ha hq ht ho rfl] at h1
  exact am_Wd_set hW ht z h1
theorem am_rho_hi {a : Nat} (h : 64 ≤ a) : z0 ≤ am_rho z0 sa a := by
  have e : am_rho z0 sa a = z0 + (a - 64) := if_neg (by omega)
  omega
theorem am_i_putfield {f : am_Cf} (C : am_C p s m args meth c cc cn mx ini z0 sa dC dI dA pr Hz) (hW : am_Wd z0 sa dC dI dA σ H) (hS : va_S (fun q => z0 ≤ q) s.heap H locs) (hL : am_L (am_rho z0 sa) ls mx lv) {k len : Nat} (hd : decode cc pc = .ok (.putfield k, len)) (h : am_st1 pr cn mx ini pc lv st σ (.putfield k) len = some f) (kk : am_K p l e R s m args below meth c Q mx z0 sa dC dI dA cells slots σ f) : am_G p l e R s m args below meth c Q z0 sa cells slots H locs pc ls st := by
  obtain ⟨hx, hb, hml, hown, hts, hini, hK, hF, hE, hz, hzs⟩ := C
  dsimp only [am_st1] at h
  split at h
  · rename_i hl
    subst hl
    split at h
    · rename_i v a r
      split at h
      · rename_i q hq
        split at h
        · rename_i ha
          obtain ⟨τ, ht, rfl⟩ := Option.map_eq_some_iff.mp h
          obtain ⟨f1, f2, f3, f4⟩ := am_flink hq
          obtain ⟨g1, g2, g3, g4⟩ := am_putf_spec (z0 := z0) (sa := sa) (dA := dA) ht ha.1 f2 ha.2.1 f3
          have he := am_obj (z0 := z0) (sa := sa) (dA := dA) ha.1 f2 ha.2.1
          have hc := am_cl_get q.1 f2
          have hd2 := am_ty_ok q.1 f2 q.2.1 f3
          have hin := am_uin q.1 f2
          have hl : q.2.1 < (am_flds (am_rho z0 sa) σ a q.1 (am_nf q.1)).length := by rw [am_flds_len]; exact f3
          obtain ⟨r0, h1, cell, q1, q2, q3, q4⟩ := hW.2.2 _ _ he
          have hr : r0 = (am_cn q.1, am_T q.1, am_nf q.1) := Option.some.inj (h1.symm.trans hc)
          subst hr
          obtain ⟨hSl, hfc, kC, hkC, hkind⟩ := hK.1 q.1 _ hc
          have hap := va_apart (own := am_cn cn) hts hin (am_ty q.1) (am_ty_ok q.1 f2) (am_nm_ok q.1 f2) hK hc
          obtain ⟨cf, kf, fi, fd, hi, hsl⟩ := hSl q.2.1 f3
          have hst := (u_facts hfc hkC (u_lays hts hin f3) hi).1
          have hlay := hts _ (hin _ (u_in_lay f3))
          unfold u_lay at hlay
          have fin : ∀ H' : Heap, H'[am_rho z0 sa a]? = some (cell.setSlot (dI q.1 q.2.1) (am_tr (am_rho z0 sa) v)) → H'.size = H.size → (∀ x, x ≠ am_rho z0 sa a → H'[x]? = H[x]?) → W p l e R s m args below meth c H' (locs ++ [⟨am_rho z0 sa a, dI q.1 q.2.1⟩]) cells slots Q (F0 m (pc + 3) ls (r.map (am_tr (am_rho z0 sa)))) := by
            intro H' e1 e2 e3
            refine kk.mem g1 ?_ (hS.put e2 e3 (am_rho_hi ha.1)) hL
            have h9 := hW.2.2.set (e := .inr (q.1, (am_flds (am_rho z0 sa) σ a q.1 (am_nf q.1)).set q.2.1 (am_tr (am_rho z0 sa) v))) am_ws_D he ⟨_, hc, t_OB.to (V := updV (vp_V (am_flds (am_rho z0 sa) σ a q.1 (am_nf q.1))) q.2.1 (am_tr (am_rho z0 sa) v)) ⟨_, e1, q2, q3, t_set q4 hap f3 _⟩ (fun j _ => vp_updV_set hl _ j)⟩ e3
            rw [g4] at h9
            exact am_Wd_set hW g1 e2 h9
          by_cases hfin : (am_T q.1 q.2.1).2.2.2 = true
          · rw [if_pos hfin] at hlay
            have hcf : m.cls = cf := by
              obtain ⟨_, _, c', _, _, _, -, -, hf', -, -, -, hown2, -⟩ := Cond.laysFinal_spec hlay
              have e1 : c' = cf := by have := hi.symm.trans hf'; simp at this; exact this.1.symm
              rw [f4, (ha.2.2 hfin).2] at hown2
              rw [← e1]
              exact Option.some.inj (hown.symm.trans hown2)
            have h6 := u_fits hfc hkC hkind (Or.inr hlay) hi hd2 g2 g3
            refine W.putFinK hx hb hown (hts _ f1) hi hst hcf (hini (ha.2.2 hfin).1) (by rw [q2]; exact h6) q1 q3 (by rw [hsl]; exact k2_hasslot (q4 q.2.1 f3)) rfl rfl hd fun H' e1 e2 e3 => ?_
            rw [hsl] at e1 ⊢
            exact fin H' e1 e2 e3
          · rw [if_neg hfin] at hlay
            have h6 := u_store hfc hkC hkind hlay hi hd2 g2 g3
            refine W.putK hx hb (f := fd) ⟨hown, hts _ f1, ⟨_, _, _, hi⟩, hst⟩ (by rw [q2]; exact h6) q1 q3 (by rw [hsl]; exact k2_hasslot (q4 q.2.1 f3)) rfl rfl hd fun H' e1 e2 e3 => ?_
            rw [hsl] at e1 ⊢
            exact fin H' e1 e2 e3
        · cases h
      · cases h
    · cases h
  · cases h
end AmMem
