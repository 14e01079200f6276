section AmSound
variable {p : Program} {l : Launch} {e : Env} {R : Room} {s : State} {m : MethodId} {args : Array Value} {below : List Frame} {meth : Method} {c : Code} {H : Heap} {locs : List Loc} {cells slots : Nat} {Q : State → Prop}
variable {cc : ByteArray} {cn mx : Nat} {ini : Bool} {z0 : Nat} {sa : Nat → Nat} {dC : Nat → ClassId} {dI : Nat → Nat → Nat} {dA : Nat → ClassId} {pr : am_Pr} {Hz : Heap} {pc : Nat} {ls : Array Slot} {lv : List (Nat × Value)} {st : List Value} {σ : am_H}
theorem am_mlink {cn k : Nat} {q : Nat × Nat × Nat} (h : am_ml.lookup (am_key cn k) = some q) : am_key cn k / 10000 = cn ∧ am_key cn k % 10000 = k ∧ am_ml_ok (am_key cn k, q) = true := by
  obtain ⟨hm, h1, h2⟩ := am_key_of am_ml_z h
  exact ⟨h1, h2, List.all_eq_true.mp am_ml_all _ hm⟩
theorem am_i_objinit {f : am_Cf} {k i0 mj len : Nat} (C : am_C p s m args meth c cc cn mx ini z0 sa dC dI dA pr Hz) (hW : am_Wd z0 sa dC dI dA σ H) (hS : va_S (fun q => z0 ≤ q) s.heap H locs) (hL : am_L (am_rho z0 sa) ls mx lv) (hd : decode cc pc = .ok (.invokespecial k, 3)) (hm : am_ml.lookup (am_key cn k) = some (mj, 4, i0)) (h : am_nat 4 pc lv st σ = some f) (hfr : 1 ≤ R.frames) (hlo : 60 ≤ R.locals) (kk : am_K p l e R s m args below meth c Q mx z0 sa dC dI dA cells slots σ f) : am_G p l e R s m args below meth c Q z0 sa cells slots H locs pc ls st := by
  obtain ⟨hx, hb, hml, hown, hts, hini, hK, hF, hE, hz, hzs⟩ := C
  obtain ⟨h1, h2, h3⟩ := am_mlink hm
  simp only [am_ml_ok] at h3
  rw [h1, h2] at h3
  unfold am_nat at h
  split at h
  · rename_i a r hk9
    split at h
    · rename_i hc
      cases h
      exact W.objInit (g := F0 m pc ls (.ref (am_rho z0 sa a) :: r.map (am_tr (am_rho z0 sa)))) hx hb hown (hts _ (am_is_mem h3)) (hts _ (am_is_mem (i := 151) (by decide +kernel))) (hts _ (am_is_mem (i := 152) (by decide +kernel))) rfl (by rw [hml]; exact hL.1) rfl hd hfr (by rw [am_cat_tr]; show 2 * 0 + _ + 12 ≤ _; omega) (kk.same hW hS ls hL)
    · cases h
  · rename_i hh; cases hh
  · rename_i hh; cases hh
  · rename_i hh; cases hh
  · cases h
theorem am_i_max {f : am_Cf} {k i0 mj : Nat} (C : am_C p s m args meth c cc cn mx ini z0 sa dC dI dA pr Hz) (hW : am_Wd z0 sa dC dI dA σ H) (hS : va_S (fun q => z0 ≤ q) s.heap H locs) (hL : am_L (am_rho z0 sa) ls mx lv) (hd : decode cc pc = .ok (.invokestatic k, 3)) (hm : am_ml.lookup (am_key cn k) = some (mj, 6, i0)) (h : am_nat 6 pc lv st σ = some f) (hfr : 1 ≤ R.frames) (hlo : 60 ≤ R.locals) (hcl : cells ≤ R.cells) (hsl : slots ≤ R.slots) (kk : am_K p l e R s m args below meth c Q mx z0 sa dC dI dA cells slots σ f) : am_G p l e R s m args below meth c Q z0 sa cells slots H locs pc ls st := by
  obtain ⟨hx, hb, hml, hown, hts, hini, hK, hF, hE, hz, hzs⟩ := C
  obtain ⟨h1, h2, h3⟩ := am_mlink hm
  simp only [am_ml_ok] at h3
  rw [h1, h2] at h3
  unfold am_nat at h
  split at h
  · rename_i hh; cases hh
  · rename_i hh; cases hh
  · rename_i y x r
    split at h
    · rename_i hc
      cases h
      exact va_mmax hx hb (by rw [hml]; exact hL.1.symm) hown (hts _ (am_is_mem h3)) (hts _ (am_is_mem (i := 296) (by decide +kernel))) (hts _ (am_is_mem (i := 135) (by decide +kernel))) (hts _ (am_is_mem (i := 297) (by decide +kernel))) hfr (by rw [am_cat_tr]; omega) hcl hsl hd (kk.same hW hS ls hL)
    · cases h
  · rename_i hh; cases hh
  · cases h
theorem am_i_min {f : am_Cf} {k i0 mj : Nat} (C : am_C p s m args meth c cc cn mx ini z0 sa dC dI dA pr Hz) (hW : am_Wd z0 sa dC dI dA σ H) (hS : va_S (fun q => z0 ≤ q) s.heap H locs) (hL : am_L (am_rho z0 sa) ls mx lv) (hd : decode cc pc = .ok (.invokestatic k, 3)) (hm : am_ml.lookup (am_key cn k) = some (mj, 7, i0)) (h : am_nat 7 pc lv st σ = some f) (hfr : 1 ≤ R.frames) (hlo : 60 ≤ R.locals) (hcl : cells ≤ R.cells) (hsl : slots ≤ R.slots) (kk : am_K p l e R s m args below meth c Q mx z0 sa dC dI dA cells slots σ f) : am_G p l e R s m args below meth c Q z0 sa cells slots H locs pc ls st := by
  obtain ⟨hx, hb, hml, hown, hts, hini, hK, hF, hE, hz, hzs⟩ := C
  obtain ⟨h1, h2, h3⟩ := am_mlink hm
  simp only [am_ml_ok] at h3
  rw [h1, h2] at h3
  unfold am_nat at h
  split at h
  · rename_i hh; cases hh
  · rename_i hh; cases hh
  · rename_i hh; cases hh
  · rename_i y x r
    split at h
    · rename_i hc
      cases h
      exact va_mmin hx hb (by rw [hml]; exact hL.1.symm) hown (hts _ (am_is_mem h3)) (hts _ (am_is_mem (i := 551) (by decide +kernel))) (hts _ (am_is_mem (i := 135) (by decide +kernel))) (hts _ (am_is_mem (i := 552) (by decide +kernel))) hfr (by rw [am_cat_tr]; omega) hcl hsl hd (kk.same hW hS ls hL)
    · cases h
  · cases h
theorem am_nn (z : Int32) (hz : ¬ z < 0) : z.toInt = (z.toNatClampNeg : Int) := by
  have hz0 : (0 : Int) ≤ z.toInt := by
    have := Int32.not_lt.mp hz
    simpa using Int32.le_iff_toInt_le.mp this
  show z.toInt = ((z.toInt.toNat : Nat) : Int)
  omega
theorem am_i_copy {f : am_Cf} {k i0 mj : Nat} (C : am_C p s m args meth c cc cn mx ini z0 sa dC dI dA pr Hz) (hW : am_Wd z0 sa dC dI dA σ H) (hS : va_S (fun q => z0 ≤ q) s.heap H locs) (hL : am_L (am_rho z0 sa) ls mx lv) (hd : decode cc pc = .ok (.invokestatic k, 3)) (hm : am_ml.lookup (am_key cn k) = some (mj, 5, i0)) (h : am_nat 5 pc lv st σ = some f) (hfr : 1 ≤ R.frames) (hlo : 60 ≤ R.locals) (kk : am_K p l e R s m args below meth c Q mx z0 sa dC dI dA cells slots σ f) : am_G p l e R s m args below meth c Q z0 sa cells slots H locs pc ls st := by
  obtain ⟨hx, hb, hml, hown, hts, hini, hK, hF, hE, hz, hzs⟩ := C
  obtain ⟨hk1, hk2, hk3⟩ := am_mlink hm
  simp only [am_ml_ok] at hk3
  rw [hk1, hk2] at hk3
  unfold am_nat at h
  split at h
  · rename_i hh; cases hh
  · rename_i n dp a sp a0 r hk9
    split at h
    · rename_i n0 n1 hq0 hq1
      split at h
      · rename_i hc
        obtain ⟨c1, c2, c3, c4, c5, c6, c7, c8⟩ := hc
        cases h
        have ha0 := am_arI (z0 := z0) (sa := sa) (dA := dA) c2 hq0 (by simp)
        have ha1 := am_arI (z0 := z0) (sa := sa) (dA := dA) c1 hq1 (by simp)
        have hnf : nativeFrameWords "java/lang/System" "arraycopy" 5 = 7 := by decide +kernel
        intro T hT X
        have hc0 : H[am_rho z0 sa a0]? = some (vp_cell (dA 0) (n0, .inl (σ.2.1 a0))) := hW.2.2 _ _ ha0
        have hc1 : H[am_rho z0 sa a]? = some (vp_cell (dA 0) (n1, .inl (σ.2.1 a))) := hW.2.2 _ _ ha1
        obtain ⟨-, k0, hk0, cm0, hkk0⟩ := (hK.2 0 _ rfl).1 n0 (fun j => .int (σ.2.1 a0 j))
        obtain ⟨vm', X', step⟩ := X.arraycopy hx hown (hts _ (am_is_mem hk3)) (hts (.native arraycopyName) (am_is_mem (i := 875) (by decide +kernel))) (hts (.static arraycopyName) (am_is_mem (i := 874) (by decide +kernel))) (hts (.initialized "java/lang/System") (am_is_mem (i := 144) (by decide +kernel))) (src := am_rho z0 sa a0) (dst := am_rho z0 sa a) (cs := vp_cell (dA 0) (n0, .inl (σ.2.1 a0))) (cd := vp_cell (dA 0) (n1, .inl (σ.2.1 a))) (srcPos := sp) (destPos := dp) (n := n) (by rw [hT]; exact hc0) (by rw [hT]; exact hc1)
          (fun _ h => by cases h) (fun _ h => by cases h) (fun h => by cases h) (fun h => by cases h) hk0 hk0 hkk0 hkk0 (by simp [refKind]) c4 c5 c6
          (by rw [am_nn sp c4, am_nn n c6]; show ¬ _ > ((arrV (dA 0) n0 (fun j => .int (σ.2.1 a0 j))).slots.size : Int); rw [arrV_size]; omega)
          (by rw [am_nn dp c5, am_nn n c6]; show ¬ _ > ((arrV (dA 0) n1 (fun j => .int (σ.2.1 a j))).slots.size : Int); rw [arrV_size]; omega)
          (fun vm₁ _ i hi => by
            have e : (vp_cell (dA 0) (n0, .inl (σ.2.1 a0))).slots.getD (sp.toNatClampNeg + i) .null = .int (σ.2.1 a0 (sp.toNatClampNeg + i)) := by
              show (arrV (dA 0) n0 (fun j => .int (σ.2.1 a0 j))).slots.getD _ _ = _
              rw [Array.getD_eq_getD_getElem?, arrV_read _ _ (by omega)]
              rfl
            refine ⟨?_, ?_⟩
            · rw [e]
              rfl
            · rw [e]
              exact trivial)
          (g := F0 m pc ls (.int n :: .int dp :: .ref (am_rho z0 sa a) :: .int sp :: .ref (am_rho z0 sa a0) :: r.map (am_tr (am_rho z0 sa)))) rfl (by rw [hml]; exact hL.1) (rest := r.map (am_tr (am_rho z0 sa))) rfl (by rw [hb]; exact hd) hfr (by rw [am_cat_tr]; show 2 * 0 + _ + _ ≤ _; rw [hnf]; omega)
        have e1 : copied (vp_cell (dA 0) (n0, .inl (σ.2.1 a0))) (vp_cell (dA 0) (n1, .inl (σ.2.1 a))) sp dp n = vp_cell (dA 0) (n1, .inl (va_cpy (σ.2.1 a0) (σ.2.1 a) sp.toNatClampNeg dp.toNatClampNeg n.toNatClampNeg)) := va_copied (fun z => .int z) (dA 0) (dA 0) (σ.2.1 a0) (σ.2.1 a) c7
        rw [e1] at X' step
        have hl : am_rho z0 sa a < H.size := (Array.getElem?_eq_some_iff.mp hc1).1
        have hheap : ((T.setVm vm').setCell (am_rho z0 sa a) (vp_cell (dA 0) (n1, .inl (va_cpy (σ.2.1 a0) (σ.2.1 a) sp.toNatClampNeg dp.toNatClampNeg n.toNatClampNeg)))).heap = H.setIfInBounds (am_rho z0 sa a) (vp_cell (dA 0) (n1, .inl (va_cpy (σ.2.1 a0) (σ.2.1 a) sp.toNatClampNeg dp.toNatClampNeg n.toNatClampNeg))) := by rw [← hT]; rfl
        have oq : ∀ q : Nat, q ≠ am_rho z0 sa a → (H.setIfInBounds (am_rho z0 sa a) (vp_cell (dA 0) (n1, .inl (va_cpy (σ.2.1 a0) (σ.2.1 a) sp.toNatClampNeg dp.toNatClampNeg n.toNatClampNeg))))[q]? = H[q]? := fun q hq => by simp [Array.getElem?_setIfInBounds, Ne.symm hq]
        have hW' := am_after (τ := (σ.1, am_row σ.2.1 a (va_cpy (σ.2.1 a0) (σ.2.1 a) sp.toNatClampNeg dp.toNatClampNeg n.toNatClampNeg), σ.2.2.1, σ.2.2.2)) (H1 := H.setIfInBounds (am_rho z0 sa a) (vp_cell (dA 0) (n1, .inl (va_cpy (σ.2.1 a0) (σ.2.1 a) sp.toNatClampNeg dp.toNatClampNeg n.toNatClampNeg)))) hW c1 hq1 rfl (fun b hb => am_elt_I (a := a) (am_row_ne hb)) (by
          show (H.setIfInBounds (am_rho z0 sa a) _)[am_rho z0 sa a]? = some (vp_cell (dA 0) (n1, .inl (am_row σ.2.1 a _ a)))
          rw [am_row_eq]
          simp [Array.getElem?_setIfInBounds, hl]) (by simp) oq
        obtain ⟨t, a1, b1⟩ := kk.mem rfl hW' (locs' := _) ⟨by simp; exact hS.1, fun q g1 g2 => by
            rw [oq q (fun e => g2 (by rw [e]; exact am_rho_hi c1))]
            exact hS.2.1 q g1 g2, fun q hq => by
            rcases List.mem_append.mp hq with h | h
            · exact hS.2.2 q h
            · obtain ⟨z, -, hz⟩ := List.mem_map.mp h
              rw [← hz]
              exact am_rho_hi c1⟩ hL _ hheap X'
        exact ⟨t, step t a1, b1⟩
      · cases h
    · cases h
  · rename_i hh; cases hh
  · rename_i hh; cases hh
  · cases h
end AmSound
