section AmArr
variable {p : Program} {l : Launch} {e : Env} {R : Room} {s : State} {m : MethodId} {args : Array Value} {below : List Frame} {meth : Method} {c : Code} {H : Heap} {locs : List Loc} {cells slots : Nat} {Q : State → Prop}
variable {cc : ByteArray} {cn mx : Nat} {ini : Bool} {z0 : Nat} {sa : Nat → Nat} {dC : Nat → ClassId} {dI : Nat → Nat → Nat} {dA : Nat → ClassId} {pr : am_Pr} {Hz : Heap} {pc : Nat} {ls : Array Slot} {lv : List (Nat × Value)} {st : List Value} {σ : am_H}
/-- the three kinds of arrays in the list of cells -/
theorem am_arI {a k n : Nat} (h : 64 ≤ a) (hq : σ.1[a]? = some (k, n)) (hk : k = 20 ∨ k = 21 ∨ k = 22) : (am_ws z0 (am_rho z0 sa) dA σ)[a - 64]? = some (am_rho z0 sa a, .inl (dA (k - 20), n, .inl (σ.2.1 a))) := by
  rw [am_ws_at h hq]
  rcases hk with rfl | rfl | rfl <;> rfl
theorem am_arJ {a n : Nat} (h : 64 ≤ a) (hq : σ.1[a]? = some (23, n)) : (am_ws z0 (am_rho z0 sa) dA σ)[a - 64]? = some (am_rho z0 sa a, .inl (dA 3, n, .inr (.inl (σ.2.2.1 a)))) := by
  rw [am_ws_at h hq]
  rfl
theorem am_arP {a k n : Nat} (h : 64 ≤ a) (hq : σ.1[a]? = some (k, n)) (hk : k = 24 ∨ k = 25) : (am_ws z0 (am_rho z0 sa) dA σ)[a - 64]? = some (am_rho z0 sa a, .inl (dA (k - 20), n, .inr (.inr (.inr (.inr (fun j => (σ.2.2.2 a j).map (am_rho z0 sa))))))) := by
  rw [am_ws_at h hq]
  rcases hk with rfl | rfl <;> rfl
theorem am_arr_hi {a : Nat} (h : 64 ≤ a) : am_arr pr σ a = σ.1[a]? := if_neg (by omega)
theorem am_arr_lo {a : Nat} {q : Nat × Nat} (h : a < 64) (hq : am_arr pr σ a = some q) : ∃ f, am_sar pr a = some (q.1, q.2, f) := by
  have e : am_arr pr σ a = (am_sar pr a).map (fun q => (q.1, q.2.1)) := if_pos h
  rw [e] at hq
  obtain ⟨x, h1, rfl⟩ := Option.map_eq_some_iff.mp hq
  exact ⟨x.2.2, h1⟩
theorem am_i_iaload {f : am_Cf} (C : am_C p s m args meth c cc cn mx ini z0 sa dC dI dA pr Hz) (hW : am_Wd z0 sa dC dI dA σ H) (hS : va_S (fun q => z0 ≤ q) s.heap H locs) (hL : am_L (am_rho z0 sa) ls mx lv) {len : Nat} (hd : decode cc pc = .ok (.iaload, len)) (h : am_st1 pr cn mx ini pc lv st σ (.iaload) len = some f) (kk : am_K p l e R s m args below meth c Q mx z0 sa dC dI dA cells slots σ f) : am_G p l e R s m args below meth c Q z0 sa cells slots H locs pc ls st := by
  obtain ⟨hx, hb, hml, hown, hts, hini, hK, hF, hE, hz, hzs⟩ := C
  have hkp := am_kept hE hz
  dsimp only [am_st1] at h
  split at h
  · rename_i hl
    subst hl
    split at h
    · rename_i i a r
      split at h
      · rename_i n hq
        split at h
        · rename_i hi
          cases h
          by_cases ha : a < 64
          · obtain ⟨g, hg⟩ := am_arr_lo ha hq
            have hT := (hF.2.2.2.2.1 a _ hg).kept hkp
            have k0 := kk.same hW hS ls hL
            have e1 : am_rho z0 sa a = sa a := am_rho_lo ha
            simp only [if_pos ha, hg, Option.getD_some] at k0
            show W p l e R s m args below meth c H locs cells slots Q (F0 m pc ls (.int i :: .ref (am_rho z0 sa a) :: r.map (am_tr (am_rho z0 sa))))
            rw [e1]
            exact va_ti hx hb hT hS (am_in_vp hi) rfl hd k0
          · have ha2 : 64 ≤ a := Nat.le_of_not_lt ha
            rw [am_arr_hi ha2] at hq
            have k0 := kk.same hW hS ls hL
            simp only [if_neg ha] at k0
            exact va_iald hx hb hK hW.2.2 (a - 64) 0 (am_arI ha2 hq (by simp)) rfl (am_in_vp hi) hd k0
        · cases h
      · cases h
    · cases h
  · cases h
theorem am_i_baload {f : am_Cf} (C : am_C p s m args meth c cc cn mx ini z0 sa dC dI dA pr Hz) (hW : am_Wd z0 sa dC dI dA σ H) (hS : va_S (fun q => z0 ≤ q) s.heap H locs) (hL : am_L (am_rho z0 sa) ls mx lv) {len : Nat} (hd : decode cc pc = .ok (.baload, len)) (h : am_st1 pr cn mx ini pc lv st σ (.baload) len = some f) (kk : am_K p l e R s m args below meth c Q mx z0 sa dC dI dA cells slots σ f) : am_G p l e R s m args below meth c Q z0 sa cells slots H locs pc ls st := by
  obtain ⟨hx, hb, hml, hown, hts, hini, hK, hF, hE, hz, hzs⟩ := C
  have hkp := am_kept hE hz
  dsimp only [am_st1] at h
  split at h
  · rename_i hl
    subst hl
    split at h
    · rename_i i a r
      split at h
      · rename_i n hq
        split at h
        · rename_i hi
          cases h
          rw [am_arr_hi hi.1] at hq
          exact va_zald hx hb hK hW.2.2 (a - 64) 1 (am_arI hi.1 hq (by simp)) rfl (am_in_vp hi.2) hd (kk.same hW hS ls hL)
        · cases h
      · rename_i n hq
        split at h
        · rename_i hi
          cases h
          by_cases ha : a < 64
          · obtain ⟨g, hg⟩ := am_arr_lo ha hq
            have hT := (hF.2.2.2.2.1 a _ hg).kept hkp
            have k0 := kk.same hW hS ls hL
            have e1 : am_rho z0 sa a = sa a := am_rho_lo ha
            simp only [if_pos ha, hg, Option.getD_some] at k0
            show W p l e R s m args below meth c H locs cells slots Q (F0 m pc ls (.int i :: .ref (am_rho z0 sa a) :: r.map (am_tr (am_rho z0 sa))))
            rw [e1]
            exact va_tb hx hb hT hS (am_in_vp hi) rfl hd k0
          · have ha2 : 64 ≤ a := Nat.le_of_not_lt ha
            rw [am_arr_hi ha2] at hq
            have k0 := kk.same hW hS ls hL
            simp only [if_neg ha] at k0
            exact va_bald hx hb hK hW.2.2 (a - 64) 2 (am_arI ha2 hq (by simp)) rfl (am_in_vp hi) hd k0
        · cases h
      · cases h
    · cases h
  · cases h
theorem am_i_laload {f : am_Cf} (C : am_C p s m args meth c cc cn mx ini z0 sa dC dI dA pr Hz) (hW : am_Wd z0 sa dC dI dA σ H) (hS : va_S (fun q => z0 ≤ q) s.heap H locs) (hL : am_L (am_rho z0 sa) ls mx lv) {len : Nat} (hd : decode cc pc = .ok (.laload, len)) (h : am_st1 pr cn mx ini pc lv st σ (.laload) len = some f) (kk : am_K p l e R s m args below meth c Q mx z0 sa dC dI dA cells slots σ f) : am_G p l e R s m args below meth c Q z0 sa cells slots H locs pc ls st := by
  obtain ⟨hx, hb, hml, hown, hts, hini, hK, hF, hE, hz, hzs⟩ := C
  have hkp := am_kept hE hz
  dsimp only [am_st1] at h
  split at h
  · rename_i hl
    subst hl
    split at h
    · rename_i i a r
      split at h
      · rename_i n hq
        split at h
        · rename_i hi
          cases h
          rw [am_arr_hi hi.1] at hq
          exact va_lald hx hb hK hW.2.2 (a - 64) 3 (am_arJ hi.1 hq) rfl (am_in_vp hi.2) hd (kk.same hW hS ls hL)
        · cases h
      · cases h
    · cases h
  · cases h
theorem am_i_aaload {f : am_Cf} (C : am_C p s m args meth c cc cn mx ini z0 sa dC dI dA pr Hz) (hW : am_Wd z0 sa dC dI dA σ H) (hS : va_S (fun q => z0 ≤ q) s.heap H locs) (hL : am_L (am_rho z0 sa) ls mx lv) {len : Nat} (hd : decode cc pc = .ok (.aaload, len)) (h : am_st1 pr cn mx ini pc lv st σ (.aaload) len = some f) (kk : am_K p l e R s m args below meth c Q mx z0 sa dC dI dA cells slots σ f) : am_G p l e R s m args below meth c Q z0 sa cells slots H locs pc ls st := by
  obtain ⟨hx, hb, hml, hown, hts, hini, hK, hF, hE, hz, hzs⟩ := C
  have hkp := am_kept hE hz
  dsimp only [am_st1] at h
  split at h
  · rename_i hl
    subst hl
    split at h
    · rename_i i a r
      split at h
      · rename_i n hq
        split at h
        · rename_i hi
          cases h
          rw [am_arr_hi hi.1] at hq
          have k0 := kk.same hW hS ls hL
          simp only [List.map_cons, am_tr_rf] at k0
          exact va_aldq hx hb hK hW.2.2 (a - 64) 4 (am_arP hi.1 hq (by simp)) rfl (am_in_vp hi.2) hd k0
        · cases h
      · rename_i n hq
        split at h
        · rename_i hi
          cases h
          rw [am_arr_hi hi.1] at hq
          have k0 := kk.same hW hS ls hL
          simp only [List.map_cons, am_tr_rf] at k0
          exact va_aldq hx hb hK hW.2.2 (a - 64) 5 (am_arP hi.1 hq (by simp)) rfl (am_in_vp hi.2) hd k0
        · cases h
      · cases h
    · cases h
  · cases h
theorem am_i_arraylength {f : am_Cf} (C : am_C p s m args meth c cc cn mx ini z0 sa dC dI dA pr Hz) (hW : am_Wd z0 sa dC dI dA σ H) (hS : va_S (fun q => z0 ≤ q) s.heap H locs) (hL : am_L (am_rho z0 sa) ls mx lv) {len : Nat} (hd : decode cc pc = .ok (.arraylength, len)) (h : am_st1 pr cn mx ini pc lv st σ (.arraylength) len = some f) (kk : am_K p l e R s m args below meth c Q mx z0 sa dC dI dA cells slots σ f) : am_G p l e R s m args below meth c Q z0 sa cells slots H locs pc ls st := by
  obtain ⟨hx, hb, hml, hown, hts, hini, hK, hF, hE, hz, hzs⟩ := C
  have hkp := am_kept hE hz
  dsimp only [am_st1] at h
  split at h
  · rename_i hl
    subst hl
    split at h
    · rename_i a r
      split at h
      · rename_i k n hq
        split at h
        · rename_i hk
          cases h
          by_cases ha : a < 64
          · obtain ⟨g, hg⟩ := am_arr_lo ha hq
            have hT := (hF.2.2.2.2.1 a _ hg).kept hkp
            have k0 := kk.same hW hS ls hL
            have e1 : am_rho z0 sa a = sa a := am_rho_lo ha
            show W p l e R s m args below meth c H locs cells slots Q (F0 m pc ls (.ref (am_rho z0 sa a) :: r.map (am_tr (am_rho z0 sa))))
            rw [e1]
            exact va_tlen hx hb hT hS rfl hd k0
          · have ha2 : 64 ≤ a := Nat.le_of_not_lt ha
            rw [am_arr_hi ha2] at hq
            have k0 := kk.same hW hS ls hL
            rcases (show k = 20 ∨ k = 21 ∨ k = 22 ∨ k = 23 ∨ k = 24 ∨ k = 25 by omega) with rfl | rfl | rfl | rfl | rfl | rfl
            · exact va_alen hx hb hK hW.2.2 (a - 64) 0 (am_arI ha2 hq (by simp)) rfl rfl hd k0
            · exact va_alen hx hb hK hW.2.2 (a - 64) 1 (am_arI ha2 hq (by simp)) rfl rfl hd k0
            · exact va_alen hx hb hK hW.2.2 (a - 64) 2 (am_arI ha2 hq (by simp)) rfl rfl hd k0
            · exact va_alen hx hb hK hW.2.2 (a - 64) 3 (am_arJ ha2 hq) rfl rfl hd k0
            · exact va_alen hx hb hK hW.2.2 (a - 64) 4 (am_arP ha2 hq (by simp)) rfl rfl hd k0
            · exact va_alen hx hb hK hW.2.2 (a - 64) 5 (am_arP ha2 hq (by simp)) rfl rfl hd k0
        · cases h
      · cases h
    · cases h
  · cases h
theorem am_i_iastore {f : am_Cf} (C : am_C p s m args meth c cc cn mx ini z0 sa dC dI dA pr Hz) (hW : am_Wd z0 sa dC dI dA σ H) (hS : va_S (fun q => z0 ≤ q) s.heap H locs) (hL : am_L (am_rho z0 sa) ls mx lv) {len : Nat} (hd : decode cc pc = .ok (.iastore, len)) (h : am_st1 pr cn mx ini pc lv st σ (.iastore) len = some f) (kk : am_K p l e R s m args below meth c Q mx z0 sa dC dI dA cells slots σ f) : am_G p l e R s m args below meth c Q z0 sa cells slots H locs pc ls st := by
  obtain ⟨hx, hb, hml, hown, hts, hini, hK, hF, hE, hz, hzs⟩ := C
  have hkp := am_kept hE hz
  dsimp only [am_st1] at h
  split at h
  · rename_i hl
    subst hl
    split at h
    · rename_i x i a r
      split at h
      · rename_i n hq
        split at h
        · rename_i hi
          cases h
          have ha := am_arI (z0 := z0) (sa := sa) (dA := dA) hi.1 hq (by simp)
          refine W.iast hx hb (hW.2.2 _ _ ha) ((hK.2 0 _ rfl).1 n (fun j => .int (σ.2.1 a j))) (fun q => by cases q) (by show ¬ (i < 0 ∨ (arrV _ _ _).slots.size ≤ _); rw [arrV_size]; exact am_in_vp hi.2) rfl rfl hd fun H1 e1 z oq => ?_
          refine kk.mem rfl (am_after hW hi.1 hq rfl (fun b hb => am_elt_I (a := a) (am_u_ne hb)) ?_ z oq) (hS.put z oq (am_rho_hi hi.1)) hL
          show H1[am_rho z0 sa a]? = some (vp_cell _ _)
          rw [e1]
          rw [vp_cell_i, vp_cell_i, arrV_store]
          congr 2
          funext q
          by_cases hq2 : q = i.toNatClampNeg
          · subst hq2
            simp [updV, am_u]
            try rfl
          · simp [updV, am_u, hq2]
        · cases h
      · cases h
    · cases h
  · cases h
theorem am_i_bastore {f : am_Cf} (C : am_C p s m args meth c cc cn mx ini z0 sa dC dI dA pr Hz) (hW : am_Wd z0 sa dC dI dA σ H) (hS : va_S (fun q => z0 ≤ q) s.heap H locs) (hL : am_L (am_rho z0 sa) ls mx lv) {len : Nat} (hd : decode cc pc = .ok (.bastore, len)) (h : am_st1 pr cn mx ini pc lv st σ (.bastore) len = some f) (kk : am_K p l e R s m args below meth c Q mx z0 sa dC dI dA cells slots σ f) : am_G p l e R s m args below meth c Q z0 sa cells slots H locs pc ls st := by
  obtain ⟨hx, hb, hml, hown, hts, hini, hK, hF, hE, hz, hzs⟩ := C
  have hkp := am_kept hE hz
  dsimp only [am_st1] at h
  split at h
  · rename_i hl
    subst hl
    split at h
    · rename_i x i a r
      split at h
      · rename_i n hq
        split at h
        · rename_i hi
          cases h
          have ha := am_arI (z0 := z0) (sa := sa) (dA := dA) hi.1 hq (by simp)
          refine W.zast hx hb (hW.2.2 _ _ ha) ((hK.2 1 _ rfl).1 n (fun j => .int (σ.2.1 a j))) (fun q => by cases q) (by show ¬ (i < 0 ∨ (arrV _ _ _).slots.size ≤ _); rw [arrV_size]; exact am_in_vp hi.2) rfl rfl hd fun H1 e1 z oq => ?_
          refine kk.mem rfl (am_after hW hi.1 hq rfl (fun b hb => am_elt_I (a := a) (am_u_ne hb)) ?_ z oq) (hS.put z oq (am_rho_hi hi.1)) hL
          show H1[am_rho z0 sa a]? = some (vp_cell _ _)
          rw [e1]
          rw [vp_cell_i, vp_cell_i, arrV_store]
          congr 2
          funext q
          by_cases hq2 : q = i.toNatClampNeg
          · subst hq2
            simp [updV, am_u, vp_nar]
            try rfl
          · simp [updV, am_u, hq2]
        · cases h
      · rename_i n hq
        split at h
        · rename_i hi
          cases h
          have ha := am_arI (z0 := z0) (sa := sa) (dA := dA) hi.1 hq (by simp)
          refine W.bast hx hb (hW.2.2 _ _ ha) ((hK.2 2 _ rfl).1 n (fun j => .int (σ.2.1 a j))) (fun q => by cases q) (by show ¬ (i < 0 ∨ (arrV _ _ _).slots.size ≤ _); rw [arrV_size]; exact am_in_vp hi.2) rfl rfl hd fun H1 e1 z oq => ?_
          refine kk.mem rfl (am_after hW hi.1 hq rfl (fun b hb => am_elt_I (a := a) (am_u_ne hb)) ?_ z oq) (hS.put z oq (am_rho_hi hi.1)) hL
          show H1[am_rho z0 sa a]? = some (vp_cell _ _)
          rw [e1]
          rw [vp_cell_i, vp_cell_i, arrV_store]
          congr 2
          funext q
          by_cases hq2 : q = i.toNatClampNeg
          · subst hq2
            simp [updV, am_u, vp_nar]
            try rfl
          · simp [updV, am_u, hq2]
        · cases h
      · cases h
    · cases h
  · cases h
theorem am_i_lastore {f : am_Cf} (C : am_C p s m args meth c cc cn mx ini z0 sa dC dI dA pr Hz) (hW : am_Wd z0 sa dC dI dA σ H) (hS : va_S (fun q => z0 ≤ q) s.heap H locs) (hL : am_L (am_rho z0 sa) ls mx lv) {len : Nat} (hd : decode cc pc = .ok (.lastore, len)) (h : am_st1 pr cn mx ini pc lv st σ (.lastore) len = some f) (kk : am_K p l e R s m args below meth c Q mx z0 sa dC dI dA cells slots σ f) : am_G p l e R s m args below meth c Q z0 sa cells slots H locs pc ls st := by
  obtain ⟨hx, hb, hml, hown, hts, hini, hK, hF, hE, hz, hzs⟩ := C
  have hkp := am_kept hE hz
  dsimp only [am_st1] at h
  split at h
  · rename_i hl
    subst hl
    split at h
    · rename_i x i a r
      split at h
      · rename_i n hq
        split at h
        · rename_i hi
          cases h
          have ha := am_arJ (z0 := z0) (sa := sa) (dA := dA) hi.1 hq
          refine W.last hx hb (hW.2.2 _ _ ha) ((hK.2 3 _ rfl).1 n (fun j => .long (σ.2.2.1 a j))) (fun q => by cases q) (by show ¬ (i < 0 ∨ (arrV _ _ _).slots.size ≤ _); rw [arrV_size]; exact am_in_vp hi.2) rfl rfl hd fun H1 e1 z oq => ?_
          refine kk.mem rfl (am_after hW hi.1 hq rfl (fun b hb => am_elt_J (a := a) (am_u_ne hb)) ?_ z oq) (hS.put z oq (am_rho_hi hi.1)) hL
          show H1[am_rho z0 sa a]? = some (vp_cell _ _)
          rw [e1]
          rw [vp_cell_l, vp_cell_l, arrV_store]
          congr 2
          funext q
          by_cases hq2 : q = i.toNatClampNeg
          · subst hq2
            simp [updV, am_u]
            try rfl
          · simp [updV, am_u, hq2]
        · cases h
      · cases h
    · cases h
  · cases h
theorem am_i_aastore {f : am_Cf} (C : am_C p s m args meth c cc cn mx ini z0 sa dC dI dA pr Hz) (hW : am_Wd z0 sa dC dI dA σ H) (hS : va_S (fun q => z0 ≤ q) s.heap H locs) (hL : am_L (am_rho z0 sa) ls mx lv) {len : Nat} (hd : decode cc pc = .ok (.aastore, len)) (h : am_st1 pr cn mx ini pc lv st σ (.aastore) len = some f) (kk : am_K p l e R s m args below meth c Q mx z0 sa dC dI dA cells slots σ f) : am_G p l e R s m args below meth c Q z0 sa cells slots H locs pc ls st := by
  obtain ⟨hx, hb, hml, hown, hts, hini, hK, hF, hE, hz, hzs⟩ := C
  have hkp := am_kept hE hz
  dsimp only [am_st1] at h
  split at h
  · rename_i hl
    subst hl
    split at h
    · rename_i b i a r
      split at h
      · rename_i n hq
        split at h
        · rename_i hi
          obtain ⟨hi1, hi2, hi3, hi4⟩ := hi
          cases h
          have ha := am_arP (z0 := z0) (sa := sa) (dA := dA) hi1 hq (by simp)
          have hv := am_obj (z0 := z0) (sa := sa) (dA := dA) hi3 (by decide) hi4
          have hin := am_in_vp hi2
          have hlt : i.toNatClampNeg < n := Nat.not_le.mp fun q => hin (Or.inr q)
          have h0 : ¬ i < 0 := fun q => hin (Or.inl q)
          obtain ⟨r', hr', cellV, g1, g2, g3, -⟩ := hW.2.2 _ _ hv
          have hcls := (hK.1 0 _ rfl).2
          obtain ⟨kA, comp, k1, k2, k3, -⟩ := (hK.2 4 _ rfl).2
          have hcomp : comp = dC 0 := Option.some.inj (k3.symm.trans hcls.1)
          subst hcomp
          obtain ⟨kC, hkC, -⟩ := hcls.2
          refine W.aast hx hb (hW.2.2 _ _ ha) (fun q h => by cases h) (fun h => by cases h) k1 k2 rfl hkC ⟨h0, by show _ < (arrV _ _ _).slots.size; rw [arrV_size]; exact hlt⟩ g1 (fun q h => by rw [g3] at h; cases h) (by rw [g2]; exact hkC) (by rw [g2]; exact va_assign hcls) rfl rfl hd fun H1 e1 z oq => ?_
          refine kk.mem rfl (am_after hW hi1 hq rfl (fun b hb => am_elt_P (a := a) (am_u_ne hb)) ?_ z oq) (hS.put z oq (am_rho_hi hi1)) hL
          show H1[am_rho z0 sa a]? = some (vp_cell _ _)
          rw [e1]
          rw [vp_cell_q, vp_cell_q, arrV_store]
          congr 2
          funext q
          by_cases hq2 : q = i.toNatClampNeg
          · subst hq2
            simp [updV, am_u, va_rf, am_tr]
          · simp [updV, am_u, hq2]
        · cases h
      · rename_i n hq
        split at h
        · rename_i hi
          obtain ⟨hi1, hi2, hi3, hi4⟩ := hi
          cases h
          have ha := am_arP (z0 := z0) (sa := sa) (dA := dA) hi1 hq (by simp)
          have hv := am_obj (z0 := z0) (sa := sa) (dA := dA) hi3 (by decide) hi4
          have hin := am_in_vp hi2
          have hlt : i.toNatClampNeg < n := Nat.not_le.mp fun q => hin (Or.inr q)
          have h0 : ¬ i < 0 := fun q => hin (Or.inl q)
          obtain ⟨r', hr', cellV, g1, g2, g3, -⟩ := hW.2.2 _ _ hv
          have hcls := (hK.1 6 _ rfl).2
          obtain ⟨kA, comp, k1, k2, k3, -⟩ := (hK.2 5 _ rfl).2
          have hcomp : comp = dC 6 := Option.some.inj (k3.symm.trans hcls.1)
          subst hcomp
          obtain ⟨kC, hkC, -⟩ := hcls.2
          refine W.aast hx hb (hW.2.2 _ _ ha) (fun q h => by cases h) (fun h => by cases h) k1 k2 rfl hkC ⟨h0, by show _ < (arrV _ _ _).slots.size; rw [arrV_size]; exact hlt⟩ g1 (fun q h => by rw [g3] at h; cases h) (by rw [g2]; exact hkC) (by rw [g2]; exact va_assign hcls) rfl rfl hd fun H1 e1 z oq => ?_
          refine kk.mem rfl (am_after hW hi1 hq rfl (fun b hb => am_elt_P (a := a) (am_u_ne hb)) ?_ z oq) (hS.put z oq (am_rho_hi hi1)) hL
          show H1[am_rho z0 sa a]? = some (vp_cell _ _)
          rw [e1]
          rw [vp_cell_q, vp_cell_q, arrV_store]
          congr 2
          funext q
          by_cases hq2 : q = i.toNatClampNeg
          · subst hq2
            simp [updV, am_u, va_rf, am_tr]
          · simp [updV, am_u, hq2]
        · cases h
      · cases h
    · rename_i i a r
      split at h
      · rename_i n hq
        split at h
        · rename_i hi
          cases h
          have ha := am_arP (z0 := z0) (sa := sa) (dA := dA) hi.1 hq (by simp)
          refine va_WaastN (C := "RookHouse$House") hx hb (hW.2.2 _ _ ha) ((hK.2 4 _ rfl).1 n (fun j => va_rf ((σ.2.2.2 a j).map (am_rho z0 sa)))) (fun h => by cases h) (by show ¬ (i < 0 ∨ (arrV _ _ _).slots.size ≤ _); rw [arrV_size]; exact am_in_vp hi.2) rfl rfl hd fun H1 e1 z oq => ?_
          refine kk.mem rfl (am_after hW hi.1 hq rfl (fun b hb => am_elt_P (a := a) (am_u_ne hb)) ?_ z oq) (hS.put z oq (am_rho_hi hi.1)) hL
          show H1[am_rho z0 sa a]? = some (vp_cell _ _)
          rw [e1]
          rw [vp_cell_q, vp_cell_q, arrV_store]
          congr 2
          funext q
          by_cases hq2 : q = i.toNatClampNeg
          · subst hq2
            simp [updV, am_u, va_rf]
          · simp [updV, am_u, hq2]
        · cases h
      · rename_i n hq
        split at h
        · rename_i hi
          cases h
          have ha := am_arP (z0 := z0) (sa := sa) (dA := dA) hi.1 hq (by simp)
          refine va_WaastN (C := "RookHouse$Text") hx hb (hW.2.2 _ _ ha) ((hK.2 5 _ rfl).1 n (fun j => va_rf ((σ.2.2.2 a j).map (am_rho z0 sa)))) (fun h => by cases h) (by show ¬ (i < 0 ∨ (arrV _ _ _).slots.size ≤ _); rw [arrV_size]; exact am_in_vp hi.2) rfl rfl hd fun H1 e1 z oq => ?_
          refine kk.mem rfl (am_after hW hi.1 hq rfl (fun b hb => am_elt_P (a := a) (am_u_ne hb)) ?_ z oq) (hS.put z oq (am_rho_hi hi.1)) hL
          show H1[am_rho z0 sa a]? = some (vp_cell _ _)
          rw [e1]
          rw [vp_cell_q, vp_cell_q, arrV_store]
          congr 2
          funext q
          by_cases hq2 : q = i.toNatClampNeg
          · subst hq2
            simp [updV, am_u, va_rf]
          · simp [updV, am_u, hq2]
        · cases h
      · cases h
    · cases h
  · cases h
end AmArr
