/-! the plain machine's heap as cells of the real one -/
def am_rho (z0 : Nat) (sa : Nat → Nat) (a : Nat) : Nat := if a < 64 then sa a else z0 + (a - 64)
def am_tr (ρ : Nat → Nat) : Value → Value
  | .ref a => .ref (ρ a)
  | v => v
def am_flds (ρ : Nat → Nat) (σ : am_H) (a c n : Nat) : List Value := (List.range n).map (fun k => am_tr ρ (am_fv σ a (am_kd (am_ty c k)) k))
def am_el (ρ : Nat → Nat) (dA : Nat → ClassId) (σ : am_H) (a c n : Nat) : va_E :=
  if c < 20 then .inr (c, am_flds ρ σ a c n)
  else if c = 23 then .inl (dA 3, n, .inr (.inl (σ.2.2.1 a)))
  else if c = 24 ∨ c = 25 then .inl (dA (c - 20), n, .inr (.inr (.inr (.inr (fun j => (σ.2.2.2 a j).map ρ)))))
  else .inl (dA (c - 20), n, .inl (σ.2.1 a))
def am_elt (ρ : Nat → Nat) (dA : Nat → ClassId) (σ : am_H) (a : Nat) : va_E := match σ.1[a]? with
  | some q => am_el ρ dA σ a q.1 q.2
  | none => .inr (99, [])
def am_ws (z0 : Nat) (ρ : Nat → Nat) (dA : Nat → ClassId) (σ : am_H) : va_W := (List.range (σ.1.length - 64)).map (fun i => (z0 + i, am_elt ρ dA σ (64 + i)))
abbrev am_tys (dA : Nat → ClassId) : List (ClassId × FieldType) := [(dA 0, .int), (dA 1, .boolean), (dA 2, .byte), (dA 3, .long), (dA 4, .object "RookHouse$House"), (dA 5, .object "RookHouse$Text")]
theorem am_tr_cat (ρ : Nat → Nat) (v : Value) : (am_tr ρ v).category = v.category := by cases v <;> rfl
theorem am_tr_rf (ρ : Nat → Nat) (r : Option Nat) : am_tr ρ (va_rf r) = va_rf (r.map ρ) := by cases r <;> rfl
theorem am_cat_tr (ρ : Nat → Nat) (l : List Value) : ((l.map (am_tr ρ)).map fun v => v.category).sum = am_cat l := by
  unfold am_cat
  rw [List.map_map]
  congr 1
  apply List.map_congr_left
  intro v _
  exact am_tr_cat ρ v
theorem am_ws_len {z0 : Nat} {ρ : Nat → Nat} {dA : Nat → ClassId} {σ : am_H} : (am_ws z0 ρ dA σ).length = σ.1.length - 64 := by simp [am_ws]
theorem am_ws_get {z0 : Nat} {ρ : Nat → Nat} {dA : Nat → ClassId} {σ : am_H} {i : Nat} (h : i < σ.1.length - 64) : (am_ws z0 ρ dA σ)[i]? = some (z0 + i, am_elt ρ dA σ (64 + i)) := by
  simp [am_ws, h]
theorem am_ws_none {z0 : Nat} {ρ : Nat → Nat} {dA : Nat → ClassId} {σ : am_H} {i : Nat} (h : ¬ i < σ.1.length - 64) : (am_ws z0 ρ dA σ)[i]? = none := by
  rw [List.getElem?_eq_none_iff, am_ws_len]; omega
theorem am_ws_at {z0 : Nat} {sa : Nat → Nat} {dA : Nat → ClassId} {σ : am_H} {a : Nat} {q : Nat × Nat} (h : 64 ≤ a) (hq : σ.1[a]? = some q) : (am_ws z0 (am_rho z0 sa) dA σ)[a - 64]? = some (am_rho z0 sa a, am_el (am_rho z0 sa) dA σ a q.1 q.2) := by
  have hl : a < σ.1.length := (List.getElem?_eq_some_iff.mp hq).1
  rw [am_ws_get (by omega), show 64 + (a - 64) = a by omega]
  have e1 : am_elt (am_rho z0 sa) dA σ a = am_el (am_rho z0 sa) dA σ a q.1 q.2 := by unfold am_elt; rw [hq]
  have e2 : am_rho z0 sa a = z0 + (a - 64) := if_neg (by omega)
  rw [e1, e2]
theorem am_ws_D {z0 : Nat} {ρ : Nat → Nat} {dA : Nat → ClassId} {σ : am_H} : va_D (fun q => z0 ≤ q) (am_ws z0 ρ dA σ) := by
  have key : ∀ (i : Nat) (p : Nat × va_E), (am_ws z0 ρ dA σ)[i]? = some p → p.1 = z0 + i := by
    intro i p hp
    by_cases h : i < σ.1.length - 64
    · rw [am_ws_get h] at hp
      cases hp
      rfl
    · rw [am_ws_none h] at hp
      cases hp
  refine ⟨fun i j p q hi hj e => ?_, fun k q hk => ?_⟩
  · have h1 := key i p hi
    have h2 := key j q hj
    omega
  · have h1 := key k q hk
    show z0 ≤ q.1
    omega
theorem am_ws_set {z0 : Nat} {sa : Nat → Nat} {dA : Nat → ClassId} {σ τ : am_H} {a : Nat} {q : Nat × Nat} {e : va_E} (h : 64 ≤ a) (hq : σ.1[a]? = some q) (hs : τ.1 = σ.1) (ho : ∀ b, b ≠ a → am_elt (am_rho z0 sa) dA τ b = am_elt (am_rho z0 sa) dA σ b) (he : am_el (am_rho z0 sa) dA τ a q.1 q.2 = e) : (am_ws z0 (am_rho z0 sa) dA σ).set (a - 64) (am_rho z0 sa a, e) = am_ws z0 (am_rho z0 sa) dA τ := by
  have hl : a < σ.1.length := (List.getElem?_eq_some_iff.mp hq).1
  apply List.ext_getElem?
  intro i
  by_cases hi : i = a - 64
  · subst hi
    rw [List.getElem?_set_self (by rw [am_ws_len]; omega), am_ws_at h (show τ.1[a]? = some q by rw [hs]; exact hq), he]
  · rw [List.getElem?_set_ne (fun z => hi z.symm)]
    by_cases hb : i < σ.1.length - 64
    · rw [am_ws_get hb, am_ws_get (by rw [hs]; exact hb), ho (64 + i) (by omega)]
    · rw [am_ws_none hb, am_ws_none (by rw [hs]; exact hb)]
theorem am_ws_app {z0 : Nat} {ρ : Nat → Nat} {dA : Nat → ClassId} {σ τ : am_H} {c n : Nat} {e : va_E} (h : 64 ≤ σ.1.length) (hs : τ.1 = σ.1 ++ [(c, n)]) (ho : ∀ b, b < σ.1.length → am_elt ρ dA τ b = am_elt ρ dA σ b) (he : am_el ρ dA τ σ.1.length c n = e) : am_ws z0 ρ dA σ ++ [(z0 + (σ.1.length - 64), e)] = am_ws z0 ρ dA τ := by
  have hl : τ.1.length = σ.1.length + 1 := by rw [hs]; simp
  apply List.ext_getElem?
  intro i
  by_cases hb : i < σ.1.length - 64
  · rw [List.getElem?_append_left (by rw [am_ws_len]; exact hb), am_ws_get hb, am_ws_get (by omega), ho (64 + i) (by omega)]
  · by_cases hi : i = σ.1.length - 64
    · subst hi
      rw [List.getElem?_append_right (by rw [am_ws_len]; omega), am_ws_len, Nat.sub_self, am_ws_get (by omega)]
      have e1 : 64 + (σ.1.length - 64) = σ.1.length := by omega
      have e2 : τ.1[σ.1.length]? = some (c, n) := by rw [hs]; simp
      have e3 : am_elt ρ dA τ σ.1.length = am_el ρ dA τ σ.1.length c n := by unfold am_elt; rw [e2]
      rw [e1, e3, he]
      rfl
    · rw [List.getElem?_append_right (by rw [am_ws_len]; omega), am_ws_none (by omega), List.getElem?_eq_none_iff, am_ws_len]
      simp
      omega
/-- a store into the ints, longs, references of one cell leaves the other cells -/
theorem am_elt_I {ρ : Nat → Nat} {dA : Nat → ClassId} {σ : am_H} {f : Nat → Nat → Int32} {a b : Nat} (h : f b = σ.2.1 b) : am_elt ρ dA (σ.1, f, σ.2.2.1, σ.2.2.2) b = am_elt ρ dA σ b := by
  unfold am_elt
  cases hq : σ.1[b]? with
  | none => rfl
  | some q => simp only [am_el, am_flds, am_fv, h]
theorem am_elt_J {ρ : Nat → Nat} {dA : Nat → ClassId} {σ : am_H} {f : Nat → Nat → Int64} {a b : Nat} (h : f b = σ.2.2.1 b) : am_elt ρ dA (σ.1, σ.2.1, f, σ.2.2.2) b = am_elt ρ dA σ b := by
  unfold am_elt
  cases hq : σ.1[b]? with
  | none => rfl
  | some q => simp only [am_el, am_flds, am_fv, h]
theorem am_elt_P {ρ : Nat → Nat} {dA : Nat → ClassId} {σ : am_H} {f : Nat → Nat → Option Nat} {a b : Nat} (h : f b = σ.2.2.2 b) : am_elt ρ dA (σ.1, σ.2.1, σ.2.2.1, f) b = am_elt ρ dA σ b := by
  unfold am_elt
  cases hq : σ.1[b]? with
  | none => rfl
  | some q => simp only [am_el, am_flds, am_fv, h]
theorem am_u_ne {α : Type} {f : Nat → Nat → α} {a k b : Nat} {v : α} (h : b ≠ a) : am_u f a k v b = f b := by
  funext j
  simp [am_u, h]
theorem am_u_eq {α : Type} {f : Nat → Nat → α} {a k : Nat} {v : α} : am_u f a k v a = fun j => if j = k then v else f a j := by
  funext j
  simp [am_u]
theorem am_row_ne {α : Type} {f : Nat → Nat → α} {a b : Nat} {g : Nat → α} (h : b ≠ a) : am_row f a g b = f b := by simp [am_row, h]
theorem am_row_eq {α : Type} {f : Nat → Nat → α} {a : Nat} {g : Nat → α} : am_row f a g a = g := by simp [am_row]
theorem am_push_old {ρ : Nat → Nat} {dA : Nat → ClassId} {σ : am_H} {c n b : Nat} (h : b < σ.1.length) : am_elt ρ dA (am_push σ c n) b = am_elt ρ dA σ b := by
  have hne : b ≠ σ.1.length := by omega
  have e : (am_push σ c n).1[b]? = σ.1[b]? := by simp [am_push, List.getElem?_append_left h]
  unfold am_elt
  rw [e]
  cases hq : σ.1[b]? with
  | none => rfl
  | some q => simp only [am_el, am_flds, am_fv, am_push, am_row_ne hne]
/-- the locals: what a chain of stores leaves -/
def am_kp (i : Nat) (v : Value) (q : Nat × Value) : Bool := if v.category = 2 then !(q.1 == i) && (!(q.1 == i + 1) && !(q.1 + 1 == i && q.2.category == 2)) else !(q.1 == i) && !(q.1 + 1 == i && q.2.category == 2)
def am_eff : List (Nat × Value) → List (Nat × Value)
  | [] => []
  | q :: r => q :: (am_eff r).filter (am_kp q.1 q.2)
theorem am_eff_sub : ∀ {l : List (Nat × Value)} {q : Nat × Value}, q ∈ am_eff l → q ∈ l
  | [], q, h => h
  | p :: r, q, h => by
    rcases List.mem_cons.mp h with h | h
    · exact List.mem_cons.mpr (Or.inl h)
    · exact List.mem_cons_of_mem _ (am_eff_sub (List.mem_filter.mp h).1)
theorem am_ld1_mem : ∀ {l : List (Nat × Value)} {i : Nat} {v : Value}, am_ld1 l i = some v → v.category = 1 → (i, v) ∈ am_eff l
  | [], i, v, h, _ => by cases h
  | q :: r, i, v, h, hc => by
    unfold am_ld1 at h
    by_cases h1 : q.1 = i
    · rw [if_pos h1] at h
      cases h
      subst h1
      exact List.mem_cons_self
    · rw [if_neg h1] at h
      by_cases h2 : q.2.category = 2 ∧ q.1 + 1 = i
      · rw [if_pos h2] at h
        cases h
      · rw [if_neg h2] at h
        refine List.mem_cons_of_mem _ (List.mem_filter.mpr ⟨am_ld1_mem h hc, ?_⟩)
        unfold am_kp
        by_cases h3 : q.2.category = 2
        · have h4 : ¬ q.1 + 1 = i := fun z => h2 ⟨h3, z⟩
          simp [h3, hc]
          omega
        · simp [h3, hc]
          omega
theorem am_ld2_mem : ∀ {l : List (Nat × Value)} {i : Nat} {v : Value}, am_ld2 l i = some v → v.category = 2 → (i, v) ∈ am_eff l
  | [], i, v, h, _ => by cases h
  | q :: r, i, v, h, hc => by
    unfold am_ld2 at h
    by_cases h1 : q.1 = i
    · rw [if_pos h1] at h
      cases h
      subst h1
      exact List.mem_cons_self
    · rw [if_neg h1] at h
      by_cases h2 : q.1 = i + 1 ∨ (q.2.category = 2 ∧ q.1 + 1 = i)
      · rw [if_pos h2] at h
        cases h
      · rw [if_neg h2] at h
        refine List.mem_cons_of_mem _ (List.mem_filter.mpr ⟨am_ld2_mem h hc, ?_⟩)
        unfold am_kp
        by_cases h3 : q.2.category = 2
        · have h4 : ¬ q.1 + 1 = i := fun z => h2 (Or.inr ⟨h3, z⟩)
          have h5 : ¬ q.1 = i + 1 := fun z => h2 (Or.inl z)
          simp [h3, hc]
          omega
        · have h5 : ¬ q.1 = i + 1 := fun z => h2 (Or.inl z)
          simp [h3, hc]
          omega
/-- the real locals hold the plain ones -/
def am_L (ρ : Nat → Nat) (ls : Array Slot) (nL : Nat) (lv : List (Nat × Value)) : Prop := lv_has ls nL ((am_eff lv).map (fun q => (q.1, am_tr ρ q.2)))
theorem am_L1 {ρ : Nat → Nat} {ls : Array Slot} {nL i : Nat} {lv : List (Nat × Value)} {v : Value} (h : am_L ρ ls nL lv) (hv : am_ld1 lv i = some v) (hc : v.category = 1) : ls[i]? = some (.val (am_tr ρ v)) := h.2.2 (i, am_tr ρ v) (List.mem_map.mpr ⟨(i, v), am_ld1_mem hv hc, rfl⟩)
theorem am_L2 {ρ : Nat → Nat} {ls : Array Slot} {nL i : Nat} {lv : List (Nat × Value)} {v : Value} (h : am_L ρ ls nL lv) (hv : am_ld2 lv i = some v) (hc : v.category = 2) : ls[i]? = some (.val (am_tr ρ v)) := h.2.2 (i, am_tr ρ v) (List.mem_map.mpr ⟨(i, v), am_ld2_mem hv hc, rfl⟩)
theorem am_st_1 (ρ : Nat → Nat) (lv : List (Nat × Value)) (i : Nat) {v : Value} (hc : v.category = 1) : (i, am_tr ρ v) :: ((am_eff lv).map (fun q => (q.1, am_tr ρ q.2))).filter (fun q => !(q.1 == i) && !(q.1 + 1 == i && q.2.category == 2)) = (am_eff ((i, v) :: lv)).map (fun q => (q.1, am_tr ρ q.2)) := by
  show _ = (i, am_tr ρ v) :: ((am_eff lv).filter (am_kp i v)).map _
  congr 1
  rw [List.filter_map]
  congr 1
  apply List.filter_congr
  intro q _
  simp [am_kp, hc, am_tr_cat]
theorem am_st_2 (ρ : Nat → Nat) (lv : List (Nat × Value)) (i : Nat) {v : Value} (hc : v.category = 2) : (i, am_tr ρ v) :: ((am_eff lv).map (fun q => (q.1, am_tr ρ q.2))).filter (fun q => !(q.1 == i) && (!(q.1 == i + 1) && !(q.1 + 1 == i && q.2.category == 2))) = (am_eff ((i, v) :: lv)).map (fun q => (q.1, am_tr ρ q.2)) := by
  show _ = (i, am_tr ρ v) :: ((am_eff lv).filter (am_kp i v)).map _
  congr 1
  rw [List.filter_map]
  congr 1
  apply List.filter_congr
  intro q _
  simp [am_kp, hc, am_tr_cat]
theorem am_args_tr (ρ : Nat → Nat) : ∀ (vs : List Value) (i : Nat), lv_args i (vs.map (am_tr ρ)) = (lv_args i vs).map (fun q => (q.1, am_tr ρ q.2))
  | [], i => rfl
  | v :: vs, i => by
    show (i, am_tr ρ v) :: lv_args (if (am_tr ρ v).category = 2 then i + 2 else i + 1) (vs.map (am_tr ρ)) = (i, am_tr ρ v) :: _
    rw [am_tr_cat, am_args_tr ρ vs]
theorem am_L0 {ρ : Nat → Nat} {ls : Array Slot} {nL : Nat} {vs : List Value} (h : lv_has ls nL (lv_args 0 (vs.map (am_tr ρ)))) : am_L ρ ls nL (lv_args 0 vs) := by
  refine ⟨h.1, h.2.1, fun q hq => h.2.2 q ?_⟩
  obtain ⟨p, hp, rfl⟩ := List.mem_map.mp hq
  rw [am_args_tr]
  exact List.mem_map.mpr ⟨p, am_eff_sub hp, rfl⟩
