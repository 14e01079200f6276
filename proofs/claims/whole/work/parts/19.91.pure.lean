/-! the class's tokens and the reference's -/
def k_mp : List (Nat × Nat) := [(300, 1), (301, 2), (302, 3), (303, 21), (304, 22), (305, 23), (306, 26), (307, 24), (308, 25), (309, 27), (310, 4), (311, 5), (312, 6), (313, 7), (314, 8), (315, 14), (316, 9), (317, 10), (318, 11), (319, 12), (320, 15), (321, 16), (322, 13), (323, 17), (324, 18), (325, 19), (326, 20), (256, 50), (59, 159), (40, 140), (41, 141), (91, 191), (93, 193), (60, 160), (62, 162), (61, 161), (43, 143), (45, 145), (42, 142), (47, 147), (37, 137)]
def k_pi (q : Nat) : Nat := ([1, 2, 3, 21, 22, 23, 26, 24, 25, 27, 4, 5, 6, 7, 8, 14, 9, 10, 11, 12, 15, 16, 13, 17, 18, 19, 20] : List Nat).getD q 0
theorem k_mp_w {q x y : Nat} (hq : q < 27) (h : (x, y) ∈ k_mp) : 300 + q = x ↔ k_pi q = y := by
  have a : (List.range 27).all (fun q => k_mp.all (fun s => decide (300 + q = s.1 ↔ k_pi q = s.2))) = true := by decide +kernel
  exact of_decide_eq_true (List.all_eq_true.mp (List.all_eq_true.mp a q (List.mem_range.mpr hq)) (x, y) h)
theorem k_mp_u {x y : Nat} (h : (x, y) ∈ k_mp) : (258 = x ↔ 0 = y) ∧ (257 = x ↔ 0 = y) ∧ (256 = x ↔ 50 = y) ∧ x < 400 ∧ y < 400 := by
  have a : k_mp.all (fun s => decide ((258 = s.1 ↔ 0 = s.2) ∧ (257 = s.1 ↔ 0 = s.2) ∧ (256 = s.1 ↔ 50 = s.2) ∧ s.1 < 400 ∧ s.2 < 400)) = true := by decide +kernel
  exact of_decide_eq_true (List.all_eq_true.mp a (x, y) h)
theorem k_mp_s {n x y : Nat} (hn : n < 256) (h : (x, y) ∈ k_mp) : n = x ↔ 100 + n = y := by
  have a : k_mp.all (fun s => decide (s.2 = 100 + s.1 ∨ (256 ≤ s.1 ∧ s.2 < 100))) = true := by decide +kernel
  have z : y = 100 + x ∨ (256 ≤ x ∧ y < 100) := of_decide_eq_true (List.all_eq_true.mp a (x, y) h)
  omega
theorem w_both (x : List Nat) : (∃ q, q < 27 ∧ w_cc x = 300 + q ∧ w_rc x = k_pi q) ∨ (w_cc x = 258 ∧ w_rc x = 0) := by
  by_cases h : ∃ q, q < 27 ∧ x = w_c.getD q []
  · obtain ⟨q, hq, e⟩ := h
    have a : (List.range 27).all (fun q => decide (w_rc (w_c.getD q []) = k_pi q)) = true := by decide +kernel
    refine Or.inl ⟨q, hq, w_cc_at hq e, ?_⟩
    rw [e]
    exact of_decide_eq_true (List.all_eq_true.mp a q (List.mem_range.mpr hq))
  · refine Or.inr ⟨w_cc_no (fun q hq e => h ⟨q, hq, e⟩), w_rc_no (fun q hq e => h ?_)⟩
    have a : (List.range 27).all (fun q => decide (w_c.idxOf (w_m.getD q []) < 27)) = true := by decide +kernel
    have z := of_decide_eq_true (List.all_eq_true.mp a q (List.mem_range.mpr hq))
    rw [← e] at z
    refine ⟨_, z, ?_⟩
    have z2 : w_c.idxOf x < w_c.length := z
    rw [List.getD_eq_getElem?_getD, List.getElem?_eq_getElem z2]
    exact (List.getElem_idxOf z2).symm
theorem k_both {b : Nat → Nat} {p e x y : Nat} (hb : b p < 256) (h : (x, y) ∈ k_mp) : (k_cc b p e = x ↔ k_rc b p e = y) ∧ k_cc b p e < 400 ∧ k_rc b p e < 400 ∧ ¬ k_cc b p e = 257 := by
  unfold k_cc k_rc
  split
  · rcases w_both (seg b p e) with ⟨q, hq, h1, h2⟩ | ⟨h1, h2⟩
    · rw [h1, h2]
      have a : (List.range 27).all (fun q => decide (k_pi q < 400)) = true := by decide +kernel
      exact ⟨k_mp_w hq h, by omega, of_decide_eq_true (List.all_eq_true.mp a q (List.mem_range.mpr hq)), by omega⟩
    · rw [h1, h2]
      exact ⟨(k_mp_u h).1, by omega, by omega, by omega⟩
  · split
    · exact ⟨(k_mp_u h).2.2.1, by omega, by omega, by omega⟩
    · exact ⟨k_mp_s hb h, by omega, by omega, by omega⟩
/-- the reference's tokens, the class's codes and numbers, the places -/
def x_T (b : Nat → Nat) (ts : List (Nat × Nat)) (o : Bool) : Tk := (fun i => match ts[i]? with | some q => nI (k_rc b q.1 q.2) | none => 0, fun i => match ts[i]? with | some q => nI (k_rn b q.1 q.2) | none => 0, o)
def t_C (b : Nat → Nat) (ts : List (Nat × Nat)) (i : Nat) : Int32 := match ts[i]? with | some q => nI (k_cc b q.1 q.2) | none => 257
def t_N (b : Nat → Nat) (ts : List (Nat × Nat)) (i : Nat) : Int32 := match ts[i]? with | some q => nI (k_cn b q.1 q.2) | none => 0
def t_P (z : Nat) (ts : List (Nat × Nat)) (i : Nat) : Nat := match ts[i]? with | some q => q.1 | none => z
/-- how both sides' tokens belong together -/
def tk_R (T : Tk) (N : Nat) (C V : Nat → Int32) : Prop :=
  (∀ i, N ≤ i → T.1 i = 0) ∧ (∀ i, C i = 257 ↔ N ≤ i) ∧ (∀ i x y, (x, y) ∈ k_mp → (C i = nI x ↔ T.1 i = nI y)) ∧ ∀ i, ∃ v, v < 2 ^ 31 ∧ T.2.1 i = nI v ∧ V i = nI (min v 1001)
theorem sc_b {b : Nat → Nat} {z : Nat} : ∀ (f k : Nat), ∀ q ∈ sc b z f k, k ≤ q.1 ∧ q.1 < z ∧ q.2 = t_e b z q.1
  | 0, k, q, h => by cases h
  | f + 1, k, q, h => by
    unfold sc at h
    split at h
    · cases h
    · split at h
      · have z := sc_b f (k + 1) q h
        omega
      · rcases List.mem_cons.mp h with rfl | h
        · exact ⟨Nat.le_refl _, by omega, rfl⟩
        · have y := t_e_b (b := b) (show k < z by omega)
          have z := sc_b f _ q h
          omega
theorem sc_len {b : Nat → Nat} {z : Nat} : ∀ (f k : Nat), k ≤ z → (sc b z f k).length ≤ z - k
  | 0, k, _ => Nat.zero_le _
  | f + 1, k, hk => by
    unfold sc
    split
    · exact Nat.zero_le _
    · split
      · have y := sc_len (b := b) (z := z) f (k + 1) (by omega)
        omega
      · have y := t_e_b (b := b) (show k < z by omega)
        have w := sc_len (b := b) (z := z) f (t_e b z k) y.2
        rw [List.length_cons]
        omega
theorem tk_R_of {b : Nat → Nat} {z : Nat} {o : Bool} (hb2 : ∀ j, j < z → b j < 256) {ts : List (Nat × Nat)} (hts : ts = sc b z (z + 1) 0) : tk_R (x_T b ts o) ts.length (t_C b ts) (t_N b ts) := by
  have hq : ∀ (i : Nat) (q : Nat × Nat), ts[i]? = some q → q.1 < z ∧ q.2 = t_e b z q.1 := by
    intro i q h
    have m := List.mem_of_getElem? h
    rw [hts] at m
    exact (sc_b _ _ q m).2
  refine ⟨fun i hi => ?_, fun i => ?_, fun i x y h => ?_, fun i => ?_⟩
  · unfold x_T
    show (match ts[i]? with | some q => nI (k_rc b q.1 q.2) | none => 0) = 0
    rw [List.getElem?_eq_none hi]
  · unfold t_C
    cases hc : ts[i]? with
    | none =>
      refine ⟨fun _ => ?_, fun _ => rfl⟩
      exact List.getElem?_eq_none_iff.mp hc
    | some q =>
      obtain ⟨q1, q2⟩ := hq i q hc
      have k := k_both (e := q.2) (x := 300) (y := 1) (hb2 _ q1) (by decide)
      have hl := (List.getElem?_eq_some_iff.mp hc).1
      refine ⟨fun w => ?_, fun w => by omega⟩
      exact absurd ((nI_eq (b := 257) (by omega) (by decide)).mp w) k.2.2.2
  · unfold t_C x_T
    show _ ↔ (match ts[i]? with | some q => nI (k_rc b q.1 q.2) | none => 0) = nI y
    have u := k_mp_u h
    cases hc : ts[i]? with
    | none =>
      show nI 257 = nI x ↔ nI 0 = nI y
      rw [nI_eq (by decide) (by omega), nI_eq (by decide) (by omega)]
      exact u.2.1
    | some q =>
      obtain ⟨q1, q2⟩ := hq i q hc
      have k := k_both (e := q.2) (hb2 _ q1) h
      show nI (k_cc b q.1 q.2) = nI x ↔ nI (k_rc b q.1 q.2) = nI y
      rw [nI_eq (by omega) (by omega), nI_eq (by omega) (by omega)]
      exact k.1
  · unfold t_N x_T
    show ∃ v, v < 2 ^ 31 ∧ (match ts[i]? with | some q => nI (k_rn b q.1 q.2) | none => 0) = nI v ∧ _ = nI (min v 1001)
    cases hc : ts[i]? with
    | none => exact ⟨0, by decide, rfl, rfl⟩
    | some q =>
      obtain ⟨q1, q2⟩ := hq i q hc
      refine ⟨k_rn b q.1 q.2, ?_, rfl, ?_⟩
      · unfold k_rn
        split
        · rename_i hd
          have dd := t_e_d (b := b) q1 hd
          rw [← q2] at dd
          have y := n_m_le (b := b) (p := q.1) (n := q.2 - q.1) (fun j hj => (dd (q.1 + j) (by omega) (by omega)).2) (q.2 - q.1) (Nat.le_refl _)
          omega
        · decide
      · show nI (k_cn b q.1 q.2) = nI (min (k_rn b q.1 q.2) 1001)
        unfold k_cn k_rn
        split
        · rename_i hd
          have dd := t_e_d (b := b) q1 hd
          rw [← q2] at dd
          rw [n_cm (b := b) (p := q.1) (n := q.2 - q.1) (fun j hj => dd (q.1 + j) (by omega) (by omega)) _ (Nat.le_refl _)]
        · rfl
/-! how far reading comes -/
theorem pBind_some {α β : Type} {x : PR α} {f : α → Nat → Nat → PR β} {R : (β × Nat × Nat) ⊕ Nat} (h : pBind x f = some R) : (∃ a i l, x = pOk a i l ∧ f a i l = some R) ∨ ∃ j, x = pBad j ∧ R = .inr j := by
  unfold pBind at h
  match x, h with
  | some (.inl (a, i, l)), h => exact Or.inl ⟨a, i, l, rfl, h⟩
  | some (.inr j), h => exact Or.inr ⟨j, rfl, (Option.some.inj h).symm⟩
theorem pMap_some {α β : Type} {f : α → β} {x : PR α} {R : (β × Nat × Nat) ⊕ Nat} (h : pMap f x = some R) : (∃ a i l, x = pOk a i l ∧ R = .inl (f a, i, l)) ∨ ∃ j, x = pBad j ∧ R = .inr j := by
  rcases pBind_some h with ⟨a, i, l, h1, h2⟩ | h
  · exact Or.inl ⟨a, i, l, h1, (Option.some.inj h2).symm⟩
  · exact Or.inr h
theorem p_must_some {α : Type} {T : Tk} {c : Int32} {x : PR α} {R : (α × Nat × Nat) ⊕ Nat} (h : p_must T c x = some R) : (∃ a i l, x = pOk a i l ∧ T.1 i = c ∧ R = .inl (a, i + 1, l)) ∨ (∃ a i l, x = pOk a i l ∧ ¬ T.1 i = c ∧ R = .inr i) ∨ ∃ j, x = pBad j ∧ R = .inr j := by
  rcases pBind_some h with ⟨a, i, l, h1, h2⟩ | h
  · by_cases q : T.1 i = c
    · rw [if_pos q] at h2
      exact Or.inl ⟨a, i, l, h1, q, (Option.some.inj h2).symm⟩
    · rw [if_neg q] at h2
      exact Or.inr (Or.inl ⟨a, i, l, h1, q, (Option.some.inj h2).symm⟩)
  · exact Or.inr (Or.inr h)
theorem pBind_ne {α β : Type} {x : PR α} {f : α → Nat → Nat → PR β} (hx : x ≠ none) (hf : ∀ a i l, x = pOk a i l → f a i l ≠ none) : pBind x f ≠ none := by
  unfold pBind
  match x, hx, hf with
  | some (.inl (a, i, l)), _, hf => exact hf a i l rfl
  | some (.inr j), _, _ => intro z; cases z
  | none, hx, _ => exact absurd rfl hx
theorem pOk_ne {α : Type} {a : α} {i l : Nat} : (pOk a i l : PR α) ≠ none := fun z => by cases z
theorem pBad_ne {α : Type} {i : Nat} : (pBad i : PR α) ≠ none := fun z => by cases z
theorem pMap_ne {α β : Type} {f : α → β} {x : PR α} (hx : x ≠ none) : pMap f x ≠ none := pBind_ne hx (fun _ _ _ _ => pOk_ne)
theorem p_must_ne {α : Type} {T : Tk} {c : Int32} {x : PR α} (hx : x ≠ none) : p_must T c x ≠ none := pBind_ne hx (fun a i l _ => by
  show (if T.1 i = c then pOk a (i + 1) l else pBad i) ≠ none
  split
  · exact pOk_ne
  · exact pBad_ne)
theorem x_ne {α : Type} {p : Prop} [Decidable p] {x y z : α} (h1 : x ≠ z) (h2 : y ≠ z) : (if p then x else y) ≠ z := by
  split
  · exact h1
  · exact h2
theorem p_leaf_ne {T : Tk} {i lv : Nat} : p_leaf T i lv ≠ none := by
  unfold p_leaf
  exact x_ne (x_ne pBad_ne (x_ne pOk_ne (x_ne (x_ne pOk_ne pBad_ne) pOk_ne))) pBad_ne
theorem p_leaf_len {T : Tk} {i lv j lv' : Nat} {e : Ex} (h : p_leaf T i lv = pOk e j lv') : i < j ∧ e.2.length ≤ j - i ∧ (lv ≤ 50 → lv' ≤ 50) := by
  obtain ⟨h1, h2, h3⟩ := p_leaf_cases h
  have hl : lv ≤ 50 → lv' ≤ 50 := by omega
  rcases h3 with ⟨-, rfl, rfl⟩ | ⟨c, kk, -, -, -, -, -, -, rfl, rfl⟩ | ⟨c, -, -, -, -, -, rfl, rfl⟩ | ⟨c, -, -, -, -, rfl, rfl⟩
  · exact ⟨by omega, by show 1 ≤ _; omega, hl⟩
  · exact ⟨by omega, by show 1 ≤ _; omega, hl⟩
  · exact ⟨by omega, by show 1 ≤ _; omega, hl⟩
  · exact ⟨by omega, by show 1 ≤ _; omega, hl⟩
theorem x_bin_len (op : Nat) (a b : Ex) : (x_bin op a b).2.length = a.2.length + b.2.length + 1 := by
  show (a.2 ++ b.2 ++ [(3 + op, (0 : Int32))]).length = _
  rw [List.length_append, List.length_append]
  rfl
theorem p_go_len {T : Tk} : ∀ (f m dp : Nat) (e : Ex) (i lv : Nat) (e' : Ex) (j lv' : Nat), p_go T f m dp e i lv = pOk e' j lv' → i ≤ j ∧ (m = 0 ∨ m = 1 ∨ m = 3 → i < j ∧ e'.2.length ≤ j - i) ∧ (¬ (m = 0 ∨ m = 1 ∨ m = 3) → e'.2.length ≤ e.2.length + (j - i)) ∧ (lv ≤ 50 → lv' ≤ 50)
  | 0, _, _, _, _, _, _, _, _, h => by cases h
  | f + 1, m, dp, e, i, lv, e', j, lv', h => by
    unfold p_go at h
    split at h
    · split at h
      · split at h
        · exact (pBad_no h).elim
        · obtain ⟨i2, h1, h2, rfl⟩ := p_must_ok h
          obtain ⟨a1, a2, a3, a4⟩ := p_go_len f _ _ _ _ _ _ _ _ h1
          have a5 := a2 (Or.inr (Or.inr rfl))
          exact ⟨by omega, fun _ => ⟨by omega, by omega⟩, fun q => by omega, a4⟩
      · obtain ⟨a1, a2, a3⟩ := p_leaf_len h
        exact ⟨by omega, fun _ => ⟨a1, a2⟩, fun q => by omega, a3⟩
    · split at h
      · obtain ⟨e1, i1, l1, h1, h2⟩ := pBind_ok h
        obtain ⟨a1, a2, a3, a4⟩ := p_go_len f _ _ _ _ _ _ _ _ h1
        obtain ⟨b1, b2, b3, b4⟩ := p_go_len f _ _ _ _ _ _ _ _ h2
        have a5 := a2 (Or.inl rfl)
        have b5 := b3 (by omega)
        exact ⟨by omega, fun _ => ⟨by omega, by omega⟩, fun q => by omega, fun q => b4 (a4 q)⟩
      · split at h
        · split at h
          · obtain ⟨e1, i1, l1, h1, h2⟩ := pBind_ok h
            obtain ⟨a1, a2, a3, a4⟩ := p_go_len f _ _ _ _ _ _ _ _ h1
            obtain ⟨b1, b2, b3, b4⟩ := p_go_len f _ _ _ _ _ _ _ _ h2
            have a5 := a2 (Or.inl rfl)
            have b5 := b3 (by omega)
            rw [x_bin_len] at b5
            exact ⟨by omega, fun q => by omega, fun q => by omega, fun q => b4 (a4 q)⟩
          · obtain ⟨rfl, rfl, rfl⟩ := pOk_inj h
            exact ⟨by omega, fun q => by omega, fun q => by omega, fun q => q⟩
        · split at h
          · obtain ⟨e1, i1, l1, h1, h2⟩ := pBind_ok h
            obtain ⟨a1, a2, a3, a4⟩ := p_go_len f _ _ _ _ _ _ _ _ h1
            obtain ⟨b1, b2, b3, b4⟩ := p_go_len f _ _ _ _ _ _ _ _ h2
            have a5 := a2 (Or.inr (Or.inl rfl))
            have b5 := b3 (by omega)
            exact ⟨by omega, fun _ => ⟨by omega, by omega⟩, fun q => by omega, fun q => b4 (a4 q)⟩
          · split at h
            · obtain ⟨e1, i1, l1, h1, h2⟩ := pBind_ok h
              obtain ⟨a1, a2, a3, a4⟩ := p_go_len f _ _ _ _ _ _ _ _ h1
              obtain ⟨b1, b2, b3, b4⟩ := p_go_len f _ _ _ _ _ _ _ _ h2
              have a5 := a2 (Or.inr (Or.inl rfl))
              have b5 := b3 (by omega)
              rw [x_bin_len] at b5
              exact ⟨by omega, fun q => by omega, fun q => by omega, fun q => b4 (a4 q)⟩
            · obtain ⟨rfl, rfl, rfl⟩ := pOk_inj h
              exact ⟨by omega, fun q => by omega, fun q => by omega, fun q => q⟩
theorem p_go_ne {T : Tk} {N : Nat} (h0 : ∀ q, N ≤ q → T.1 q = 0) : ∀ (f m dp : Nat) (e : Ex) (i lv : Nat), m ≤ 4 → i ≤ N → 5 * (N - i) + m + 1 ≤ f → p_go T f m dp e i lv ≠ none
  | 0, m, dp, e, i, lv, hm, hi, hf => by omega
  | f + 1, m, dp, e, i, lv, hm, hi, hf => by
    unfold p_go
    split
    · rename_i m0
      split
      · rename_i h191
        have hi2 : i < N := p_lt h0 (by rw [h191]; decide)
        split
        · exact pBad_ne
        · exact p_must_ne (p_go_ne h0 f 3 _ _ _ _ (by omega) (by omega) (by omega))
      · exact p_leaf_ne
    · split
      · rename_i m0 m1
        refine pBind_ne (p_go_ne h0 f 0 _ _ _ _ (by omega) hi (by omega)) (fun a j l h => ?_)
        have a1 := (p_go_len f _ _ _ _ _ _ _ _ h).2.1 (Or.inl rfl)
        have a2 := p_go_le h0 f _ _ _ _ _ _ _ _ h hi
        exact p_go_ne h0 f 2 _ _ _ _ (by omega) a2 (by omega)
      · split
        · rename_i m0 m1 m2
          split
          · rename_i op hop
            have hi2 : i < N := p_lt h0 (by rcases p_opt_some hop with ⟨q, -⟩ | ⟨q, -⟩ | ⟨q, -⟩ <;> rw [q] <;> decide)
            refine pBind_ne (p_go_ne h0 f 0 _ _ _ _ (by omega) hi2 (by omega)) (fun a j l h => ?_)
            have a1 := (p_go_len f _ _ _ _ _ _ _ _ h).2.1 (Or.inl rfl)
            have a2 := p_go_le h0 f _ _ _ _ _ _ _ _ h hi2
            exact p_go_ne h0 f 2 _ _ _ _ (by omega) a2 (by omega)
          · exact pOk_ne
        · split
          · rename_i m0 m1 m2 m3
            refine pBind_ne (p_go_ne h0 f 1 _ _ _ _ (by omega) hi (by omega)) (fun a j l h => ?_)
            have a1 := (p_go_len f _ _ _ _ _ _ _ _ h).2.1 (Or.inr (Or.inl rfl))
            have a2 := p_go_le h0 f _ _ _ _ _ _ _ _ h hi
            exact p_go_ne h0 f 4 _ _ _ _ (by omega) a2 (by omega)
          · rename_i m0 m1 m2 m3
            split
            · rename_i op hop
              have hi2 : i < N := p_lt h0 (by rcases p_ops_some hop with ⟨q, -⟩ | ⟨q, -⟩ <;> rw [q] <;> decide)
              refine pBind_ne (p_go_ne h0 f 1 _ _ _ _ (by omega) hi2 (by omega)) (fun a j l h => ?_)
              have a1 := (p_go_len f _ _ _ _ _ _ _ _ h).2.1 (Or.inr (Or.inl rfl))
              have a2 := p_go_le h0 f _ _ _ _ _ _ _ _ h hi2
              exact p_go_ne h0 f 4 _ _ _ _ (by omega) a2 (by omega)
            · exact pOk_ne
theorem p_nots_len {T : Tk} : ∀ (f : Nat) (b : Bool) (i : Nat) (b' : Bool) (j : Nat), p_nots T f b i = some (b', j) → i ≤ j ∧ (b' ≠ b → i < j)
  | 0, _, _, _, _, h => by cases h
  | f + 1, b, i, b', j, h => by
    unfold p_nots at h
    split at h
    · have q := p_nots_len f _ _ _ _ h
      exact ⟨by omega, fun _ => by omega⟩
    · cases h
      exact ⟨Nat.le_refl _, fun q => absurd rfl q⟩
theorem p_nots_ne {T : Tk} {N : Nat} (h0 : ∀ q, N ≤ q → T.1 q = 0) : ∀ (f : Nat) (b : Bool) (i : Nat), i ≤ N → N - i + 1 ≤ f → p_nots T f b i ≠ none
  | 0, b, i, hi, hf => by omega
  | f + 1, b, i, hi, hf => by
    unfold p_nots
    split
    · rename_i h
      have hi2 : i < N := p_lt h0 (by rw [h]; decide)
      exact p_nots_ne h0 f _ _ hi2 (by omega)
    · exact fun z => by cases z
theorem p_sum_len {T : Tk} {f dp i lv j lv' : Nat} {e : Ex} (h : p_sum T f dp i lv = pOk e j lv') : i < j ∧ e.2.length ≤ j - i ∧ (lv ≤ 50 → lv' ≤ 50) := by
  obtain ⟨a1, a2, a3, a4⟩ := p_go_len f _ _ _ _ _ _ _ _ h
  have a5 := a2 (Or.inr (Or.inr rfl))
  exact ⟨a5.1, a5.2, a4⟩
theorem p_sum_ne {T : Tk} {N : Nat} (h0 : ∀ q, N ≤ q → T.1 q = 0) {f dp i lv : Nat} (hi : i ≤ N) (hf : 5 * (N - i) + 4 ≤ f) : p_sum T f dp i lv ≠ none := p_go_ne h0 f 3 _ _ _ _ (by omega) hi (by omega)
theorem p_cmp_len {T : Tk} {f dp i lv j lv' : Nat} {e : Te} (h : p_cmp T f dp i lv = pOk e j lv') : i < j ∧ (∀ p, (e.2 p).length ≤ j - i) ∧ (lv ≤ 50 → lv' ≤ 50) := by
  obtain ⟨a, j1, l1, op, b, h1, h2, h3, rfl⟩ := p_cmp_ok h
  obtain ⟨a1, a2, a3⟩ := p_sum_len h1
  obtain ⟨b1, b2, b3⟩ := p_sum_len h3
  refine ⟨by omega, fun p => ?_, fun q => b3 (a3 q)⟩
  show (a.2 ++ b.2 ++ [(8 + op, (0 : Int32))]).length ≤ _
  rw [List.length_append, List.length_append]
  show a.2.length + b.2.length + 1 ≤ _
  omega
theorem p_cmp_ne {T : Tk} {N : Nat} (h0 : ∀ q, N ≤ q → T.1 q = 0) {f dp i lv : Nat} (hi : i ≤ N) (hf : 5 * (N - i) + 4 ≤ f) : p_cmp T f dp i lv ≠ none := by
  refine pBind_ne (p_sum_ne h0 hi hf) (fun a j l h => ?_)
  have a1 := (p_sum_len h).1
  cases hop : p_opc (T.1 j) with
  | none => exact pBad_ne
  | some op =>
    have hj : j < N := p_lt h0 (by rcases p_opc_some hop with ⟨q, -⟩ | ⟨q, -⟩ | ⟨q, -⟩ <;> rw [q] <;> decide)
    exact pBind_ne (p_sum_ne h0 hj (by omega)) (fun _ _ _ _ => pOk_ne)
theorem y_neg_len (a : Te) (p : Nat) : ((y_neg a).2 p).length = (a.2 p).length + 1 := by
  show (a.2 p ++ [(11, (0 : Int32))]).length = _
  rw [List.length_append]
  rfl
theorem y_and_len (a b : Te) (p : Nat) : ((y_and a b).2 p).length = (a.2 p).length + 1 + (b.2 (p + (a.2 p).length + 1)).length := by
  show (a.2 p ++ _ :: b.2 (p + (a.2 p).length + 1)).length = _
  rw [List.length_append, List.length_cons]
  omega
theorem y_or_len (a b : Te) (p : Nat) : ((y_or a b).2 p).length = (a.2 p).length + 1 + (b.2 (p + (a.2 p).length + 1)).length := by
  show (a.2 p ++ _ :: b.2 (p + (a.2 p).length + 1)).length = _
  rw [List.length_append, List.length_cons]
  omega
theorem p_turn_ok {b : Bool} {x : PR Te} {e : Te} {j lv' : Nat} (h : p_turn b x = pOk e j lv') : ∃ t, x = pOk t j lv' ∧ e = if b then y_neg t else t := pMap_ok h
theorem q_go_len {T : Tk} : ∀ (f m dp : Nat) (e : Te) (i lv : Nat) (e' : Te) (j lv' : Nat), q_go T f m dp e i lv = pOk e' j lv' → i ≤ j ∧ (m = 0 ∨ m = 1 ∨ m = 3 → i < j ∧ ∀ p, (e'.2 p).length ≤ j - i) ∧ (¬ (m = 0 ∨ m = 1 ∨ m = 3) → ∀ p, (e'.2 p).length ≤ (e.2 p).length + (j - i)) ∧ (lv ≤ 50 → lv' ≤ 50)
  | 0, _, _, _, _, _, _, _, _, h => by cases h
  | f + 1, m, dp, e, i, lv, e', j, lv', h => by
    unfold q_go at h
    split at h
    · rename_i m0
      split at h
      · cases h
      · rename_i bb jj hn
        obtain ⟨n1, n2⟩ := p_nots_len f _ _ _ _ hn
        obtain ⟨t, ht, rfl⟩ := p_turn_ok h
        have core : jj < j ∧ (∀ p, (t.2 p).length ≤ j - jj) ∧ (lv ≤ 50 → lv' ≤ 50) := by
          split at ht
          · split at ht
            · exact (pBad_no ht).elim
            · obtain ⟨i2, h1, h2, rfl⟩ := p_must_ok ht
              obtain ⟨a1, a2, a3, a4⟩ := q_go_len f _ _ _ _ _ _ _ _ h1
              have a5 := a2 (Or.inr (Or.inr rfl))
              exact ⟨by omega, fun p => by have := a5.2 p; omega, a4⟩
          · exact p_cmp_len ht
        refine ⟨by omega, fun _ => ⟨by omega, fun p => ?_⟩, fun q => by omega, core.2.2⟩
        cases bb with
        | false =>
          have c := core.2.1 p
          show (t.2 p).length ≤ _
          omega
        | true =>
          have c := core.2.1 p
          have n3 := n2 (by decide)
          show ((y_neg t).2 p).length ≤ _
          rw [y_neg_len]
          omega
    · split at h
      · obtain ⟨e1, i1, l1, h1, h2⟩ := pBind_ok h
        obtain ⟨a1, a2, a3, a4⟩ := q_go_len f _ _ _ _ _ _ _ _ h1
        obtain ⟨b1, b2, b3, b4⟩ := q_go_len f _ _ _ _ _ _ _ _ h2
        have a5 := a2 (Or.inl rfl)
        have b5 := b3 (by omega)
        exact ⟨by omega, fun _ => ⟨by omega, fun p => by have := a5.2 p; have := b5 p; omega⟩, fun q => by omega, fun q => b4 (a4 q)⟩
      · split at h
        · split at h
          · obtain ⟨e1, i1, l1, h1, h2⟩ := pBind_ok h
            obtain ⟨a1, a2, a3, a4⟩ := q_go_len f _ _ _ _ _ _ _ _ h1
            obtain ⟨b1, b2, b3, b4⟩ := q_go_len f _ _ _ _ _ _ _ _ h2
            have a5 := a2 (Or.inl rfl)
            have b5 := b3 (by omega)
            refine ⟨by omega, fun q => by omega, fun q p => ?_, fun q => b4 (a4 q)⟩
            have c := b5 p
            rw [y_and_len] at c
            have c2 := a5.2 (p + (e.2 p).length + 1)
            omega
          · obtain ⟨rfl, rfl, rfl⟩ := pOk_inj h
            exact ⟨by omega, fun q => by omega, fun q p => by omega, fun q => q⟩
        · split at h
          · obtain ⟨e1, i1, l1, h1, h2⟩ := pBind_ok h
            obtain ⟨a1, a2, a3, a4⟩ := q_go_len f _ _ _ _ _ _ _ _ h1
            obtain ⟨b1, b2, b3, b4⟩ := q_go_len f _ _ _ _ _ _ _ _ h2
            have a5 := a2 (Or.inr (Or.inl rfl))
            have b5 := b3 (by omega)
            exact ⟨by omega, fun _ => ⟨by omega, fun p => by have := a5.2 p; have := b5 p; omega⟩, fun q => by omega, fun q => b4 (a4 q)⟩
          · split at h
            · obtain ⟨e1, i1, l1, h1, h2⟩ := pBind_ok h
              obtain ⟨a1, a2, a3, a4⟩ := q_go_len f _ _ _ _ _ _ _ _ h1
              obtain ⟨b1, b2, b3, b4⟩ := q_go_len f _ _ _ _ _ _ _ _ h2
              have a5 := a2 (Or.inr (Or.inl rfl))
              have b5 := b3 (by omega)
              refine ⟨by omega, fun q => by omega, fun q p => ?_, fun q => b4 (a4 q)⟩
              have c := b5 p
              rw [y_or_len] at c
              have c2 := a5.2 (p + (e.2 p).length + 1)
              omega
            · obtain ⟨rfl, rfl, rfl⟩ := pOk_inj h
              exact ⟨by omega, fun q => by omega, fun q p => by omega, fun q => q⟩
theorem q_go_ne {T : Tk} {N : Nat} (h0 : ∀ q, N ≤ q → T.1 q = 0) : ∀ (f m dp : Nat) (e : Te) (i lv : Nat), m ≤ 4 → i ≤ N → 6 * (N - i) + m + 6 ≤ f → q_go T f m dp e i lv ≠ none
  | 0, m, dp, e, i, lv, hm, hi, hf => by omega
  | f + 1, m, dp, e, i, lv, hm, hi, hf => by
    unfold q_go
    split
    · rename_i m0
      cases hn : p_nots T f false i with
      | none => exact absurd hn (p_nots_ne h0 f _ _ hi (by omega))
      | some bj =>
        obtain ⟨bb, jj⟩ := bj
        obtain ⟨n1, n2⟩ := p_nots_len f _ _ _ _ hn
        have n3 := (p_nots_le h0 f _ _ _ _ hn hi).1
        show p_turn bb _ ≠ none
        refine pMap_ne ?_
        split
        · rename_i h140
          have hi2 : jj < N := p_lt h0 (by rw [h140]; decide)
          split
          · exact pBad_ne
          · exact p_must_ne (q_go_ne h0 f 3 _ _ _ _ (by omega) (by omega) (by omega))
        · exact p_cmp_ne h0 n3 (by omega)
    · split
      · rename_i m0 m1
        refine pBind_ne (q_go_ne h0 f 0 _ _ _ _ (by omega) hi (by omega)) (fun a j l h => ?_)
        have a1 := (q_go_len f _ _ _ _ _ _ _ _ h).2.1 (Or.inl rfl)
        have a2 := q_go_le h0 f _ _ _ _ _ _ _ _ h hi
        have a3 := a1.1
        exact q_go_ne h0 f 2 _ _ _ _ (by omega) a2 (by omega)
      · split
        · rename_i m0 m1 m2
          split
          · rename_i h6
            have hi2 : i < N := p_lt h0 (by rw [h6]; decide)
            refine pBind_ne (q_go_ne h0 f 0 _ _ _ _ (by omega) hi2 (by omega)) (fun a j l h => ?_)
            have a1 := ((q_go_len f _ _ _ _ _ _ _ _ h).2.1 (Or.inl rfl)).1
            have a2 := q_go_le h0 f _ _ _ _ _ _ _ _ h hi2
            exact q_go_ne h0 f 2 _ _ _ _ (by omega) a2 (by omega)
          · exact pOk_ne
        · split
          · rename_i m0 m1 m2 m3
            refine pBind_ne (q_go_ne h0 f 1 _ _ _ _ (by omega) hi (by omega)) (fun a j l h => ?_)
            have a1 := ((q_go_len f _ _ _ _ _ _ _ _ h).2.1 (Or.inr (Or.inl rfl))).1
            have a2 := q_go_le h0 f _ _ _ _ _ _ _ _ h hi
            exact q_go_ne h0 f 4 _ _ _ _ (by omega) a2 (by omega)
          · rename_i m0 m1 m2 m3
            split
            · rename_i h5
              have hi2 : i < N := p_lt h0 (by rw [h5]; decide)
              refine pBind_ne (q_go_ne h0 f 1 _ _ _ _ (by omega) hi2 (by omega)) (fun a j l h => ?_)
              have a1 := ((q_go_len f _ _ _ _ _ _ _ _ h).2.1 (Or.inr (Or.inl rfl))).1
              have a2 := q_go_le h0 f _ _ _ _ _ _ _ _ h hi2
              exact q_go_ne h0 f 4 _ _ _ _ (by omega) a2 (by omega)
            · exact pOk_ne
