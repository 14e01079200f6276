/-! what is read is good: it is reckoned as it tells, its parts are few, its sums are ints -/
def k_i32 (e : Ex) : Prop := ∀ w x, e.1 w = some x → x.toInt32.toInt64 = x
def k_X (o : Bool) (e : Ex) : Prop := k_GX o e ∧ k_i32 e
theorem k_bd32 {v x : Int64} (h : e_bd v = some x) : x.toInt32.toInt64 = x := by
  unfold e_bd at h
  split at h
  · cases h
  · rename_i z
    cases h
    have h1 : ¬ (1000000000 : Int64) < v := fun q => z (Or.inl q)
    have h2 : ¬ v < (-1000000000 : Int64) := fun q => z (Or.inr q)
    rw [Int64.lt_iff_toInt_lt] at h1 h2
    have a1 : (1000000000 : Int64).toInt = 1000000000 := by decide
    have a2 : (-1000000000 : Int64).toInt = -1000000000 := by decide
    apply Int64.toInt_inj.mp
    rw [Int32.toInt_toInt64, Int64.toInt_toInt32, Int.bmod_eq_of_le (by omega) (by omega)]
theorem k_op32 {op : Nat} {a b x : Int64} (h : e_op op a b = some x) : x.toInt32.toInt64 = x := by
  unfold e_op at h
  split at h
  · exact k_bd32 h
  · split at h
    · exact k_bd32 h
    · split at h
      · exact k_bd32 h
      · split at h
        · split at h
          · cases h
          · exact k_bd32 h
        · split at h
          · cases h
          · exact k_bd32 h
theorem k_i32_num (v : Int32) : k_i32 (x_num v) := by
  intro w x h
  have h : some v.toInt64 = some x := h
  cases h
  rw [Int32.toInt32_toInt64]
theorem k_i32_word (o : Bool) (c k : Nat) : k_i32 (x_word o c k) := by
  intro w x h
  have h : some (w c k).toInt64 = some x := h
  cases h
  rw [Int32.toInt32_toInt64]
theorem k_i32_bin (op : Nat) (a b : Ex) : k_i32 (x_bin op a b) := by
  intro w x h
  have h : (a.1 w).bind (fun x => (b.1 w).bind (fun y => e_op op x y)) = some x := h
  cases ha : a.1 w with
  | none => rw [ha] at h; cases h
  | some u =>
    rw [ha] at h
    cases hb : b.1 w with
    | none => rw [hb] at h; cases h
    | some v =>
      rw [hb] at h
      exact k_op32 h
theorem k_X_bin (o : Bool) {op : Nat} (hop : op < 5) {a b : Ex} (ha : k_X o a) (hb : k_X o b) : k_X o (x_bin op a b) := ⟨k_GX_bin o hop ha.1 hb.1, k_i32_bin op a b⟩
theorem pBind_ok {α β : Type} {x : PR α} {f : α → Nat → Nat → PR β} {b : β} {j lv : Nat} (h : pBind x f = pOk b j lv) : ∃ a i l, x = pOk a i l ∧ f a i l = pOk b j lv := by
  unfold pBind at h
  split at h
  · rename_i a i l
    exact ⟨a, i, l, rfl, h⟩
  · cases h
  · cases h
theorem pMap_ok {α β : Type} {f : α → β} {x : PR α} {b : β} {j lv : Nat} (h : pMap f x = pOk b j lv) : ∃ a, x = pOk a j lv ∧ b = f a := by
  obtain ⟨a, i, l, h1, h2⟩ := pBind_ok h
  cases h2
  exact ⟨a, h1, rfl⟩
theorem p_must_ok {α : Type} {T : Tk} {c : Int32} {x : PR α} {b : α} {j lv : Nat} (h : p_must T c x = pOk b j lv) : ∃ i, x = pOk b i lv ∧ T.1 i = c ∧ j = i + 1 := by
  obtain ⟨a, i, l, h1, h2⟩ := pBind_ok h
  split at h2
  · rename_i z
    cases h2
    exact ⟨i, h1, z, rfl⟩
  · cases h2
theorem pBad_no {α : Type} {i : Nat} {a : α} {j lv : Nat} (h : (pBad i : PR α) = pOk a j lv) : False := by cases h
theorem pOk_inj {α : Type} {a b : α} {i j k l : Nat} (h : (pOk a i k : PR α) = pOk b j l) : a = b ∧ i = j ∧ k = l := by cases h; exact ⟨rfl, rfl, rfl⟩
theorem p_leaf_cases {T : Tk} {i lv j lv' : Nat} {e : Ex} (h : p_leaf T i lv = pOk e j lv') : lv' = lv + 1 ∧ lv ≠ 50 ∧ ((T.1 i = 50 ∧ e = x_num (T.2.1 i) ∧ j = i + 1) ∨ (∃ c k, T.2.2 = true ∧ T.1 i = nI c ∧ (c = 14 ∨ c = 20) ∧ T.1 (i + 1) = 50 ∧ T.2.1 (i + 1) = nI k ∧ k_ok true c k ∧ e = x_word true c k ∧ j = i + 2) ∨ (∃ c, T.2.2 = true ∧ T.1 i = nI c ∧ 14 < c ∧ c < 20 ∧ k_ok true c 0 ∧ e = x_word true c 0 ∧ j = i + 1) ∨ (∃ c, T.2.2 = false ∧ T.1 i = nI c ∧ 8 ≤ c ∧ c ≤ 16 ∧ e = x_word false c 0 ∧ j = i + 1)) := by
  unfold p_leaf at h
  by_cases h0 : T.1 i = 50 ∧ T.2.1 i ≤ 1000 ∨ (if T.2.2 = true then 14 else 8) ≤ T.1 i ∧ T.1 i ≤ (if T.2.2 = true then 20 else 16)
  · rw [if_pos h0] at h
    by_cases h50 : lv = 50
    · rw [if_pos h50] at h
      exact (pBad_no h).elim
    · rw [if_neg h50] at h
      by_cases hn : T.1 i = 50
      · rw [if_pos hn] at h
        obtain ⟨rfl, rfl, rfl⟩ := pOk_inj h
        exact ⟨rfl, h50, Or.inl ⟨hn, rfl, rfl⟩⟩
      · rw [if_neg hn] at h
        have hw : (if T.2.2 = true then 14 else 8) ≤ T.1 i ∧ T.1 i ≤ (if T.2.2 = true then 20 else 16) := by
          rcases h0 with z | z
          · exact absurd z.1 hn
          · exact z
        by_cases ho : T.2.2 = true ∧ (T.1 i = 14 ∨ T.1 i = 20)
        · rw [if_pos ho] at h
          by_cases hv : T.1 (i + 1) = 50 ∧ 0 ≤ T.2.1 (i + 1) ∧ T.2.1 (i + 1) ≤ (if T.1 i = 14 then 6 else 4)
          · rw [if_pos hv] at h
            obtain ⟨rfl, rfl, rfl⟩ := pOk_inj h
            obtain ⟨hv1, hv2, hv3⟩ := hv
            have q3 : T.2.1 (i + 1) ≤ (if T.1 i = 14 then nI 6 else nI 4) := hv3
            refine ⟨rfl, h50, Or.inr (Or.inl ?_)⟩
            rcases ho.2 with z | z
            · rw [z, if_pos rfl] at q3
              obtain ⟨y, hy, e⟩ := nI_of2 (M := nI 6) (n := 6) (by decide) (Int32.not_lt.mpr hv2) q3
              refine ⟨14, y, ho.1, z, Or.inl rfl, hv1, e, ?_, ?_, rfl⟩
              · unfold k_ok
                rw [if_pos rfl]
                exact ⟨by decide, by decide, fun _ => hy, fun q => absurd q (by decide)⟩
              · rw [z, e, am_cln (show y < 2 ^ 31 by omega)]
                rfl
            · rw [z, if_neg (by decide)] at q3
              obtain ⟨y, hy, e⟩ := nI_of2 (M := nI 4) (n := 4) (by decide) (Int32.not_lt.mpr hv2) q3
              refine ⟨20, y, ho.1, z, Or.inr rfl, hv1, e, ?_, ?_, rfl⟩
              · unfold k_ok
                rw [if_pos rfl]
                exact ⟨by decide, by decide, fun q => absurd q (by decide), fun _ => hy⟩
              · rw [z, e, am_cln (show y < 2 ^ 31 by omega)]
                rfl
          · rw [if_neg hv] at h
            exact (pBad_no h).elim
        · rw [if_neg ho] at h
          obtain ⟨rfl, rfl, rfl⟩ := pOk_inj h
          refine ⟨rfl, h50, ?_⟩
          cases hT : T.2.2 with
          | true =>
            rw [hT] at hw ho
            rw [if_pos rfl, if_pos rfl] at hw
            obtain ⟨y, hy, e⟩ := nI_of2 (M := 20) (n := 20) (by decide) (Int32.not_lt.mpr (Int32.le_trans (by decide) hw.1)) hw.2
            rw [e] at hw
            have h3 : 14 ≤ y := (nI_leI (a := 14) (b := y) (by omega) (by omega)).mp hw.1
            have h4 : y ≠ 14 := fun z => ho ⟨rfl, Or.inl (by rw [e, z]; rfl)⟩
            have h5 : y ≠ 20 := fun z => ho ⟨rfl, Or.inr (by rw [e, z]; rfl)⟩
            refine Or.inr (Or.inr (Or.inl ⟨y, rfl, e, by omega, by omega, ?_, ?_, rfl⟩))
            · unfold k_ok
              rw [if_pos rfl]
              exact ⟨h3, hy, fun _ => by omega, fun _ => by omega⟩
            · rw [e, am_cln (show y < 2 ^ 31 by omega)]
          | false =>
            rw [hT] at hw
            rw [if_neg (by decide), if_neg (by decide)] at hw
            obtain ⟨y, hy, e⟩ := nI_of2 (M := 16) (n := 16) (by decide) (Int32.not_lt.mpr (Int32.le_trans (by decide) hw.1)) hw.2
            rw [e] at hw
            have h3 : 8 ≤ y := (nI_leI (a := 8) (b := y) (by omega) (by omega)).mp hw.1
            refine Or.inr (Or.inr (Or.inr ⟨y, rfl, e, h3, hy, ?_, rfl⟩))
            rw [e, am_cln (show y < 2 ^ 31 by omega)]
  · rw [if_neg h0] at h
    exact (pBad_no h).elim
theorem p_leaf_good {T : Tk} {i lv j lv' : Nat} {e : Ex} (h : p_leaf T i lv = pOk e j lv') : k_X T.2.2 e ∧ k_dep e.2 = 1 ∧ lv' = lv + 1 ∧ lv ≠ 50 := by
  obtain ⟨h1, h2, h3⟩ := p_leaf_cases h
  rcases h3 with ⟨-, rfl, -⟩ | ⟨c, k, hT, -, -, -, -, hk, rfl, -⟩ | ⟨c, hT, -, -, -, hk, rfl, -⟩ | ⟨c, hT, -, h8, h16, rfl, -⟩
  · exact ⟨⟨k_GX_num _ _, k_i32_num _⟩, rfl, h1, h2⟩
  · rw [hT]
    exact ⟨⟨k_GX_word true hk, k_i32_word _ _ _⟩, rfl, h1, h2⟩
  · rw [hT]
    exact ⟨⟨k_GX_word true hk, k_i32_word _ _ _⟩, rfl, h1, h2⟩
  · rw [hT]
    refine ⟨⟨k_GX_word false ?_, k_i32_word _ _ _⟩, rfl, h1, h2⟩
    unfold k_ok
    rw [if_neg (by decide)]
    exact ⟨h8, h16⟩
theorem p_opt_lt {c : Int32} {op : Nat} (h : p_opt c = some op) : op < 5 := by
  unfold p_opt at h
  split at h
  · cases h; decide
  · split at h
    · cases h; decide
    · split at h
      · cases h; decide
      · cases h
theorem p_ops_lt {c : Int32} {op : Nat} (h : p_ops c = some op) : op < 5 := by
  unfold p_ops at h
  split at h
  · cases h; decide
  · split at h
    · cases h; decide
    · cases h
theorem p_opc_lt {c : Int32} {op : Nat} (h : p_opc c = some op) : op < 3 := by
  unfold p_opc at h
  split at h
  · cases h; decide
  · split at h
    · cases h; decide
    · split at h
      · cases h; decide
      · cases h
theorem k_dep_bin (op : Nat) (a b : Ex) : k_dep (x_bin op a b).2 = k_dep a.2 + k_dep b.2 := by
  show k_dep (a.2 ++ b.2 ++ [(3 + op, 0)]) = _
  rw [k_dep_app, k_dep_app, k_dep_op _ _ (by omega), Nat.add_zero]
/-- a rest goes on with a sum -/
def p_rs (m : Nat) : Prop := m = 2 ∨ 4 ≤ m
theorem p_go_good (T : Tk) : ∀ (f m dp : Nat) (e : Ex) (i lv : Nat) (e' : Ex) (j lv' : Nat), p_go T f m dp e i lv = pOk e' j lv' → ∀ D, (p_rs m → k_X T.2.2 e ∧ k_dep e.2 = D) → (¬ p_rs m → D = 0) → k_X T.2.2 e' ∧ k_dep e'.2 + lv = D + lv' ∧ (lv ≤ 50 → lv' ≤ 50)
  | 0, _, _, _, _, _, _, _, _, h, _, _, _ => by cases h
  | f + 1, m, dp, e, i, lv, e', j, lv', h, D, hr, hz => by
    unfold p_go at h
    split at h
    · rename_i hm
      have hD := hz (by unfold p_rs; omega)
      split at h
      · split at h
        · exact (pBad_no h).elim
        · obtain ⟨i2, h1, -, -⟩ := p_must_ok h
          have z := p_go_good T f 3 (dp + 1) e (i + 1) lv e' i2 lv' h1 0 (fun q => absurd q (by unfold p_rs; omega)) (fun _ => rfl)
          exact ⟨z.1, by have := z.2.1; omega, z.2.2⟩
      · obtain ⟨g1, g2, g3, g4⟩ := p_leaf_good h
        exact ⟨g1, by omega, fun _ => by omega⟩
    · rename_i hm0
      split at h
      · rename_i hm
        have hD := hz (by unfold p_rs; omega)
        obtain ⟨e1, i1, l1, h1, h2⟩ := pBind_ok h
        have z1 := p_go_good T f 0 dp e i lv e1 i1 l1 h1 0 (fun q => absurd q (by unfold p_rs; omega)) (fun _ => rfl)
        have z2 := p_go_good T f 2 dp e1 i1 l1 e' j lv' h2 (k_dep e1.2) (fun _ => ⟨z1.1, rfl⟩) (fun q => absurd (Or.inl rfl) q)
        exact ⟨z2.1, by have := z1.2.1; have := z2.2.1; omega, fun q => z2.2.2 (z1.2.2 q)⟩
      · split at h
        · rename_i hm
          obtain ⟨hX, hD⟩ := hr (Or.inl hm)
          split at h
          · rename_i op hop
            obtain ⟨e1, i1, l1, h1, h2⟩ := pBind_ok h
            have z1 := p_go_good T f 0 dp e (i + 1) lv e1 i1 l1 h1 0 (fun q => absurd q (by unfold p_rs; omega)) (fun _ => rfl)
            have z2 := p_go_good T f 2 dp (x_bin op e e1) i1 l1 e' j lv' h2 (k_dep e.2 + k_dep e1.2) (fun _ => ⟨k_X_bin _ (p_opt_lt hop) hX z1.1, k_dep_bin op e e1⟩) (fun q => absurd (Or.inl rfl) q)
            exact ⟨z2.1, by have := z1.2.1; have := z2.2.1; omega, fun q => z2.2.2 (z1.2.2 q)⟩
          · obtain ⟨rfl, -, rfl⟩ := pOk_inj h
            exact ⟨hX, by omega, fun q => q⟩
        · split at h
          · rename_i hm
            have hD := hz (by unfold p_rs; omega)
            obtain ⟨e1, i1, l1, h1, h2⟩ := pBind_ok h
            have z1 := p_go_good T f 1 dp e i lv e1 i1 l1 h1 0 (fun q => absurd q (by unfold p_rs; omega)) (fun _ => rfl)
            have z2 := p_go_good T f 4 dp e1 i1 l1 e' j lv' h2 (k_dep e1.2) (fun _ => ⟨z1.1, rfl⟩) (fun q => absurd (Or.inr (Nat.le_refl 4)) q)
            exact ⟨z2.1, by have := z1.2.1; have := z2.2.1; omega, fun q => z2.2.2 (z1.2.2 q)⟩
          · rename_i hm1 hm2 hm3
            have hm4 : p_rs m := by unfold p_rs; omega
            obtain ⟨hX, hD⟩ := hr hm4
            split at h
            · rename_i op hop
              obtain ⟨e1, i1, l1, h1, h2⟩ := pBind_ok h
              have z1 := p_go_good T f 1 dp e (i + 1) lv e1 i1 l1 h1 0 (fun q => absurd q (by unfold p_rs; omega)) (fun _ => rfl)
              have z2 := p_go_good T f 4 dp (x_bin op e e1) i1 l1 e' j lv' h2 (k_dep e.2 + k_dep e1.2) (fun _ => ⟨k_X_bin _ (p_ops_lt hop) hX z1.1, k_dep_bin op e e1⟩) (fun q => absurd (Or.inr (Nat.le_refl 4)) q)
              exact ⟨z2.1, by have := z1.2.1; have := z2.2.1; omega, fun q => z2.2.2 (z1.2.2 q)⟩
            · obtain ⟨rfl, -, rfl⟩ := pOk_inj h
              exact ⟨hX, by omega, fun q => q⟩
theorem p_sum_good {T : Tk} {f dp i lv j lv' : Nat} {e : Ex} (h : p_sum T f dp i lv = pOk e j lv') : k_X T.2.2 e ∧ k_dep e.2 + lv = lv' ∧ (lv ≤ 50 → lv' ≤ 50) := by
  have z := p_go_good T f 3 dp x_0 i lv e j lv' h 0 (fun q => absurd q (by unfold p_rs; omega)) (fun _ => rfl)
  exact ⟨z.1, by have := z.2.1; omega, z.2.2⟩
theorem p_cmp_good {T : Tk} {f dp i lv j lv' : Nat} {e : Te} (h : p_cmp T f dp i lv = pOk e j lv') : k_GT T.2.2 e ∧ (∀ p, k_dep (e.2 p) + lv = lv') ∧ (lv ≤ 50 → lv' ≤ 50) := by
  obtain ⟨a, i1, l1, h1, h2⟩ := pBind_ok h
  split at h2
  · rename_i op hop
    obtain ⟨b, i2, l2, h3, h4⟩ := pBind_ok h2
    obtain ⟨rfl, -, rfl⟩ := pOk_inj h4
    have z1 := p_sum_good h1
    have z2 := p_sum_good h3
    refine ⟨k_GT_cmp _ (p_opc_lt hop) z1.1.1 z2.1.1, fun p => ?_, fun q => z2.2.2 (z1.2.2 q)⟩
    show k_dep (a.2 ++ b.2 ++ [(8 + op, 0)]) + lv = l2
    rw [k_dep_app, k_dep_app, k_dep_op _ _ (by omega), Nat.add_zero]
    have := z1.2.1
    have := z2.2.1
    omega
  · exact (pBad_no h2).elim
theorem k_dep_or (a b : Te) (p : Nat) : k_dep ((y_or a b).2 p) = k_dep (a.2 p) + k_dep (b.2 (p + (a.2 p).length + 1)) := by
  show k_dep (a.2 p ++ (12, nI (p + (a.2 p).length + 1 + (b.2 (p + (a.2 p).length + 1)).length)) :: b.2 (p + (a.2 p).length + 1)) = _
  rw [k_dep_app, k_dep_cons _ _ _ (by omega)]
theorem k_dep_and (a b : Te) (p : Nat) : k_dep ((y_and a b).2 p) = k_dep (a.2 p) + k_dep (b.2 (p + (a.2 p).length + 1)) := by
  show k_dep (a.2 p ++ (13, nI (p + (a.2 p).length + 1 + (b.2 (p + (a.2 p).length + 1)).length)) :: b.2 (p + (a.2 p).length + 1)) = _
  rw [k_dep_app, k_dep_cons _ _ _ (by omega)]
theorem p_turn_good {o : Bool} {b : Bool} {x : PR Te} {e : Te} {j lv lv' : Nat} (h : p_turn b x = pOk e j lv') (hx : ∀ t, x = pOk t j lv' → k_GT o t ∧ (∀ p, k_dep (t.2 p) + lv = lv') ∧ (lv ≤ 50 → lv' ≤ 50)) : k_GT o e ∧ (∀ p, k_dep (e.2 p) + lv = lv') ∧ (lv ≤ 50 → lv' ≤ 50) := by
  obtain ⟨t, h1, rfl⟩ := pMap_ok h
  obtain ⟨g1, g2, g3⟩ := hx t h1
  cases b with
  | false => exact ⟨g1, g2, g3⟩
  | true =>
    refine ⟨k_GT_neg o g1, fun p => ?_, g3⟩
    show k_dep (t.2 p ++ [(11, 0)]) + lv = lv'
    rw [k_dep_app, k_dep_op _ _ (by omega), Nat.add_zero]
    exact g2 p
theorem q_go_good (T : Tk) : ∀ (f m dp : Nat) (e : Te) (i lv : Nat) (e' : Te) (j lv' : Nat), q_go T f m dp e i lv = pOk e' j lv' → ∀ D, (p_rs m → k_GT T.2.2 e ∧ ∀ p, k_dep (e.2 p) = D) → (¬ p_rs m → D = 0) → k_GT T.2.2 e' ∧ (∀ p, k_dep (e'.2 p) + lv = D + lv') ∧ (lv ≤ 50 → lv' ≤ 50)
  | 0, _, _, _, _, _, _, _, _, h, _, _, _ => by cases h
  | f + 1, m, dp, e, i, lv, e', j, lv', h, D, hr, hz => by
    unfold q_go at h
    split at h
    · rename_i hm
      have hD := hz (by unfold p_rs; omega)
      split at h
      · cases h
      · rename_i b j0 hb
        have z := p_turn_good (o := T.2.2) (lv := lv) h (fun t ht => by
          split at ht
          · split at ht
            · exact (pBad_no ht).elim
            · obtain ⟨i2, h1, -, -⟩ := p_must_ok ht
              have z := q_go_good T f 3 (dp + 1) e (j0 + 1) lv t i2 lv' h1 0 (fun q => absurd q (by unfold p_rs; omega)) (fun _ => rfl)
              exact ⟨z.1, fun p => by have := z.2.1 p; omega, z.2.2⟩
          · exact p_cmp_good ht)
        exact ⟨z.1, fun p => by have := z.2.1 p; omega, z.2.2⟩
    · rename_i hm0
      split at h
      · rename_i hm
        have hD := hz (by unfold p_rs; omega)
        obtain ⟨e1, i1, l1, h1, h2⟩ := pBind_ok h
        have z1 := q_go_good T f 0 dp e i lv e1 i1 l1 h1 0 (fun q => absurd q (by unfold p_rs; omega)) (fun _ => rfl)
        have hd1 : ∀ p, k_dep (e1.2 p) = l1 - lv := fun p => by have := z1.2.1 p; omega
        have z2 := q_go_good T f 2 dp e1 i1 l1 e' j lv' h2 (l1 - lv) (fun _ => ⟨z1.1, hd1⟩) (fun q => absurd (Or.inl rfl) q)
        exact ⟨z2.1, fun p => by have := z1.2.1 p; have := z2.2.1 p; omega, fun q => z2.2.2 (z1.2.2 q)⟩
      · split at h
        · rename_i hm
          obtain ⟨hX, hD⟩ := hr (Or.inl hm)
          split at h
          · obtain ⟨e1, i1, l1, h1, h2⟩ := pBind_ok h
            have z1 := q_go_good T f 0 dp e (i + 1) lv e1 i1 l1 h1 0 (fun q => absurd q (by unfold p_rs; omega)) (fun _ => rfl)
            have hd1 : ∀ p, k_dep (e1.2 p) = l1 - lv := fun p => by have := z1.2.1 p; omega
            have z2 := q_go_good T f 2 dp (y_and e e1) i1 l1 e' j lv' h2 (D + (l1 - lv)) (fun _ => ⟨k_GT_and _ hX z1.1, fun p => by rw [k_dep_and, hD, hd1]⟩) (fun q => absurd (Or.inl rfl) q)
            exact ⟨z2.1, fun p => by have := z1.2.1 p; have := z2.2.1 p; omega, fun q => z2.2.2 (z1.2.2 q)⟩
          · obtain ⟨rfl, -, rfl⟩ := pOk_inj h
            exact ⟨hX, fun p => by rw [hD], fun q => q⟩
        · split at h
          · rename_i hm
            have hD := hz (by unfold p_rs; omega)
            obtain ⟨e1, i1, l1, h1, h2⟩ := pBind_ok h
            have z1 := q_go_good T f 1 dp e i lv e1 i1 l1 h1 0 (fun q => absurd q (by unfold p_rs; omega)) (fun _ => rfl)
            have hd1 : ∀ p, k_dep (e1.2 p) = l1 - lv := fun p => by have := z1.2.1 p; omega
            have z2 := q_go_good T f 4 dp e1 i1 l1 e' j lv' h2 (l1 - lv) (fun _ => ⟨z1.1, hd1⟩) (fun q => absurd (Or.inr (Nat.le_refl 4)) q)
            exact ⟨z2.1, fun p => by have := z1.2.1 p; have := z2.2.1 p; omega, fun q => z2.2.2 (z1.2.2 q)⟩
          · rename_i hm1 hm2 hm3
            have hm4 : p_rs m := by unfold p_rs; omega
            obtain ⟨hX, hD⟩ := hr hm4
            split at h
            · obtain ⟨e1, i1, l1, h1, h2⟩ := pBind_ok h
              have z1 := q_go_good T f 1 dp e (i + 1) lv e1 i1 l1 h1 0 (fun q => absurd q (by unfold p_rs; omega)) (fun _ => rfl)
              have hd1 : ∀ p, k_dep (e1.2 p) = l1 - lv := fun p => by have := z1.2.1 p; omega
              have z2 := q_go_good T f 4 dp (y_or e e1) i1 l1 e' j lv' h2 (D + (l1 - lv)) (fun _ => ⟨k_GT_or _ hX z1.1, fun p => by rw [k_dep_or, hD, hd1]⟩) (fun q => absurd (Or.inr (Nat.le_refl 4)) q)
              exact ⟨z2.1, fun p => by have := z1.2.1 p; have := z2.2.1 p; omega, fun q => z2.2.2 (z1.2.2 q)⟩
            · obtain ⟨rfl, -, rfl⟩ := pOk_inj h
              exact ⟨hX, fun p => by rw [hD], fun q => q⟩
theorem p_if_good {T : Tk} {f i lv j lv' : Nat} {t : Option Te} (h : p_if T f i lv = pOk t j lv') : (∀ e, t = some e → k_GT T.2.2 e ∧ ∀ p, k_dep (e.2 p) + lv = lv') ∧ (lv ≤ 50 → lv' ≤ 50) := by
  unfold p_if at h
  split at h
  · obtain ⟨e, h1, rfl⟩ := pMap_ok h
    have z := q_go_good T f 3 0 y_0 (i + 1) lv e j lv' h1 0 (fun q => absurd q (by unfold p_rs; omega)) (fun _ => rfl)
    refine ⟨fun e2 he => ?_, z.2.2⟩
    cases he
    exact ⟨z.1, fun p => by have := z.2.1 p; omega⟩
  · obtain ⟨rfl, -, rfl⟩ := pOk_inj h
    exact ⟨fun e he => absurd he (fun z => nomatch z), fun q => q⟩
/-- a clause as it can be read -/
def k_cl (o : Bool) (x : Cl) : Prop :=
  (if o = true then (x.1 = 21 ∧ x.2.1.length = 1 ∨ x.1 = 22 ∧ x.2.1.length = 1 ∨ x.1 = 23 ∧ x.2.1.length = 3 ∨ x.1 = 26 ∧ x.2.1.length = 0) else (x.1 = 1 ∧ x.2.1.length = 1 ∨ x.1 = 2 ∧ x.2.1.length = 1 ∨ x.1 = 3 ∧ x.2.1.length = 0))
  ∧ (∀ e ∈ x.2.1, k_X o e ∧ k_dep e.2 ≤ 50) ∧ (1 ≤ x.2.2.1 ∧ x.2.2.1 ≤ 20) ∧ ∀ t, x.2.2.2 = some t → k_GT o t ∧ ∀ p, k_dep (t.2 p) ≤ 50
theorem p_more_good {T : Tk} {f i lv j lv' : Nat} {c : Int32} {e : Ex} (h : p_more T f c i lv = pOk e j lv') : k_X T.2.2 e ∧ k_dep e.2 + lv = lv' ∧ (lv ≤ 50 → lv' ≤ 50) := by
  unfold p_more at h
  split at h
  · exact p_sum_good h
  · exact (pBad_no h).elim
theorem p_head_good {T : Tk} {f i lv j lv' : Nat} {hd : Nat × List Ex} (h : p_head T f i lv = pOk hd j lv') (h50 : lv ≤ 50) : (if T.2.2 = true then (hd.1 = 21 ∧ hd.2.length = 1 ∨ hd.1 = 22 ∧ hd.2.length = 1 ∨ hd.1 = 23 ∧ hd.2.length = 3 ∨ hd.1 = 26 ∧ hd.2.length = 0) else (hd.1 = 1 ∧ hd.2.length = 1 ∨ hd.1 = 2 ∧ hd.2.length = 1 ∨ hd.1 = 3 ∧ hd.2.length = 0)) ∧ (∀ e ∈ hd.2, k_X T.2.2 e ∧ k_dep e.2 ≤ 50) ∧ lv' ≤ 50 := by
  have one : ∀ {k : Nat} {p : PR Ex}, pMap (fun a => (k, [a])) p = pOk hd j lv' → (∀ e j2 l2, p = pOk e j2 l2 → k_X T.2.2 e ∧ k_dep e.2 + lv = l2 ∧ (lv ≤ 50 → l2 ≤ 50)) → hd.1 = k ∧ hd.2.length = 1 ∧ (∀ e ∈ hd.2, k_X T.2.2 e ∧ k_dep e.2 ≤ 50) ∧ lv' ≤ 50 := by
    intro k p h1 h2
    obtain ⟨a, h3, rfl⟩ := pMap_ok h1
    obtain ⟨g1, g2, g3⟩ := h2 _ _ _ h3
    have := g3 h50
    refine ⟨rfl, rfl, fun e he => ?_, this⟩
    have he : e ∈ [a] := he
    rw [List.mem_singleton] at he
    subst he
    exact ⟨g1, by omega⟩
  unfold p_head at h
  split at h
  · rename_i hT
    rw [if_pos hT]
    split at h
    · obtain ⟨a, i1, l1, h1, h2⟩ := pBind_ok h
      obtain ⟨b, i2, l2, h3, h4⟩ := pBind_ok h2
      obtain ⟨c, i3, l3, h5, h6⟩ := pBind_ok h4
      obtain ⟨rfl, -, rfl⟩ := pOk_inj h6
      have z1 := p_sum_good h1
      have z2 := p_more_good h3
      have z3 := p_more_good h5
      have q1 := z1.2.2 h50
      have q2 := z2.2.2 q1
      have q3 := z3.2.2 q2
      refine ⟨Or.inr (Or.inr (Or.inl ⟨rfl, rfl⟩)), fun e he => ?_, q3⟩
      have he : e ∈ [a, b, c] := he
      simp only [List.mem_cons, List.not_mem_nil, or_false] at he
      rcases he with rfl | rfl | rfl
      · exact ⟨z1.1, by have := z1.2.1; omega⟩
      · exact ⟨z2.1, by have := z2.2.1; omega⟩
      · exact ⟨z3.1, by have := z3.2.1; omega⟩
    · split at h
      · obtain ⟨g1, g2, g3, g4⟩ := one h (fun e j2 l2 q => p_sum_good q)
        exact ⟨Or.inl ⟨g1, g2⟩, g3, g4⟩
      · split at h
        · obtain ⟨g1, g2, g3, g4⟩ := one h (fun e j2 l2 q => p_sum_good q)
          exact ⟨Or.inr (Or.inl ⟨g1, g2⟩), g3, g4⟩
        · split at h
          · obtain ⟨rfl, -, rfl⟩ := pOk_inj h
            exact ⟨Or.inr (Or.inr (Or.inr ⟨rfl, rfl⟩)), fun e he => absurd he List.not_mem_nil, h50⟩
          · exact (pBad_no h).elim
  · rename_i hT
    rw [if_neg hT]
    split at h
    · obtain ⟨g1, g2, g3, g4⟩ := one h (fun e j2 l2 q => p_sum_good q)
      exact ⟨Or.inl ⟨g1, g2⟩, g3, g4⟩
    · split at h
      · obtain ⟨g1, g2, g3, g4⟩ := one h (fun e j2 l2 q => p_sum_good q)
        exact ⟨Or.inr (Or.inl ⟨g1, g2⟩), g3, g4⟩
      · split at h
        · obtain ⟨rfl, -, rfl⟩ := pOk_inj h
          exact ⟨Or.inr (Or.inr ⟨rfl, rfl⟩), fun e he => absurd he List.not_mem_nil, h50⟩
        · exact (pBad_no h).elim
theorem p_times_good {T : Tk} {i lv j lv' t : Nat} (h : p_times T i lv = pOk t j lv') : (1 ≤ t ∧ t ≤ 20) ∧ lv' = lv := by
  unfold p_times at h
  split at h
  · split at h
    · rename_i hv
      obtain ⟨rfl, -, rfl⟩ := pOk_inj h
      obtain ⟨y, hy, e⟩ := nI_of2 (M := 20) (n := 20) (by decide) (Int32.not_lt.mpr (Int32.le_trans (by decide) hv.2.1)) hv.2.2
      have h1 := hv.2.1
      rw [e] at h1 ⊢
      have h3 : 1 ≤ y := (nI_leI (a := 1) (b := y) (by omega) (by omega)).mp h1
      rw [am_cln (show y < 2 ^ 31 by omega)]
      exact ⟨⟨h3, hy⟩, rfl⟩
    · exact (pBad_no h).elim
  · obtain ⟨rfl, -, rfl⟩ := pOk_inj h
    exact ⟨⟨by decide, by decide⟩, rfl⟩
theorem p_cl_good {T : Tk} {f i lv j lv' : Nat} {x : Cl} (h : p_cl T f i lv = pOk x j lv') (h50 : lv ≤ 50) : k_cl T.2.2 x ∧ lv' ≤ 50 := by
  obtain ⟨hd, i1, l1, h1, h2⟩ := pBind_ok h
  obtain ⟨t, i2, l2, h3, h4⟩ := pBind_ok h2
  obtain ⟨te, i3, l3, h5, h6⟩ := pBind_ok h4
  obtain ⟨rfl, -, rfl⟩ := pOk_inj h6
  obtain ⟨g1, g2, g3⟩ := p_head_good h1 h50
  have ht : (1 ≤ t ∧ t ≤ 20) ∧ l2 = l1 := by
    split at h3
    · exact p_times_good h3
    · obtain ⟨rfl, -, rfl⟩ := pOk_inj h3
      exact ⟨⟨by decide, by decide⟩, rfl⟩
  have z := p_if_good h5
  have q3 : l3 ≤ 50 := z.2 (by omega)
  refine ⟨⟨g1, g2, ht.1, fun e he => ?_⟩, q3⟩
  obtain ⟨y1, y2⟩ := z.1 e he
  exact ⟨y1, fun p => by have := y2 p; omega⟩
theorem p_list_good {T : Tk} {N f : Nat} : ∀ (r i lv : Nat) {xs : List Cl} {j lv' : Nat}, p_list T N f r i lv = pOk xs j lv' → lv ≤ 50 → (∀ x ∈ xs, k_cl T.2.2 x) ∧ xs.length ≤ r ∧ 0 < xs.length
  | 0, _, _, _, _, _, h, _ => (pBad_no h).elim
  | r + 1, i, lv, xs, j, lv', h, h50 => by
    obtain ⟨c, i1, l1, h1, h2⟩ := pBind_ok h
    have z := p_cl_good h1 h50
    split at h2
    · obtain ⟨rfl, -, rfl⟩ := pOk_inj h2
      refine ⟨fun x hx => ?_, by simp, by simp⟩
      rw [List.mem_singleton] at hx
      rw [hx]
      exact z.1
    · split at h2
      · obtain ⟨cs, h3, rfl⟩ := pMap_ok h2
        have z2 := p_list_good r (i1 + 1) l1 h3 z.2
        refine ⟨fun x hx => ?_, by rw [List.length_cons]; omega, by rw [List.length_cons]; omega⟩
        rw [List.mem_cons] at hx
        rcases hx with rfl | hx
        · exact z.1
        · exact z2.1 x hx
      · exact (pBad_no h2).elim
theorem p_read_good {T : Tk} {N j lv : Nat} {xs : List Cl} (h : p_read T N = pOk xs j lv) : (∀ x ∈ xs, k_cl T.2.2 x) ∧ xs.length ≤ 12 ∧ 0 < xs.length := p_list_good 12 0 0 h (by decide)
