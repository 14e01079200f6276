/-! the reference reads: parts, terms, sums -/
theorem am_u_cm {α : Type} {f : Nat → Nat → α} {a k j : Nat} {v w : α} (h : k ≠ j) : am_u (am_u f a k v) a j w = am_u (am_u f a j w) a k v := by
  funext b q
  simp only [am_u_get]
  by_cases h1 : b = a ∧ q = j
  · rw [if_pos h1, if_neg (by omega), if_pos h1]
  · rw [if_neg h1]
    by_cases h2 : b = a ∧ q = k
    · rw [if_pos h2, if_pos h2]
    · rw [if_neg h2, if_neg h2, if_neg h1]
theorem am_u_uu {α : Type} {f : Nat → Nat → α} {a k : Nat} {v w : α} : am_u (am_u f a k v) a k w = am_u f a k w := by
  funext b q
  simp only [am_u_get]
  by_cases h1 : b = a ∧ q = k
  · rw [if_pos h1, if_pos h1]
  · rw [if_neg h1, if_neg h1, if_neg h1]
/-- which token comes, how many parts there were, where the fault is -/
def r_s (I : Nat → Nat → Int32) (i lv : Nat) (bd : Int32) : Nat → Nat → Int32 := am_u (am_u (am_u I 124 19 (nI i)) 124 20 (nI lv)) 124 21 bd
theorem s_inl3 {α : Type} {a a' : α} {i i' l l' : Nat} (h : (Sum.inl (a, i, l) : (α × Nat × Nat) ⊕ Nat) = .inl (a', i', l')) : a' = a ∧ i' = i ∧ l' = l := by
  cases h
  exact ⟨rfl, rfl, rfl⟩
theorem s_inr {α : Type} {i i' : Nat} (h : (Sum.inr i : (α × Nat × Nat) ⊕ Nat) = .inr i') : i' = i := by
  cases h
  rfl
section
variable {I : Nat → Nat → Int32} {i j lv lw : Nat} {bd bb : Int32}
theorem r_s_ne {a : Nat} (h : a ≠ 124) : r_s I i lv bd a = I a := by
  unfold r_s
  rw [am_u_ne h, am_u_ne h, am_u_ne h]
theorem r_s_at {q : Nat} (h1 : q ≠ 19) (h2 : q ≠ 20) (h3 : q ≠ 21) : r_s I i lv bd 124 q = I 124 q := by
  unfold r_s
  rw [am_u_at h3, am_u_at h2, am_u_at h1]
theorem r_s_19 : r_s I i lv bd 124 19 = nI i := by
  unfold r_s
  rw [am_u_at (by decide), am_u_at (by decide), am_u_self]
theorem r_s_20 : r_s I i lv bd 124 20 = nI lv := by
  unfold r_s
  rw [am_u_at (by decide), am_u_self]
theorem r_s_21 : r_s I i lv bd 124 21 = bd := am_u_self
theorem r_s_u19 : am_u (r_s I i lv bd) 124 19 (nI j) = r_s I j lv bd := by
  unfold r_s
  rw [am_u_cm (by decide), am_u_cm (k := 20) (j := 19) (by decide), am_u_uu]
theorem r_s_u20 : am_u (r_s I i lv bd) 124 20 (nI lw) = r_s I i lw bd := by
  unfold r_s
  rw [am_u_cm (by decide), am_u_uu]
theorem r_s_u21 : am_u (r_s I i lv bd) 124 21 bb = r_s I i lv bb := am_u_uu
end
/-- tokens T, N of them, where they lie -/
def r_E (S : List (Nat × Nat)) (I : Nat → Nat → Int32) (P : Nat → Nat → Option Nat) (T : Tk) (N : Nat) (pl : Nat → Nat) : Prop :=
  am_Lay S P ∧ N ≤ 400 ∧ (∀ i, i ≤ N → I 133 i = T.1 i ∧ I 134 i = T.2.1 i ∧ I 135 i = nI (pl i) ∧ pl i ≤ 400) ∧ (∀ i, N ≤ i → T.1 i = 0) ∧ I 124 10 = (if T.2.2 = true then 1 else 0) ∧ I 124 8 = (if T.2.2 = true then 14 else 8) ∧ I 124 9 = (if T.2.2 = true then 20 else 16)
section
variable {pr : am_Pr} {d : Nat} {S : List (Nat × Nat)} {I : Nat → Nat → Int32} {J : Nat → Nat → Int64} {P : Nat → Nat → Option Nat} {Q : Option Value → am_H → Prop} {T : Tk} {N i lv : Nat} {pl : Nat → Nat}
theorem c229 (L : am_Lay S P) {x : Int32} (h : I 124 21 = x) (k : Q (some (.int (am_b (x = -1)))) (S, I, J, P)) : am_ev pr d 229 [.ref 124] (S, I, J, P) Q := by
  show am_wp pr d 229 0 [(0, .ref 124)] [] _ _
  by_cases hx : x = -1
  · rw [am_b_t hx] at k
    refine w229_0 rfl ?_
    refine w229_1 ?_
    rw [h]
    refine w229_4 ?_
    refine w229_5 (fun hQ => absurd hQ (fun q => q hx)) (fun _ => ?_)
    refine w229_8 ?_
    refine w229_9 ?_
    refine w229_13 (by first | rfl | exact am_narrow_b _) ?_
    exact k
  · rw [am_b_f hx] at k
    refine w229_0 rfl ?_
    refine w229_1 ?_
    rw [h]
    refine w229_4 ?_
    refine w229_5 (fun _ => ?_) (fun hQ => absurd hx hQ)
    refine w229_12 ?_
    refine w229_13 (by first | rfl | exact am_narrow_b _) ?_
    exact k
theorem c228 (E : r_E S I P T N pl) (hi : i ≤ N) {c : Int32} (k1 : T.1 i = c → Q (some (.int 1)) (S, r_s I (i + 1) lv (-1), J, P)) (k0 : ¬ T.1 i = c → Q (some (.int 0)) (S, r_s I i lv (-1), J, P)) : am_ev pr (d + 1) 228 [.ref 124, .int c] (S, r_s I i lv (-1), J, P) Q := by
  obtain ⟨L, hN, ht, -⟩ := E
  have e1 : r_s I i lv (-1) 133 i = T.1 i := by rw [r_s_ne (by decide)]; exact (ht i hi).1
  show am_wp pr (d + 1) 228 0 [(0, .ref 124), (1, .int c)] [] _ _
  by_cases h : T.1 i = c
  · refine w228_0 rfl ?_
    refine w228_1 (k := c229 L r_s_21 ?_)
    rw [am_b_t rfl]
    refine w228_4 (fun hQ => absurd hQ (by decide)) (fun _ => ?_)
    refine w228_7 rfl ?_
    refine w228_8 (L.2 _ _ _ rfl) ?_
    refine w228_11 rfl ?_
    refine w228_12 ?_
    rw [r_s_19]
    refine w228_15 (L.sh rfl) (am_in_nI (by omega) (by decide)) ?_
    rw [am_clN (by omega), e1]
    refine w228_16 rfl ?_
    refine w228_17 (fun hQ => absurd hQ (fun q => q h)) (fun _ => ?_)
    refine w228_20 ?_
    refine w228_21 ?_
    refine w228_25 ?_
    refine w228_26 rfl ?_
    refine w228_27 (fun hQ => absurd hQ (by decide)) (fun _ => ?_)
    refine w228_30 rfl ?_
    refine w228_31 rfl ?_
    refine w228_32 ?_
    rw [r_s_19]
    refine w228_35 ?_
    refine w228_36 ?_
    rw [nI_1]
    refine w228_37 ?_
    rw [r_s_u19]
    refine w228_40 rfl ?_
    refine w228_41 (by first | rfl | exact am_narrow_b _) ?_
    exact k1 h
  · refine w228_0 rfl ?_
    refine w228_1 (k := c229 L r_s_21 ?_)
    rw [am_b_t rfl]
    refine w228_4 (fun hQ => absurd hQ (by decide)) (fun _ => ?_)
    refine w228_7 rfl ?_
    refine w228_8 (L.2 _ _ _ rfl) ?_
    refine w228_11 rfl ?_
    refine w228_12 ?_
    rw [r_s_19]
    refine w228_15 (L.sh rfl) (am_in_nI (by omega) (by decide)) ?_
    rw [am_clN (by omega), e1]
    refine w228_16 rfl ?_
    refine w228_17 (fun _ => ?_) (fun hQ => absurd h hQ)
    refine w228_24 ?_
    refine w228_25 ?_
    refine w228_26 rfl ?_
    refine w228_27 (fun _ => ?_) (fun hQ => absurd rfl hQ)
    refine w228_40 rfl ?_
    refine w228_41 (by first | rfl | exact am_narrow_b _) ?_
    exact k0 h
theorem c228d (L : am_Lay S P) (hb : ¬ I 124 21 = -1) {c : Int32} (k : Q (some (.int 0)) (S, I, J, P)) : am_ev pr (d + 1) 228 [.ref 124, .int c] (S, I, J, P) Q := by
  show am_wp pr (d + 1) 228 0 [(0, .ref 124), (1, .int c)] [] _ _
  refine w228_0 rfl ?_
  refine w228_1 (k := c229 L rfl ?_)
  rw [am_b_f hb]
  refine w228_4 (fun _ => ?_) (fun hQ => absurd rfl hQ)
  refine w228_24 ?_
  refine w228_25 ?_
  refine w228_26 rfl ?_
  refine w228_27 (fun _ => ?_) (fun hQ => absurd rfl hQ)
  refine w228_40 rfl ?_
  refine w228_41 (by first | rfl | exact am_narrow_b _) ?_
  exact k
theorem c233 (E : r_E S I P T N pl) (hi : i ≤ N) (k : Q none (S, r_s I i lv (nI (pl i)), J, P)) : am_ev pr (d + 1) 233 [.ref 124] (S, r_s I i lv (-1), J, P) Q := by
  obtain ⟨L, hN, ht, -⟩ := E
  have e1 : r_s I i lv (-1) 135 i = nI (pl i) := by rw [r_s_ne (by decide)]; exact (ht i hi).2.2.1
  show am_wp pr (d + 1) 233 0 [(0, .ref 124)] [] _ _
  refine w233_0 rfl ?_
  refine w233_1 (k := c229 L r_s_21 ?_)
  rw [am_b_t rfl]
  refine w233_4 (fun hQ => absurd hQ (by decide)) (fun _ => ?_)
  refine w233_7 rfl ?_
  refine w233_8 rfl ?_
  refine w233_9 (L.2 _ _ _ rfl) ?_
  refine w233_12 rfl ?_
  refine w233_13 ?_
  rw [r_s_19]
  refine w233_16 (L.sh rfl) (am_in_nI (by omega) (by decide)) ?_
  rw [am_clN (by omega), e1]
  refine w233_17 ?_
  rw [r_s_u21]
  refine w233_20 ?_
  exact k
theorem c233d (L : am_Lay S P) (hb : ¬ I 124 21 = -1) (k : Q none (S, I, J, P)) : am_ev pr (d + 1) 233 [.ref 124] (S, I, J, P) Q := by
  show am_wp pr (d + 1) 233 0 [(0, .ref 124)] [] _ _
  refine w233_0 rfl ?_
  refine w233_1 (k := c229 L rfl ?_)
  rw [am_b_f hb]
  refine w233_4 (fun _ => ?_) (fun hQ => absurd rfl hQ)
  refine w233_20 ?_
  exact k
theorem c234 (E : r_E S I P T N pl) (hi : i ≤ N) {c : Int32} (k1 : T.1 i = c → Q none (S, r_s I (i + 1) lv (-1), J, P)) (k0 : ¬ T.1 i = c → Q none (S, r_s I i lv (nI (pl i)), J, P)) : am_ev pr (d + 2) 234 [.ref 124, .int c] (S, r_s I i lv (-1), J, P) Q := by
  have L := E.1
  show am_wp pr (d + 2) 234 0 [(0, .ref 124), (1, .int c)] [] _ _
  refine w234_0 rfl ?_
  refine w234_1 rfl ?_
  refine w234_2 (k := c228 E hi (fun h => ?_) (fun h => ?_))
  · refine w234_5 (fun _ => ?_) (fun hQ => absurd (by decide) hQ)
    refine w234_12 ?_
    exact k1 h
  · refine w234_5 (fun hQ => absurd hQ (fun q => q rfl)) (fun _ => ?_)
    refine w234_8 rfl ?_
    refine w234_9 (k := c233 E hi ?_)
    refine w234_12 ?_
    exact k0 h
theorem c234d (L : am_Lay S P) (hb : ¬ I 124 21 = -1) {c : Int32} (k : Q none (S, I, J, P)) : am_ev pr (d + 2) 234 [.ref 124, .int c] (S, I, J, P) Q := by
  show am_wp pr (d + 2) 234 0 [(0, .ref 124), (1, .int c)] [] _ _
  refine w234_0 rfl ?_
  refine w234_1 rfl ?_
  refine w234_2 (k := c228d L hb ?_)
  refine w234_5 (fun hQ => absurd hQ (fun q => q rfl)) (fun _ => ?_)
  refine w234_8 rfl ?_
  refine w234_9 (k := c233d L hb ?_)
  refine w234_12 ?_
  exact k
theorem pl_m1 (E : r_E S I P T N pl) (hi : i ≤ N) : ¬ nI (pl i) = -1 := nI_nm1 (by have := (E.2.2.1 i hi).2.2.2; omega)
theorem c235 (E : r_E S I P T N pl) (hi : i ≤ N) (hl : lv ≤ 50) (k1 : ¬ lv = 50 → Q none (S, r_s I (i + 1) (lv + 1) (-1), J, P)) (k0 : lv = 50 → Q none (S, r_s I i (lv + 1) (nI (pl i)), J, P)) : am_ev pr (d + 2) 235 [.ref 124] (S, r_s I i lv (-1), J, P) Q := by
  have L := E.1
  have hp := pl_m1 E hi
  show am_wp pr (d + 2) 235 0 [(0, .ref 124)] [] _ _
  by_cases h : lv = 50
  · refine w235_0 rfl ?_
    refine w235_1 ?_
    rw [r_s_20]
    refine w235_4 ?_
    refine w235_6 (fun hQ => absurd hQ (fun q => q (by rw [h]; rfl))) (fun _ => ?_)
    refine w235_9 rfl ?_
    refine w235_10 (k := c233 E hi ?_)
    refine w235_13 rfl ?_
    refine w235_14 rfl ?_
    refine w235_15 ?_
    rw [r_s_20]
    refine w235_18 ?_
    refine w235_19 ?_
    rw [nI_1]
    refine w235_20 ?_
    rw [r_s_u20]
    refine w235_23 rfl ?_
    refine w235_24 (k := c229 L r_s_21 ?_)
    rw [am_b_f hp]
    refine w235_27 (fun _ => ?_) (fun hQ => absurd rfl hQ)
    refine w235_40 ?_
    exact k0 h
  · refine w235_0 rfl ?_
    refine w235_1 ?_
    rw [r_s_20]
    refine w235_4 ?_
    refine w235_6 (fun _ => ?_) (fun hQ => absurd (nI_ne (b := 50) h (by omega) (by decide)) hQ)
    refine w235_13 rfl ?_
    refine w235_14 rfl ?_
    refine w235_15 ?_
    rw [r_s_20]
    refine w235_18 ?_
    refine w235_19 ?_
    rw [nI_1]
    refine w235_20 ?_
    rw [r_s_u20]
    refine w235_23 rfl ?_
    refine w235_24 (k := c229 L r_s_21 ?_)
    rw [am_b_t rfl]
    refine w235_27 (fun hQ => absurd hQ (by decide)) (fun _ => ?_)
    refine w235_30 rfl ?_
    refine w235_31 rfl ?_
    refine w235_32 ?_
    rw [r_s_19]
    refine w235_35 ?_
    refine w235_36 ?_
    rw [nI_1]
    refine w235_37 ?_
    rw [r_s_u19]
    refine w235_40 ?_
    exact k1 h
theorem c236 (E : r_E S I P T N pl) (hi : i ≤ N) {x y : Int32} (k1 : T.1 i = 50 ∧ x ≤ T.2.1 i ∧ T.2.1 i ≤ y → Q none (S, r_s I (i + 1) lv (-1), J, P)) (k0 : ¬ (T.1 i = 50 ∧ x ≤ T.2.1 i ∧ T.2.1 i ≤ y) → Q none (S, r_s I i lv (nI (pl i)), J, P)) : am_ev pr (d + 2) 236 [.ref 124, .int x, .int y] (S, r_s I i lv (-1), J, P) Q := by
  have L := E.1
  have hp := pl_m1 E hi
  obtain ⟨-, hN, ht, -⟩ := id E
  have e1 : r_s I i lv (-1) 133 i = T.1 i := by rw [r_s_ne (by decide)]; exact (ht i hi).1
  have e2 : r_s I i lv (-1) 134 i = T.2.1 i := by rw [r_s_ne (by decide)]; exact (ht i hi).2.1
  show am_wp pr (d + 2) 236 0 [(0, .ref 124), (1, .int x), (2, .int y)] [] _ _
  by_cases h50 : T.1 i = 50
  · by_cases hv : x ≤ T.2.1 i ∧ T.2.1 i ≤ y
    · refine w236_0 rfl ?_
      refine w236_1 (k := c229 L r_s_21 ?_)
      rw [am_b_t rfl]
      refine w236_4 (fun hQ => absurd hQ (by decide)) (fun _ => ?_)
      refine w236_7 rfl ?_
      refine w236_8 (L.2 _ _ _ rfl) ?_
      refine w236_11 rfl ?_
      refine w236_12 ?_
      rw [r_s_19]
      refine w236_15 (L.sh rfl) (am_in_nI (by omega) (by decide)) ?_
      rw [am_clN (by omega), e1]
      refine w236_16 ?_
      refine w236_18 (fun hQ => absurd hQ (fun q => q h50)) (fun _ => ?_)
      refine w236_21 rfl ?_
      refine w236_22 (L.2 _ _ _ rfl) ?_
      refine w236_25 rfl ?_
      refine w236_26 ?_
      rw [r_s_19]
      refine w236_29 (L.sh rfl) (am_in_nI (by omega) (by decide)) ?_
      rw [am_clN (by omega), e2]
      refine w236_30 rfl ?_
      refine w236_31 rfl ?_
      refine w236_32 (k := c164 ?_)
      rw [am_b_t hv]
      refine w236_35 (fun _ => ?_) (fun hQ => absurd (by decide) hQ)
      refine w236_42 rfl ?_
      refine w236_43 (k := c229 L r_s_21 ?_)
      rw [am_b_t rfl]
      refine w236_46 (fun hQ => absurd hQ (by decide)) (fun _ => ?_)
      refine w236_49 rfl ?_
      refine w236_50 rfl ?_
      refine w236_51 ?_
      rw [r_s_19]
      refine w236_54 ?_
      refine w236_55 ?_
      rw [nI_1]
      refine w236_56 ?_
      rw [r_s_u19]
      refine w236_59 ?_
      exact k1 ⟨h50, hv⟩
    · refine w236_0 rfl ?_
      refine w236_1 (k := c229 L r_s_21 ?_)
      rw [am_b_t rfl]
      refine w236_4 (fun hQ => absurd hQ (by decide)) (fun _ => ?_)
      refine w236_7 rfl ?_
      refine w236_8 (L.2 _ _ _ rfl) ?_
      refine w236_11 rfl ?_
      refine w236_12 ?_
      rw [r_s_19]
      refine w236_15 (L.sh rfl) (am_in_nI (by omega) (by decide)) ?_
      rw [am_clN (by omega), e1]
      refine w236_16 ?_
      refine w236_18 (fun hQ => absurd hQ (fun q => q h50)) (fun _ => ?_)
      refine w236_21 rfl ?_
      refine w236_22 (L.2 _ _ _ rfl) ?_
      refine w236_25 rfl ?_
      refine w236_26 ?_
      rw [r_s_19]
      refine w236_29 (L.sh rfl) (am_in_nI (by omega) (by decide)) ?_
      rw [am_clN (by omega), e2]
      refine w236_30 rfl ?_
      refine w236_31 rfl ?_
      refine w236_32 (k := c164 ?_)
      rw [am_b_f hv]
      refine w236_35 (fun hQ => absurd hQ (fun q => q rfl)) (fun _ => ?_)
      refine w236_38 rfl ?_
      refine w236_39 (k := c233 E hi ?_)
      refine w236_42 rfl ?_
      refine w236_43 (k := c229 L r_s_21 ?_)
      rw [am_b_f hp]
      refine w236_46 (fun _ => ?_) (fun hQ => absurd rfl hQ)
      refine w236_59 ?_
      exact k0 (fun q => hv q.2)
  · refine w236_0 rfl ?_
    refine w236_1 (k := c229 L r_s_21 ?_)
    rw [am_b_t rfl]
    refine w236_4 (fun hQ => absurd hQ (by decide)) (fun _ => ?_)
    refine w236_7 rfl ?_
    refine w236_8 (L.2 _ _ _ rfl) ?_
    refine w236_11 rfl ?_
    refine w236_12 ?_
    rw [r_s_19]
    refine w236_15 (L.sh rfl) (am_in_nI (by omega) (by decide)) ?_
    rw [am_clN (by omega), e1]
    refine w236_16 ?_
    refine w236_18 (fun _ => ?_) (fun hQ => absurd h50 hQ)
    refine w236_38 rfl ?_
    refine w236_39 (k := c233 E hi ?_)
    refine w236_42 rfl ?_
    refine w236_43 (k := c229 L r_s_21 ?_)
    rw [am_b_f hp]
    refine w236_46 (fun _ => ?_) (fun hQ => absurd rfl hQ)
    refine w236_59 ?_
    exact k0 (fun q => h50 q.1)
theorem c236d (L : am_Lay S P) (hb : ¬ I 124 21 = -1) {x y : Int32} (k : Q none (S, I, J, P)) : am_ev pr (d + 2) 236 [.ref 124, .int x, .int y] (S, I, J, P) Q := by
  show am_wp pr (d + 2) 236 0 [(0, .ref 124), (1, .int x), (2, .int y)] [] _ _
  refine w236_0 rfl ?_
  refine w236_1 (k := c229 L rfl ?_)
  rw [am_b_f hb]
  refine w236_4 (fun _ => ?_) (fun hQ => absurd rfl hQ)
  refine w236_42 rfl ?_
  refine w236_43 (k := c229 L rfl ?_)
  rw [am_b_f hb]
  refine w236_46 (fun _ => ?_) (fun hQ => absurd rfl hQ)
  refine w236_59 ?_
  exact k
theorem c232d (L : am_Lay S P) (hb : ¬ I 124 21 = -1) {x : Int32} (k : Q none (S, I, J, P)) : am_ev pr (d + 1) 232 [.ref 124, .int x] (S, I, J, P) Q := by
  show am_wp pr (d + 1) 232 0 [(0, .ref 124), (1, .int x)] [] _ _
  refine w232_0 rfl ?_
  refine w232_1 (k := c229 L rfl ?_)
  rw [am_b_f hb]
  refine w232_4 (fun hQ => absurd hQ (fun q => q rfl)) (fun _ => ?_)
  refine w232_7 ?_
  exact k
theorem c231d (L : am_Lay S P) (hb : ¬ I 124 21 = -1) {x : Int32} (k : Q none (S, I, J, P)) : am_ev pr (d + 2) 231 [.ref 124, .int x] (S, I, J, P) Q := by
  show am_wp pr (d + 2) 231 0 [(0, .ref 124), (1, .int x)] [] _ _
  refine w231_0 rfl ?_
  refine w231_1 rfl ?_
  refine w231_2 (k := c232d L hb ?_)
  refine w231_5 rfl ?_
  refine w231_6 ?_
  refine w231_8 (k := c188 (y := 142) (by decide) ?_)
  refine w231_11 (k := c228d L hb ?_)
  refine w231_14 (fun hQ => absurd hQ (fun q => q rfl)) (fun _ => ?_)
  refine w231_17 rfl ?_
  refine w231_18 ?_
  refine w231_20 (k := c188 (y := 147) (by decide) ?_)
  refine w231_23 (k := c228d L hb ?_)
  refine w231_26 (fun hQ => absurd hQ (fun q => q rfl)) (fun _ => ?_)
  refine w231_29 rfl ?_
  refine w231_30 ?_
  refine w231_32 (k := c188 (y := 137) (by decide) ?_)
  refine w231_35 (k := c228d L hb ?_)
  refine w231_38 (fun _ => ?_) (fun hQ => absurd rfl hQ)
  refine w231_49 ?_
  exact k
/-- behind a fault nothing more is read -/
theorem c231x (L : am_Lay S P) (hb : ¬ I 124 21 = -1) (k : Q none (S, I, J, P)) : ∀ lv, am_ld1 lv 0 = some (.ref 124) → am_wp pr (d + 2) 231 5 lv [] (S, I, J, P) Q := by
  intro lvv l0
  refine w231_5 l0 ?_
  refine w231_6 ?_
  refine w231_8 (k := c188 (y := 142) (by decide) ?_)
  refine w231_11 (k := c228d L hb ?_)
  refine w231_14 (fun hQ => absurd hQ (fun q => q rfl)) (fun _ => ?_)
  refine w231_17 l0 ?_
  refine w231_18 ?_
  refine w231_20 (k := c188 (y := 147) (by decide) ?_)
  refine w231_23 (k := c228d L hb ?_)
  refine w231_26 (fun hQ => absurd hQ (fun q => q rfl)) (fun _ => ?_)
  refine w231_29 l0 ?_
  refine w231_30 ?_
  refine w231_32 (k := c188 (y := 137) (by decide) ?_)
  refine w231_35 (k := c228d L hb ?_)
  refine w231_38 (fun _ => ?_) (fun hQ => absurd rfl hQ)
  refine w231_49 ?_
  exact k
theorem c230x (L : am_Lay S P) (hb : ¬ I 124 21 = -1) (k : Q none (S, I, J, P)) : ∀ lv, am_ld1 lv 0 = some (.ref 124) → am_wp pr (d + 2) 230 5 lv [] (S, I, J, P) Q := by
  intro lvv l0
  refine w230_5 l0 ?_
  refine w230_6 ?_
  refine w230_8 (k := c188 (y := 143) (by decide) ?_)
  refine w230_11 (k := c228d L hb ?_)
  refine w230_14 (fun hQ => absurd hQ (fun q => q rfl)) (fun _ => ?_)
  refine w230_17 l0 ?_
  refine w230_18 ?_
  refine w230_20 (k := c188 (y := 145) (by decide) ?_)
  refine w230_23 (k := c228d L hb ?_)
  refine w230_26 (fun _ => ?_) (fun hQ => absurd rfl hQ)
  refine w230_37 ?_
  exact k
theorem c230d (L : am_Lay S P) (hb : ¬ I 124 21 = -1) {x : Int32} (k : Q none (S, I, J, P)) : am_ev pr (d + 3) 230 [.ref 124, .int x] (S, I, J, P) Q := by
  show am_wp pr (d + 3) 230 0 [(0, .ref 124), (1, .int x)] [] _ _
  refine w230_0 rfl ?_
  refine w230_1 rfl ?_
  refine w230_2 (k := c231d L hb ?_)
  exact c230x L hb k _ rfl
/-- a part that is no bracket -/
theorem c232l (E : r_E S I P T N pl) (hi : i ≤ N) (hl : lv ≤ 50) {R : (Ex × Nat × Nat) ⊕ Nat} (h : p_leaf T i lv = some R) (h191 : ¬ T.1 i = 191) {x : Int32} (kg : ∀ e' j lv', R = .inl (e', j, lv') → Q none (S, r_s I j lv' (-1), J, P)) (kb : ∀ j i' lv', R = .inr j → j ≤ N → Q none (S, r_s I i' lv' (nI (pl j)), J, P)) : am_ev pr (d + 3) 232 [.ref 124, .int x] (S, r_s I i lv (-1), J, P) Q := by
  have L := E.1
  have hp := pl_m1 E hi
  obtain ⟨-, hN, ht, h0, h10, h8, h9⟩ := id E
  have e1 : r_s I i lv (-1) 133 i = T.1 i := by rw [r_s_ne (by decide)]; exact (ht i hi).1
  have e2 : r_s I i lv (-1) 134 i = T.2.1 i := by rw [r_s_ne (by decide)]; exact (ht i hi).2.1
  have g10 : ∀ {i lv bd}, r_s I i lv bd 124 10 = (if T.2.2 = true then 1 else 0) := by intro i lv bd; rw [r_s_at (by decide) (by decide) (by decide)]; exact h10
  have g8 : r_s I i lv (-1) 124 8 = (if T.2.2 = true then 14 else 8) := by rw [r_s_at (by decide) (by decide) (by decide)]; exact h8
  have g9 : r_s I i lv (-1) 124 9 = (if T.2.2 = true then 20 else 16) := by rw [r_s_at (by decide) (by decide) (by decide)]; exact h9
  have k157 : ¬ (T.1 i = 50 ∧ T.2.1 i ≤ 1000 ∨ (if T.2.2 = true then 14 else 8) ≤ T.1 i ∧ T.1 i ≤ (if T.2.2 = true then 20 else 16)) → ∀ lvv, am_ld1 lvv 0 = some (.ref 124) → am_wp pr (d + 3) 232 157 lvv [] (S, r_s I i lv (-1), J, P) Q := by
    intro hn lvv l0
    unfold p_leaf at h
    rw [if_neg hn] at h
    refine w232_157 l0 ?_
    refine w232_158 (k := c233 E hi ?_)
    refine w232_161 ?_
    exact kb _ _ _ (Option.some.inj h).symm hi
  have k111 : (T.1 i = 50 ∧ T.2.1 i ≤ 1000 ∨ (if T.2.2 = true then 14 else 8) ≤ T.1 i ∧ T.1 i ≤ (if T.2.2 = true then 20 else 16)) → ∀ lvv, am_ld1 lvv 0 = some (.ref 124) → am_ld1 lvv 2 = some (.int (T.1 i)) → am_wp pr (d + 3) 232 111 lvv [] (S, r_s I i lv (-1), J, P) Q := by
    intro hy lvv l0 l2
    unfold p_leaf at h
    rw [if_pos hy] at h
    have hiN : i < N := p_lt h0 (by
      intro z
      rw [z] at hy
      rcases hy with ⟨y, -⟩ | ⟨y, -⟩
      · exact absurd y (by decide)
      · revert y
        split <;> decide)
    refine w232_111 l0 ?_
    refine w232_112 (k := c235 E hi hl (fun hv => ?_) (fun hv => ?_))
    · rw [if_neg hv] at h
      by_cases h50 : T.1 i = 50
      · rw [if_pos h50] at h
        refine w232_115 l0 ?_
        refine w232_116 ?_
        rw [g10]
        refine w232_119 (fun h119 => ?_) (fun h119 => ?_)
        · refine w232_135 l0 ?_
          refine w232_136 ?_
          rw [g10]
          refine w232_139 (fun h139 => ?_) (fun h139 => ?_)
          · refine w232_161 ?_
            exact kg _ _ _ (Option.some.inj h).symm
          · refine w232_142 l2 ?_
            refine w232_143 ?_
            refine w232_145 (fun _ => ?_) (fun hQ => absurd (by rw [h50]; decide) hQ)
            refine w232_161 ?_
            exact kg _ _ _ (Option.some.inj h).symm
        · refine w232_122 l2 ?_
          refine w232_123 ?_
          refine w232_125 (fun _ => ?_) (fun hQ => absurd (by rw [h50]; decide) hQ)
          refine w232_135 l0 ?_
          refine w232_136 ?_
          rw [g10]
          refine w232_139 (fun h139 => ?_) (fun h139 => ?_)
          · refine w232_161 ?_
            exact kg _ _ _ (Option.some.inj h).symm
          · refine w232_142 l2 ?_
            refine w232_143 ?_
            refine w232_145 (fun _ => ?_) (fun hQ => absurd (by rw [h50]; decide) hQ)
            refine w232_161 ?_
            exact kg _ _ _ (Option.some.inj h).symm
      · rw [if_neg h50] at h
        by_cases ho : T.2.2 = true
        · by_cases h14 : T.1 i = 14
          · rw [if_pos ⟨ho, Or.inl h14⟩, if_pos h14] at h
            refine w232_115 l0 ?_
            refine w232_116 ?_
            rw [g10, if_pos ho]
            refine w232_119 (fun q => absurd q (by decide)) (fun _ => ?_)
            refine w232_122 l2 ?_
            refine w232_123 ?_
            refine w232_125 (fun q => absurd h14 q) (fun _ => ?_)
            refine w232_128 l0 ?_
            refine w232_129 ?_
            refine w232_130 ?_
            refine w232_132 (k := c236 E hiN (fun hm => ?_) (fun hm => ?_))
            · rw [if_pos hm] at h
              refine w232_135 l0 ?_
              refine w232_136 ?_
              rw [g10, if_pos ho]
              refine w232_139 (fun hQ => absurd hQ (by decide)) (fun _ => ?_)
              refine w232_142 l2 ?_
              refine w232_143 ?_
              refine w232_145 (fun _ => ?_) (fun hQ => absurd (by rw [h14]; decide) hQ)
              refine w232_161 ?_
              exact kg _ _ _ (Option.some.inj h).symm
            · rw [if_neg hm] at h
              refine w232_135 l0 ?_
              refine w232_136 ?_
              rw [g10, if_pos ho]
              refine w232_139 (fun hQ => absurd hQ (by decide)) (fun _ => ?_)
              refine w232_142 l2 ?_
              refine w232_143 ?_
              refine w232_145 (fun _ => ?_) (fun hQ => absurd (by rw [h14]; decide) hQ)
              refine w232_161 ?_
              exact kb _ _ _ (Option.some.inj h).symm hiN
          · by_cases h20 : T.1 i = 20
            · rw [if_pos ⟨ho, Or.inr h20⟩, if_neg h14] at h
              refine w232_115 l0 ?_
              refine w232_116 ?_
              rw [g10, if_pos ho]
              refine w232_119 (fun hQ => absurd hQ (by decide)) (fun _ => ?_)
              refine w232_122 l2 ?_
              refine w232_123 ?_
              refine w232_125 (fun _ => ?_) (fun hQ => absurd h14 hQ)
              refine w232_135 l0 ?_
              refine w232_136 ?_
              rw [g10, if_pos ho]
              refine w232_139 (fun hQ => absurd hQ (by decide)) (fun _ => ?_)
              refine w232_142 l2 ?_
              refine w232_143 ?_
              refine w232_145 (fun hQ => absurd hQ (fun q => q h20)) (fun _ => ?_)
              refine w232_148 l0 ?_
              refine w232_149 ?_
              refine w232_150 ?_
              refine w232_151 (k := c236 E hiN (fun hm => ?_) (fun hm => ?_))
              · rw [if_pos hm] at h
                refine w232_154 ?_
                refine w232_161 ?_
                exact kg _ _ _ (Option.some.inj h).symm
              · rw [if_neg hm] at h
                refine w232_154 ?_
                refine w232_161 ?_
                exact kb _ _ _ (Option.some.inj h).symm hiN
            · rw [if_neg (fun q => q.2.elim h14 h20)] at h
              refine w232_115 l0 ?_
              refine w232_116 ?_
              rw [g10, if_pos ho]
              refine w232_119 (fun hQ => absurd hQ (by decide)) (fun _ => ?_)
              refine w232_122 l2 ?_
              refine w232_123 ?_
              refine w232_125 (fun _ => ?_) (fun hQ => absurd h14 hQ)
              refine w232_135 l0 ?_
              refine w232_136 ?_
              rw [g10, if_pos ho]
              refine w232_139 (fun hQ => absurd hQ (by decide)) (fun _ => ?_)
              refine w232_142 l2 ?_
              refine w232_143 ?_
              refine w232_145 (fun _ => ?_) (fun hQ => absurd h20 hQ)
              refine w232_161 ?_
              exact kg _ _ _ (Option.some.inj h).symm
        · rw [if_neg (fun q => ho q.1)] at h
          refine w232_115 l0 ?_
          refine w232_116 ?_
          rw [g10, if_neg ho]
          refine w232_119 (fun _ => ?_) (fun hQ => absurd rfl hQ)
          refine w232_135 l0 ?_
          refine w232_136 ?_
          rw [g10, if_neg ho]
          refine w232_139 (fun _ => ?_) (fun hQ => absurd rfl hQ)
          refine w232_161 ?_
          exact kg _ _ _ (Option.some.inj h).symm
    · rw [if_pos hv] at h
      have hd : ¬ r_s I i (lv + 1) (nI (pl i)) 124 21 = -1 := by rw [r_s_21]; exact hp
      by_cases ho : T.2.2 = true
      · refine w232_115 l0 ?_
        refine w232_116 ?_
        rw [g10, if_pos ho]
        refine w232_119 (fun hQ => absurd hQ (by decide)) (fun _ => ?_)
        refine w232_122 l2 ?_
        refine w232_123 ?_
        refine w232_125 (fun h125 => ?_) (fun h125 => ?_)
        · refine w232_135 l0 ?_
          refine w232_136 ?_
          rw [g10, if_pos ho]
          refine w232_139 (fun hQ => absurd hQ (by decide)) (fun _ => ?_)
          refine w232_142 l2 ?_
          refine w232_143 ?_
          refine w232_145 (fun h145 => ?_) (fun h145 => ?_)
          · refine w232_161 ?_
            exact kb _ _ _ (Option.some.inj h).symm hi
          · replace h145 := Decidable.not_not.mp h145
            refine w232_148 l0 ?_
            refine w232_149 ?_
            refine w232_150 ?_
            refine w232_151 (k := c236d L hd ?_)
            refine w232_154 ?_
            refine w232_161 ?_
            exact kb _ _ _ (Option.some.inj h).symm hi
        · replace h125 := Decidable.not_not.mp h125
          refine w232_128 l0 ?_
          refine w232_129 ?_
          refine w232_130 ?_
          refine w232_132 (k := c236d L hd ?_)
          refine w232_135 l0 ?_
          refine w232_136 ?_
          rw [g10, if_pos ho]
          refine w232_139 (fun hQ => absurd hQ (by decide)) (fun _ => ?_)
          refine w232_142 l2 ?_
          refine w232_143 ?_
          refine w232_145 (fun h145 => ?_) (fun h145 => ?_)
          · refine w232_161 ?_
            exact kb _ _ _ (Option.some.inj h).symm hi
          · replace h145 := Decidable.not_not.mp h145
            refine w232_148 l0 ?_
            refine w232_149 ?_
            refine w232_150 ?_
            refine w232_151 (k := c236d L hd ?_)
            refine w232_154 ?_
            refine w232_161 ?_
            exact kb _ _ _ (Option.some.inj h).symm hi
      · refine w232_115 l0 ?_
        refine w232_116 ?_
        rw [g10, if_neg ho]
        refine w232_119 (fun _ => ?_) (fun hQ => absurd rfl hQ)
        refine w232_135 l0 ?_
        refine w232_136 ?_
        rw [g10, if_neg ho]
        refine w232_139 (fun _ => ?_) (fun hQ => absurd rfl hQ)
        refine w232_161 ?_
        exact kb _ _ _ (Option.some.inj h).symm hi
  show am_wp pr (d + 3) 232 0 [(0, .ref 124), (1, .int x)] [] _ _
  refine w232_0 rfl ?_
  refine w232_1 (k := c229 L r_s_21 ?_)
  rw [am_b_t rfl]
  refine w232_4 (fun _ => ?_) (fun hQ => absurd (by decide) hQ)
  refine w232_8 rfl ?_
  refine w232_9 (L.2 _ _ _ rfl) ?_
  refine w232_12 rfl ?_
  refine w232_13 ?_
  rw [r_s_19]
  refine w232_16 (L.sh rfl) (am_in_nI (by omega) (by decide)) ?_
  rw [am_clN (by omega), e1]
  refine w232_17 ?_
  refine w232_18 rfl ?_
  refine w232_19 ?_
  refine w232_21 (k := c188 (y := 191) (by decide) ?_)
  refine w232_24 (fun _ => ?_) (fun hQ => absurd h191 hQ)
  refine w232_74 rfl ?_
  refine w232_75 ?_
  have k95 : ¬ (T.1 i = 50 ∧ T.2.1 i ≤ 1000) → ∀ lvv, am_ld1 lvv 0 = some (.ref 124) → am_ld1 lvv 2 = some (.int (T.1 i)) → am_wp pr (d + 3) 232 95 lvv [] (S, r_s I i lv (-1), J, P) Q := by
    intro hn lvv l0 l2
    by_cases hB : (if T.2.2 = true then 14 else 8) ≤ T.1 i ∧ T.1 i ≤ (if T.2.2 = true then 20 else 16)
    · refine w232_95 l2 ?_
      refine w232_96 l0 ?_
      refine w232_97 ?_
      rw [g8]
      refine w232_100 (fun hQ => absurd hQ (Int32.not_lt.mpr hB.1)) (fun _ => ?_)
      refine w232_103 l2 ?_
      refine w232_104 l0 ?_
      refine w232_105 ?_
      rw [g9]
      refine w232_108 (fun hQ => absurd hQ (Int32.not_lt.mpr hB.2)) (fun _ => ?_)
      exact k111 (Or.inr hB) _ l0 l2
    · by_cases hB1 : (if T.2.2 = true then 14 else 8) ≤ T.1 i
      · refine w232_95 l2 ?_
        refine w232_96 l0 ?_
        refine w232_97 ?_
        rw [g8]
        refine w232_100 (fun hQ => absurd hQ (Int32.not_lt.mpr hB1)) (fun _ => ?_)
        refine w232_103 l2 ?_
        refine w232_104 l0 ?_
        refine w232_105 ?_
        rw [g9]
        refine w232_108 (fun _ => ?_) (fun hQ => absurd (Int32.not_le.mp (fun q => hB ⟨hB1, q⟩)) hQ)
        exact k157 (fun q => q.elim hn hB) _ l0
      · refine w232_95 l2 ?_
        refine w232_96 l0 ?_
        refine w232_97 ?_
        rw [g8]
        refine w232_100 (fun _ => ?_) (fun hQ => absurd (Int32.not_le.mp hB1) hQ)
        exact k157 (fun q => q.elim hn hB) _ l0
  by_cases h50 : T.1 i = 50
  · refine w232_77 (fun q => absurd h50 q) (fun _ => ?_)
    refine w232_80 rfl ?_
    refine w232_81 (L.2 _ _ _ rfl) ?_
    refine w232_84 rfl ?_
    refine w232_85 ?_
    rw [r_s_19]
    refine w232_88 (L.sh rfl) (am_in_nI (by omega) (by decide)) ?_
    rw [am_clN (by omega), e2]
    refine w232_89 ?_
    by_cases hv : T.2.1 i ≤ 1000
    · exact w232_92 (fun _ => k111 (Or.inl ⟨h50, hv⟩) _ rfl rfl) (fun q => absurd hv q)
    · exact w232_92 (fun q => absurd q hv) (fun _ => k95 (fun q => hv q.2) _ rfl rfl)
  · exact w232_77 (fun _ => k95 (fun q => h50 q.1) _ rfl rfl) (fun q => absurd h50 q)
def r_G (pr : am_Pr) (S : List (Nat × Nat)) (I : Nat → Nat → Int32) (J : Nat → Nat → Int64) (P : Nat → Nat → Option Nat) (d : Nat) (Q : Option Value → am_H → Prop) (i lv dp m : Nat) : Prop :=
  (m = 0 → am_ev pr (d + 4) 232 [.ref 124, .int (nI dp)] (S, r_s I i lv (-1), J, P) Q)
  ∧ (m = 1 → am_ev pr (d + 5) 231 [.ref 124, .int (nI dp)] (S, r_s I i lv (-1), J, P) Q)
  ∧ (m = 2 → ∀ lvv, am_ld1 lvv 0 = some (.ref 124) → am_ld1 lvv 1 = some (.int (nI dp)) → am_wp pr (d + 5) 231 5 lvv [] (S, r_s I i lv (-1), J, P) Q)
  ∧ (m = 3 → am_ev pr (d + 6) 230 [.ref 124, .int (nI dp)] (S, r_s I i lv (-1), J, P) Q)
  ∧ (4 ≤ m → ∀ lvv, am_ld1 lvv 0 = some (.ref 124) → am_ld1 lvv 1 = some (.int (nI dp)) → am_wp pr (d + 6) 230 5 lvv [] (S, r_s I i lv (-1), J, P) Q)
theorem r_go (E : r_E S I P T N pl) : ∀ (f m dp : Nat) (e : Ex) (i lv : Nat) (R : (Ex × Nat × Nat) ⊕ Nat), p_go T f m dp e i lv = some R → dp ≤ 8 → i ≤ N → lv ≤ 50 → ∀ (d : Nat) (Q : Option Value → am_H → Prop), (∀ e' j lv', R = .inl (e', j, lv') → Q none (S, r_s I j lv' (-1), J, P)) → (∀ j i' lv', R = .inr j → j ≤ N → Q none (S, r_s I i' lv' (nI (pl j)), J, P)) → r_G pr S I J P (d + 3 * (8 - dp)) Q i lv dp m := by
  have L := E.1
  have h0 := E.2.2.2.1
  intro f
  induction f with
  | zero => intro m dp e i lv R h; cases h
  | succ f ih =>
    intro m dp e i lv R h hdp hi hl d Q kg kb
    have dead : ∀ j i' lv', j ≤ N → ¬ r_s I i' lv' (nI (pl j)) 124 21 = -1 := fun j i' lv' hj => by rw [r_s_21]; exact pl_m1 E hj
    unfold p_go at h
    unfold r_G
    split at h
    · rename_i hm
      subst hm
      refine ⟨fun _ => ?_, fun z => absurd z (by decide), fun z => absurd z (by decide), fun z => absurd z (by decide), fun z => absurd z (by decide)⟩
      split at h
      · rename_i h191
        have hi2 : i < N := p_lt h0 (by rw [h191]; decide)
        have e1 : r_s I i lv (-1) 133 i = T.1 i := by rw [r_s_ne (by decide)]; exact (E.2.2.1 i hi).1
        have hN := E.2.1
        show am_wp pr _ 232 0 [(0, .ref 124), (1, .int (nI dp))] [] _ _
        split at h
        · rename_i hdp8
          refine w232_0 rfl ?_
          refine w232_1 (k := c229 L r_s_21 ?_)
          rw [am_b_t rfl]
          refine w232_4 (fun _ => ?_) (fun hQ => absurd (by decide) hQ)
          refine w232_8 rfl ?_
          refine w232_9 (L.2 _ _ _ rfl) ?_
          refine w232_12 rfl ?_
          refine w232_13 ?_
          rw [r_s_19]
          refine w232_16 (L.sh rfl) (am_in_nI (by omega) (by decide)) ?_
          rw [am_clN (by omega), e1]
          refine w232_17 ?_
          refine w232_18 rfl ?_
          refine w232_19 ?_
          refine w232_21 (k := c188 (y := 191) (by decide) ?_)
          refine w232_24 (fun hQ => absurd hQ (fun q => q h191)) (fun _ => ?_)
          refine w232_27 rfl ?_
          refine w232_28 ?_
          refine w232_30 (fun hQ => absurd hQ (fun q => q (by rw [hdp8]; rfl))) (fun _ => ?_)
          refine w232_33 rfl ?_
          refine w232_34 (k := c233 E hi ?_)
          refine w232_37 rfl ?_
          refine w232_38 (k := c229 L r_s_21 ?_)
          rw [am_b_f (pl_m1 E hi)]
          refine w232_41 (fun hQ => absurd hQ (fun q => q rfl)) (fun _ => ?_)
          refine w232_44 ?_
          exact kb _ _ _ (Option.some.inj h).symm hi
        · rename_i hdp8
          rw [show d + 3 * (8 - dp) + 4 = (d + 3 * (8 - (dp + 1)) + 6) + 1 by omega]
          have hk : p_go T f 3 (dp + 1) e (i + 1) lv ≠ none := fun z => by rw [z] at h; cases h
          obtain ⟨R2, h2⟩ := Option.ne_none_iff_exists'.mp hk
          rw [h2] at h
          refine w232_0 rfl ?_
          refine w232_1 (k := c229 L r_s_21 ?_)
          rw [am_b_t rfl]
          refine w232_4 (fun _ => ?_) (fun hQ => absurd (by decide) hQ)
          refine w232_8 rfl ?_
          refine w232_9 (L.2 _ _ _ rfl) ?_
          refine w232_12 rfl ?_
          refine w232_13 ?_
          rw [r_s_19]
          refine w232_16 (L.sh rfl) (am_in_nI (by omega) (by decide)) ?_
          rw [am_clN (by omega), e1]
          refine w232_17 ?_
          refine w232_18 rfl ?_
          refine w232_19 ?_
          refine w232_21 (k := c188 (y := 191) (by decide) ?_)
          refine w232_24 (fun hQ => absurd hQ (fun q => q h191)) (fun _ => ?_)
          refine w232_27 rfl ?_
          refine w232_28 ?_
          refine w232_30 (fun _ => ?_) (fun hQ => absurd (nI_ne (b := 8) hdp8 (by omega) (by decide)) hQ)
          refine w232_37 rfl ?_
          refine w232_38 (k := c229 L r_s_21 ?_)
          rw [am_b_t rfl]
          refine w232_41 (fun _ => ?_) (fun hQ => absurd (by decide) hQ)
          refine w232_45 rfl ?_
          refine w232_46 rfl ?_
          refine w232_47 ?_
          rw [r_s_19]
          refine w232_50 ?_
          refine w232_51 ?_
          rw [nI_1]
          refine w232_52 ?_
          rw [r_s_u19]
          refine w232_55 rfl ?_
          refine w232_56 rfl ?_
          refine w232_57 ?_
          refine w232_58 ?_
          rw [nI_1]
          refine w232_59 (k := (ih 3 (dp + 1) e (i + 1) lv R2 h2 (by omega) hi2 hl d _ (fun e' j lv' hR => ?_) (fun j i' lv' hR hj => ?_)).2.2.2.1 rfl)
          · rw [hR] at h h2
            have hj := p_go_le h0 f _ _ _ _ _ _ _ _ h2 hi2
            refine w232_62 rfl ?_
            refine w232_63 ?_
            refine w232_65 (k := c188 (y := 193) (by decide) ?_)
            refine w232_68 (k := c234 E hj (fun q => ?_) (fun q => ?_))
            · refine w232_71 ?_
              refine w232_161 ?_
              refine kg e' (j + 1) lv' ?_
              rcases p_must_some h with ⟨a, i2, l2, y1, y2, y3⟩ | ⟨a, i2, l2, y1, y2, y3⟩ | ⟨j2, y1, y2⟩
              · cases y1; exact y3
              · cases y1; exact absurd q y2
              · cases y1
            · refine w232_71 ?_
              refine w232_161 ?_
              refine kb j _ _ ?_ hj
              rcases p_must_some h with ⟨a, i2, l2, y1, y2, y3⟩ | ⟨a, i2, l2, y1, y2, y3⟩ | ⟨j2, y1, y2⟩
              · cases y1; exact absurd y2 q
              · cases y1; exact y3
              · cases y1
          · rw [hR] at h
            refine w232_62 rfl ?_
            refine w232_63 ?_
            refine w232_65 (k := c188 (y := 193) (by decide) ?_)
            refine w232_68 (k := c234d L (dead j i' lv' hj) ?_)
            refine w232_71 ?_
            refine w232_161 ?_
            refine kb j i' lv' ?_ hj
            rcases p_must_some h with ⟨a, i2, l2, y1, y2, y3⟩ | ⟨a, i2, l2, y1, y2, y3⟩ | ⟨j2, y1, y2⟩
            · cases y1
            · cases y1
            · cases y1; exact y2
      · rename_i h191
        exact c232l E hi hl h h191 kg kb
    · split at h
      · rename_i hm0 hm
        subst hm
        refine ⟨fun z => absurd z (by decide), fun _ => ?_, fun z => absurd z (by decide), fun z => absurd z (by decide), fun z => absurd z (by decide)⟩
        show am_wp pr _ 231 0 [(0, .ref 124), (1, .int (nI dp))] [] _ _
        refine w231_0 rfl ?_
        refine w231_1 rfl ?_
        rcases pBind_some h with ⟨e1, i1, l1, h1, h2⟩ | ⟨j1, h1, h2⟩
        · refine w231_2 (k := (ih 0 dp e i lv _ h1 hdp hi hl d _ (fun e' j lv' hR => ?_) (fun j i' lv' hR hj => by cases hR)).1 rfl)
          first | obtain ⟨rfl, rfl, rfl⟩ := s_inl3 hR | obtain rfl := s_inr hR | cases hR
          exact (ih 2 dp e' j lv' R h2 hdp (p_go_le h0 f _ _ _ _ _ _ _ _ h1 hi) ((p_go_len f _ _ _ _ _ _ _ _ h1).2.2.2 hl) d Q kg kb).2.2.1 rfl _ rfl rfl
        · refine w231_2 (k := (ih 0 dp e i lv _ h1 hdp hi hl d _ (fun e' j lv' hR => by cases hR) (fun j i' lv' hR hj => ?_)).1 rfl)
          first | obtain ⟨rfl, rfl, rfl⟩ := s_inl3 hR | obtain rfl := s_inr hR | cases hR
          exact c231x L (dead j i' lv' hj) (kb j i' lv' h2 hj) _ rfl
      · split at h
        · rename_i hm0 hm1 hm
          subst hm
          refine ⟨fun z => absurd z (by decide), fun z => absurd z (by decide), fun _ => ?_, fun z => absurd z (by decide), fun z => absurd z (by decide)⟩
          intro lvv l0 l1
          split at h
          · rename_i op hop
            have hops := p_opt_some hop
            have hi2 : i < N := p_lt h0 (by rcases hops with ⟨q, -⟩ | ⟨q, -⟩ | ⟨q, -⟩ <;> rw [q] <;> decide)
            have k41 : ∀ lvv, am_ld1 lvv 0 = some (.ref 124) → am_ld1 lvv 1 = some (.int (nI dp)) → am_wp pr (d + 3 * (8 - dp) + 5) 231 41 lvv [] (S, r_s I (i + 1) lv (-1), J, P) Q := by
              intro lvv l0 l1
              refine w231_41 l0 ?_
              refine w231_42 l1 ?_
              rcases pBind_some h with ⟨e1, i1, l1', h1, h2⟩ | ⟨j1, h1, h2⟩
              · refine w231_43 (k := (ih 0 dp e (i + 1) lv _ h1 hdp hi2 hl d _ (fun e' j lv' hR => ?_) (fun j i' lv' hR hj => by cases hR)).1 rfl)
                first | obtain ⟨rfl, rfl, rfl⟩ := s_inl3 hR | obtain rfl := s_inr hR | cases hR
                refine w231_46 ?_
                exact (ih 2 dp (x_bin op e e') j lv' R h2 hdp (p_go_le h0 f _ _ _ _ _ _ _ _ h1 hi2) ((p_go_len f _ _ _ _ _ _ _ _ h1).2.2.2 hl) d Q kg kb).2.2.1 rfl _ l0 l1
              · refine w231_43 (k := (ih 0 dp e (i + 1) lv _ h1 hdp hi2 hl d _ (fun e' j lv' hR => by cases hR) (fun j i' lv' hR hj => ?_)).1 rfl)
                first | obtain ⟨rfl, rfl, rfl⟩ := s_inl3 hR | obtain rfl := s_inr hR | cases hR
                refine w231_46 ?_
                exact c231x L (dead j i' lv' hj) (kb j i' lv' h2 hj) _ l0
            refine w231_5 l0 ?_
            refine w231_6 ?_
            refine w231_8 (k := c188 (y := 142) (by decide) ?_)
            refine w231_11 (k := c228 E hi (fun q => ?_) (fun q1 => ?_))
            · exact w231_14 (fun _ => k41 _ l0 l1) (fun w => absurd (by decide) w)
            · refine w231_14 (fun w => absurd rfl w) (fun _ => ?_)
              refine w231_17 l0 ?_
              refine w231_18 ?_
              refine w231_20 (k := c188 (y := 147) (by decide) ?_)
              refine w231_23 (k := c228 E hi (fun q => ?_) (fun q2 => ?_))
              · exact w231_26 (fun _ => k41 _ l0 l1) (fun w => absurd (by decide) w)
              · refine w231_26 (fun w => absurd rfl w) (fun _ => ?_)
                refine w231_29 l0 ?_
                refine w231_30 ?_
                refine w231_32 (k := c188 (y := 137) (by decide) ?_)
                refine w231_35 (k := c228 E hi (fun q => ?_) (fun q3 => ?_))
                · exact w231_38 (fun w => absurd w (by decide)) (fun _ => k41 _ l0 l1)
                · exfalso
                  rcases hops with ⟨q, -⟩ | ⟨q, -⟩ | ⟨q, -⟩
                  · exact q1 q
                  · exact q2 q
                  · exact q3 q
          · rename_i hop
            obtain ⟨q1, q2, q3⟩ := p_opt_none hop
            refine w231_5 l0 ?_
            refine w231_6 ?_
            refine w231_8 (k := c188 (y := 142) (by decide) ?_)
            refine w231_11 (k := c228 E hi (fun q => absurd q q1) (fun _ => ?_))
            refine w231_14 (fun hQ => absurd hQ (fun q => q rfl)) (fun _ => ?_)
            refine w231_17 l0 ?_
            refine w231_18 ?_
            refine w231_20 (k := c188 (y := 147) (by decide) ?_)
            refine w231_23 (k := c228 E hi (fun q => absurd q q2) (fun _ => ?_))
            refine w231_26 (fun hQ => absurd hQ (fun q => q rfl)) (fun _ => ?_)
            refine w231_29 l0 ?_
            refine w231_30 ?_
            refine w231_32 (k := c188 (y := 137) (by decide) ?_)
            refine w231_35 (k := c228 E hi (fun q => absurd q q3) (fun _ => ?_))
            refine w231_38 (fun _ => ?_) (fun hQ => absurd rfl hQ)
            refine w231_49 ?_
            exact kg _ _ _ (Option.some.inj h).symm
        · split at h
          · rename_i hm0 hm1 hm2 hm
            subst hm
            refine ⟨fun z => absurd z (by decide), fun z => absurd z (by decide), fun z => absurd z (by decide), fun _ => ?_, fun z => absurd z (by decide)⟩
            show am_wp pr _ 230 0 [(0, .ref 124), (1, .int (nI dp))] [] _ _
            refine w230_0 rfl ?_
            refine w230_1 rfl ?_
            rcases pBind_some h with ⟨e1, i1, l1, h1, h2⟩ | ⟨j1, h1, h2⟩
            · refine w230_2 (k := (ih 1 dp e i lv _ h1 hdp hi hl d _ (fun e' j lv' hR => ?_) (fun j i' lv' hR hj => by cases hR)).2.1 rfl)
              first | obtain ⟨rfl, rfl, rfl⟩ := s_inl3 hR | obtain rfl := s_inr hR | cases hR
              exact (ih 4 dp e' j lv' R h2 hdp (p_go_le h0 f _ _ _ _ _ _ _ _ h1 hi) ((p_go_len f _ _ _ _ _ _ _ _ h1).2.2.2 hl) d Q kg kb).2.2.2.2 (Nat.le_refl 4) _ rfl rfl
            · refine w230_2 (k := (ih 1 dp e i lv _ h1 hdp hi hl d _ (fun e' j lv' hR => by cases hR) (fun j i' lv' hR hj => ?_)).2.1 rfl)
              first | obtain ⟨rfl, rfl, rfl⟩ := s_inl3 hR | obtain rfl := s_inr hR | cases hR
              exact c230x L (dead j i' lv' hj) (kb j i' lv' h2 hj) _ rfl
          · rename_i hm0 hm1 hm2 hm3
            refine ⟨fun z => absurd z hm0, fun z => absurd z hm1, fun z => absurd z hm2, fun z => absurd z hm3, fun _ => ?_⟩
            intro lvv l0 l1
            split at h
            · rename_i op hop
              have hops := p_ops_some hop
              have hi2 : i < N := p_lt h0 (by rcases hops with ⟨q, -⟩ | ⟨q, -⟩ <;> rw [q] <;> decide)
              have k29 : ∀ lvv, am_ld1 lvv 0 = some (.ref 124) → am_ld1 lvv 1 = some (.int (nI dp)) → am_wp pr (d + 3 * (8 - dp) + 6) 230 29 lvv [] (S, r_s I (i + 1) lv (-1), J, P) Q := by
                intro lvv l0 l1
                refine w230_29 l0 ?_
                refine w230_30 l1 ?_
                rcases pBind_some h with ⟨e1, i1, l1', h1, h2⟩ | ⟨j1, h1, h2⟩
                · refine w230_31 (k := (ih 1 dp e (i + 1) lv _ h1 hdp hi2 hl d _ (fun e' j lv' hR => ?_) (fun j i' lv' hR hj => by cases hR)).2.1 rfl)
                  first | obtain ⟨rfl, rfl, rfl⟩ := s_inl3 hR | obtain rfl := s_inr hR | cases hR
                  refine w230_34 ?_
                  exact (ih 4 dp (x_bin op e e') j lv' R h2 hdp (p_go_le h0 f _ _ _ _ _ _ _ _ h1 hi2) ((p_go_len f _ _ _ _ _ _ _ _ h1).2.2.2 hl) d Q kg kb).2.2.2.2 (Nat.le_refl 4) _ l0 l1
                · refine w230_31 (k := (ih 1 dp e (i + 1) lv _ h1 hdp hi2 hl d _ (fun e' j lv' hR => by cases hR) (fun j i' lv' hR hj => ?_)).2.1 rfl)
                  first | obtain ⟨rfl, rfl, rfl⟩ := s_inl3 hR | obtain rfl := s_inr hR | cases hR
                  refine w230_34 ?_
                  exact c230x L (dead j i' lv' hj) (kb j i' lv' h2 hj) _ l0
              refine w230_5 l0 ?_
              refine w230_6 ?_
              refine w230_8 (k := c188 (y := 143) (by decide) ?_)
              refine w230_11 (k := c228 E hi (fun q => ?_) (fun q1 => ?_))
              · exact w230_14 (fun _ => k29 _ l0 l1) (fun w => absurd (by decide) w)
              · refine w230_14 (fun w => absurd rfl w) (fun _ => ?_)
                refine w230_17 l0 ?_
                refine w230_18 ?_
                refine w230_20 (k := c188 (y := 145) (by decide) ?_)
                refine w230_23 (k := c228 E hi (fun q => ?_) (fun q2 => ?_))
                · exact w230_26 (fun w => absurd w (by decide)) (fun _ => k29 _ l0 l1)
                · exfalso
                  rcases hops with ⟨q, -⟩ | ⟨q, -⟩
                  · exact q1 q
                  · exact q2 q
            · rename_i hop
              obtain ⟨q1, q2⟩ := p_ops_none hop
              refine w230_5 l0 ?_
              refine w230_6 ?_
              refine w230_8 (k := c188 (y := 143) (by decide) ?_)
              refine w230_11 (k := c228 E hi (fun q => absurd q q1) (fun _ => ?_))
              refine w230_14 (fun hQ => absurd hQ (fun q => q rfl)) (fun _ => ?_)
              refine w230_17 l0 ?_
              refine w230_18 ?_
              refine w230_20 (k := c188 (y := 145) (by decide) ?_)
              refine w230_23 (k := c228 E hi (fun q => absurd q q2) (fun _ => ?_))
              refine w230_26 (fun _ => ?_) (fun hQ => absurd rfl hQ)
              refine w230_37 ?_
              exact kg _ _ _ (Option.some.inj h).symm
/-- readSum -/
theorem c230 (E : r_E S I P T N pl) {f dp : Nat} {R : (Ex × Nat × Nat) ⊕ Nat} (h : p_sum T f dp i lv = some R) (hdp : dp ≤ 8) (hi : i ≤ N) (hl : lv ≤ 50) (kg : ∀ e' j lv', R = .inl (e', j, lv') → Q none (S, r_s I j lv' (-1), J, P)) (kb : ∀ j i' lv', R = .inr j → j ≤ N → Q none (S, r_s I i' lv' (nI (pl j)), J, P)) : am_ev pr (d + 3 * (8 - dp) + 6) 230 [.ref 124, .int (nI dp)] (S, r_s I i lv (-1), J, P) Q := (r_go E f 3 dp x_0 i lv R h hdp hi hl d Q kg kb).2.2.2.1 rfl
end
