/-! contracts: which bill beats which -/
theorem am_bit_if {c : Prop} [Decidable c] {k m : Nat} (hk : k < 32) (hm : m < 32) : am_bit (if c then 1 <<< (nI k &&& 31) else 0) m = 1 ↔ c ∧ m = k := by
  split
  · rename_i z
    rw [am_bit_sh1 hk hm]
    exact ⟨fun e => ⟨z, e⟩, fun e => e.2⟩
  · rename_i z
    rw [am_bit_0]
    exact ⟨fun e => absurd e (by decide), fun e => absurd e.1 z⟩
abbrev t_dn (a b x y : Nat) : Prop := y < 5 ∧ ((x < y ∧ (x < a ∨ x = a ∧ y < b)) ∨ (y < x ∧ (y < a ∨ y = a ∧ x < b)))
def t_bt (I I' : Nat → Nat → Int32) (V : Nat → Nat → Int32) (a b : Nat) : Prop := (∀ z, z ≠ 114 → I' z = I z) ∧ ∀ x, x < 5 → ∀ y, y < 32 → (am_bit (I' 114 x) y = 1 ↔ V y x < V x y ∧ t_dn a b x y)
theorem t_bt_step {I I' : Nat → Nat → Int32} {V : Nat → Nat → Int32} {a b : Nat} (hab : a < b) (hb : b < 5) (h : t_bt I I' V a b) {u w : Int32} (hu : u = if V b a < V a b then 1 <<< (nI b &&& 31) else 0) (hw : w = if V a b < V b a then 1 <<< (nI a &&& 31) else 0) : t_bt I (am_u (am_u I' 114 a (I' 114 a ||| u)) 114 b (am_u I' 114 a (I' 114 a ||| u) 114 b ||| w)) V a (b + 1) := by
  obtain ⟨h1, h2⟩ := h
  refine ⟨fun z hz => ?_, fun x hx y hy => ?_⟩
  · rw [am_u_ne hz, am_u_ne hz]
    exact h1 z hz
  · have hne : b ≠ a := by omega
    rw [am_u_at hne]
    by_cases hxb : x = b
    · subst hxb
      rw [am_u_self, am_bit_or (by omega), h2 x hx y hy, hw, am_bit_if (by omega) (by omega)]
      by_cases hya : y = a
      · subst hya
        constructor
        · rintro (⟨_, z⟩ | ⟨z, _⟩)
          · exfalso; omega
          · exact ⟨z, by omega, Or.inr ⟨hab, Or.inr ⟨rfl, by omega⟩⟩⟩
        · rintro ⟨z, _⟩
          exact Or.inr ⟨z, rfl⟩
      · constructor
        · rintro (⟨z, z2⟩ | ⟨_, z⟩)
          · exact ⟨z, by omega⟩
          · exact absurd z hya
        · rintro ⟨z, z2⟩
          exact Or.inl ⟨z, by omega⟩
    · rw [am_u_at hxb]
      by_cases hxa : x = a
      · subst hxa
        rw [am_u_self, am_bit_or (by omega), h2 x hx y hy, hu, am_bit_if (by omega) (by omega)]
        by_cases hya : y = b
        · subst hya
          constructor
          · rintro (⟨_, z⟩ | ⟨z, _⟩)
            · exfalso; omega
            · exact ⟨z, by omega, Or.inl ⟨hab, Or.inr ⟨rfl, by omega⟩⟩⟩
          · rintro ⟨z, _⟩
            exact Or.inr ⟨z, rfl⟩
        · constructor
          · rintro (⟨z, z2⟩ | ⟨_, z⟩)
            · exact ⟨z, by omega⟩
            · exact absurd z hya
          · rintro ⟨z, z2⟩
            exact Or.inl ⟨z, by omega⟩
      · rw [am_u_at hxa, h2 x hx y hy]
        constructor
        · rintro ⟨z, z2⟩
          exact ⟨z, by omega⟩
        · rintro ⟨z, z2⟩
          exact ⟨z, by omega⟩
theorem t_bt_end {I I' : Nat → Nat → Int32} {V : Nat → Nat → Int32} {a b a2 b2 : Nat} (h : t_bt I I' V a b) (e : ∀ x, x < 5 → ∀ y, y < 32 → (t_dn a b x y ↔ t_dn a2 b2 x y)) : t_bt I I' V a2 b2 := by
  refine ⟨h.1, fun x hx y hy => ?_⟩
  rw [h.2 x hx y hy, e x hx y hy]
section
variable {pr : am_Pr} {d : Nat} {S : List (Nat × Nat)} {I : Nat → Nat → Int32} {J : Nat → Nat → Int64} {P : Nat → Nat → Option Nat} {Q : Option Value → am_H → Prop}
/-- fillBeaten -/
theorem c122 (L : am_Lay S P) {n : Nat} (hn : I 109 0 = nI n) (hn7 : n ≤ 7) (k : ∀ I' : Nat → Nat → Int32, (∀ z, z ≠ 114 → I' z = I z) → (∀ x, x < 5 → ∀ y, y < 32 → (am_bit (I' 114 x) y = 1 ↔ y < 5 ∧ x ≠ y ∧ t_va (I 110) (I 111) (I 112) (I 109 1) n y x < t_va (I 110) (I 111) (I 112) (I 109 1) n x y)) → Q none (S, I', J, P)) : am_ev pr (d + 4) 122 [.ref 109] (S, I, J, P) Q := by
  have k2 : ∀ I' : Nat → Nat → Int32, t_bt I I' (t_va (I 110) (I 111) (I 112) (I 109 1) n) 5 6 → Q none (S, I', J, P) := by
    intro I' h
    refine k I' h.1 (fun x hx y hy => ?_)
    rw [h.2 x hx y hy]
    constructor
    · rintro ⟨z, z2⟩
      exact ⟨by omega, by omega, z⟩
    · rintro ⟨z, z2, z3⟩
      exact ⟨z3, by omega⟩
  clear k
  have hV : ∀ I' : Nat → Nat → Int32, (∀ z, z ≠ 114 → I' z = I z) → t_va (I' 110) (I' 111) (I' 112) (I' 109 1) n = t_va (I 110) (I 111) (I 112) (I 109 1) n := by
    intro I' h
    rw [h 110 (by decide), h 111 (by decide), h 112 (by decide), h 109 (by decide)]
  generalize hVe : t_va (I 110) (I 111) (I 112) (I 109 1) n = V at *
  show am_wp pr (d + 4) 122 0 [(0, .ref 109)] [] _ _
  refine w122_0 ?_
  refine w122_1 ?_
  refine am_for (fun b => ∀ I' : Nat → Nat → Int32, (∀ a, a ≠ 114 → I' a = I a) → (∀ i, i < b → I' 114 i = 0) → ∀ lv, am_ld1 lv 0 = some (.ref 109) → am_ld1 lv 1 = some (.int (nI b)) → am_wp pr (d + 4) 122 2 lv [] (S, I', J, P) Q) 5 ?_ ?_ I (fun _ _ => rfl) (fun j hj => absurd hj (Nat.not_lt_zero j)) _ rfl rfl
  · intro b hb ih I' h1 h2 lv l0 l1
    have h3 : ∀ a, a ≠ 114 → am_u I' 114 b 0 a = I a := fun a ha => (am_u_ne ha).trans (h1 a ha)
    have h4 : ∀ j, j < b + 1 → am_u I' 114 b 0 114 j = 0 := by
      intro j hj
      by_cases hjb : j = b
      · subst hjb
        exact am_u_self
      · rw [am_u_at hjb]
        exact h2 j (by omega)
    refine w122_2 l1 ?_
    refine w122_3 ?_
    refine w122_4 (fun h => absurd h (am_nlt hb (by decide))) (fun _ => ?_)
    refine w122_7 l0 ?_
    refine w122_8 (L.2 _ _ _ rfl) ?_
    refine w122_11 l1 ?_
    refine w122_12 ?_
    refine w122_13 (by first | with_reducible assumption | exact L.sh rfl | exact hh.sh rfl | exact hp.2.2) (by first | with_reducible assumption | with_reducible exact am_in_nI (by omega) (by decide) | with_reducible exact am_inb (by omega) (by omega) | with_reducible exact am_inb' (by omega) (by omega) | with_reducible exact am_in35 (by omega) | with_reducible exact am_inw (by omega) (by omega) | with_reducible decide) ?_
    try simp (disch := omega) only [am_clb, am_clb', am_cl35, am_clw, am_clN]
    refine w122_14 l1 ?_
    refine w122_17 ?_
    exact ih _ h3 h4 _ l0 (am_nx b)
  · intro I0 h1 h2 lv l0 l1
    have hI0 : t_bt I I0 V 0 1 := by
      refine ⟨h1, fun x hx y hy => ?_⟩
      rw [h2 x hx, am_bit_0]
      exact ⟨fun z => absurd z (by decide), fun z => by omega⟩
    refine w122_2 l1 ?_
    refine w122_3 ?_
    refine w122_4 (fun _ => ?_) (fun h => absurd (Int32.le_refl _) h)
    refine w122_20 ?_
    refine w122_21 ?_
    refine am_for (fun a => ∀ I' : Nat → Nat → Int32, t_bt I I' V a (a + 1) → ∀ lv, am_ld1 lv 0 = some (.ref 109) → am_ld1 lv 1 = some (.int (nI a)) → am_wp pr (d + 4) 122 22 lv [] (S, I', J, P) Q) 5 ?_ ?_ I0 hI0 _ l0 rfl
    · clear l0 l1 lv hI0 h1 h2
      intro a ha ih I1 hI1 lv l0 l1
      refine w122_22 l1 ?_
      refine w122_23 ?_
      refine w122_24 (fun h => absurd h (am_nlt ha (by decide))) (fun _ => ?_)
      refine w122_27 l1 ?_
      refine w122_28 ?_
      refine w122_29 ?_
      refine w122_30 ?_
      refine am_for (fun j => ∀ I' : Nat → Nat → Int32, t_bt I I' V a (a + 1 + j) → ∀ lv, am_ld1 lv 0 = some (.ref 109) → am_ld1 lv 1 = some (.int (nI a)) → am_ld1 lv 2 = some (.int (nI (a + 1 + j))) → am_wp pr (d + 4) 122 31 lv [] (S, I', J, P) Q) (4 - a) ?_ ?_ I1 hI1 _ l0 l1 (am_nx a)
      · clear l0 l1 lv hI1
        intro j hj ih2 I' hI' lv l0 l1 l2
        have hb : a + 1 + j < 5 := by omega
        have hab : a < a + 1 + j := by omega
        have hn' : I' 109 0 = nI n := by rw [hI'.1 109 (by decide)]; exact hn
        have hs := @t_bt_step I I' V a (a + 1 + j) hab hb hI'
        rw [show a + 1 + (j + 1) = a + 1 + j + 1 from rfl] at ih2
        generalize a + 1 + j = b at *
        refine w122_31 l2 ?_
        refine w122_32 ?_
        refine w122_33 (fun h => absurd h (am_nlt hb (by decide))) (fun _ => ?_)
        refine w122_36 l0 ?_
        refine w122_37 l1 ?_
        refine w122_38 l2 ?_
        refine w122_39 (k := c119 L hn' hn7 ha hb ?_)
        rw [hV I' hI'.1]
        refine w122_42 ?_
        refine w122_43 l0 ?_
        refine w122_44 l2 ?_
        refine w122_45 l1 ?_
        refine w122_46 (k := c119 L hn' hn7 hb ha ?_)
        rw [hV I' hI'.1]
        refine w122_49 ?_
        refine w122_51 l0 ?_
        refine w122_52 (L.2 _ _ _ rfl) ?_
        refine w122_55 l1 ?_
        refine w122_56 ⟨rfl, rfl⟩ ?_
        refine w122_57 (by first | with_reducible assumption | exact L.sh rfl | exact hh.sh rfl | exact hp.2.2) (by first | with_reducible assumption | with_reducible exact am_in_nI (by omega) (by decide) | with_reducible exact am_inb (by omega) (by omega) | with_reducible exact am_inb' (by omega) (by omega) | with_reducible exact am_in35 (by omega) | with_reducible exact am_inw (by omega) (by omega) | with_reducible decide) ?_
        try simp (disch := omega) only [am_clb, am_clb', am_cl35, am_clw, am_clN]
        refine w122_58 rfl ?_
        refine w122_59 rfl ?_
        refine w122_61 (fun h61 => ?_) (fun h61 => ?_)
        · refine w122_70 ?_
          refine w122_71 ?_
          refine w122_72 (by first | with_reducible assumption | exact L.sh rfl | exact hh.sh rfl | exact hp.2.2) (by first | with_reducible assumption | with_reducible exact am_in_nI (by omega) (by decide) | with_reducible exact am_inb (by omega) (by omega) | with_reducible exact am_inb' (by omega) (by omega) | with_reducible exact am_in35 (by omega) | with_reducible exact am_inw (by omega) (by omega) | with_reducible decide) ?_
          try simp (disch := omega) only [am_clb, am_clb', am_cl35, am_clw, am_clN]
          refine w122_73 l0 ?_
          refine w122_74 (L.2 _ _ _ rfl) ?_
          refine w122_77 l2 ?_
          refine w122_78 ⟨rfl, rfl⟩ ?_
          refine w122_79 (by first | with_reducible assumption | exact L.sh rfl | exact hh.sh rfl | exact hp.2.2) (by first | with_reducible assumption | with_reducible exact am_in_nI (by omega) (by decide) | with_reducible exact am_inb (by omega) (by omega) | with_reducible exact am_inb' (by omega) (by omega) | with_reducible exact am_in35 (by omega) | with_reducible exact am_inw (by omega) (by omega) | with_reducible decide) ?_
          try simp (disch := omega) only [am_clb, am_clb', am_cl35, am_clw, am_clN]
          refine w122_80 rfl ?_
          refine w122_82 rfl ?_
          refine w122_83 (fun h83 => ?_) (fun h83 => ?_)
          · refine w122_92 ?_
            refine w122_93 ?_
            refine w122_94 (by first | with_reducible assumption | exact L.sh rfl | exact hh.sh rfl | exact hp.2.2) (by first | with_reducible assumption | with_reducible exact am_in_nI (by omega) (by decide) | with_reducible exact am_inb (by omega) (by omega) | with_reducible exact am_inb' (by omega) (by omega) | with_reducible exact am_in35 (by omega) | with_reducible exact am_inw (by omega) (by omega) | with_reducible decide) ?_
            try simp (disch := omega) only [am_clb, am_clb', am_cl35, am_clw, am_clN]
            refine w122_95 l2 ?_
            refine w122_98 ?_
            first | exact ih2 _ (hs (if_pos h61).symm (if_pos h83).symm) _ l0 l1 (am_nx b) | exact ih2 _ (hs (if_pos h61).symm (if_neg (Int32.not_lt.mpr h83)).symm) _ l0 l1 (am_nx b) | exact ih2 _ (hs (if_neg (Int32.not_lt.mpr h61)).symm (if_pos h83).symm) _ l0 l1 (am_nx b) | exact ih2 _ (hs (if_neg (Int32.not_lt.mpr h61)).symm (if_neg (Int32.not_lt.mpr h83)).symm) _ l0 l1 (am_nx b)
          · replace h83 := Int32.not_le.mp h83
            refine w122_86 ?_
            refine w122_87 l1 ?_
            refine w122_88 ?_
            refine w122_89 ?_
            refine w122_93 ?_
            refine w122_94 (by first | with_reducible assumption | exact L.sh rfl | exact hh.sh rfl | exact hp.2.2) (by first | with_reducible assumption | with_reducible exact am_in_nI (by omega) (by decide) | with_reducible exact am_inb (by omega) (by omega) | with_reducible exact am_inb' (by omega) (by omega) | with_reducible exact am_in35 (by omega) | with_reducible exact am_inw (by omega) (by omega) | with_reducible decide) ?_
            try simp (disch := omega) only [am_clb, am_clb', am_cl35, am_clw, am_clN]
            refine w122_95 l2 ?_
            refine w122_98 ?_
            first | exact ih2 _ (hs (if_pos h61).symm (if_pos h83).symm) _ l0 l1 (am_nx b) | exact ih2 _ (hs (if_pos h61).symm (if_neg (Int32.not_lt.mpr h83)).symm) _ l0 l1 (am_nx b) | exact ih2 _ (hs (if_neg (Int32.not_lt.mpr h61)).symm (if_pos h83).symm) _ l0 l1 (am_nx b) | exact ih2 _ (hs (if_neg (Int32.not_lt.mpr h61)).symm (if_neg (Int32.not_lt.mpr h83)).symm) _ l0 l1 (am_nx b)
        · replace h61 := Int32.not_le.mp h61
          refine w122_64 ?_
          refine w122_65 l2 ?_
          refine w122_66 ?_
          refine w122_67 ?_
          refine w122_71 ?_
          refine w122_72 (by first | with_reducible assumption | exact L.sh rfl | exact hh.sh rfl | exact hp.2.2) (by first | with_reducible assumption | with_reducible exact am_in_nI (by omega) (by decide) | with_reducible exact am_inb (by omega) (by omega) | with_reducible exact am_inb' (by omega) (by omega) | with_reducible exact am_in35 (by omega) | with_reducible exact am_inw (by omega) (by omega) | with_reducible decide) ?_
          try simp (disch := omega) only [am_clb, am_clb', am_cl35, am_clw, am_clN]
          refine w122_73 l0 ?_
          refine w122_74 (L.2 _ _ _ rfl) ?_
          refine w122_77 l2 ?_
          refine w122_78 ⟨rfl, rfl⟩ ?_
          refine w122_79 (by first | with_reducible assumption | exact L.sh rfl | exact hh.sh rfl | exact hp.2.2) (by first | with_reducible assumption | with_reducible exact am_in_nI (by omega) (by decide) | with_reducible exact am_inb (by omega) (by omega) | with_reducible exact am_inb' (by omega) (by omega) | with_reducible exact am_in35 (by omega) | with_reducible exact am_inw (by omega) (by omega) | with_reducible decide) ?_
          try simp (disch := omega) only [am_clb, am_clb', am_cl35, am_clw, am_clN]
          refine w122_80 rfl ?_
          refine w122_82 rfl ?_
          refine w122_83 (fun h83 => ?_) (fun h83 => ?_)
          · refine w122_92 ?_
            refine w122_93 ?_
            refine w122_94 (by first | with_reducible assumption | exact L.sh rfl | exact hh.sh rfl | exact hp.2.2) (by first | with_reducible assumption | with_reducible exact am_in_nI (by omega) (by decide) | with_reducible exact am_inb (by omega) (by omega) | with_reducible exact am_inb' (by omega) (by omega) | with_reducible exact am_in35 (by omega) | with_reducible exact am_inw (by omega) (by omega) | with_reducible decide) ?_
            try simp (disch := omega) only [am_clb, am_clb', am_cl35, am_clw, am_clN]
            refine w122_95 l2 ?_
            refine w122_98 ?_
            first | exact ih2 _ (hs (if_pos h61).symm (if_pos h83).symm) _ l0 l1 (am_nx b) | exact ih2 _ (hs (if_pos h61).symm (if_neg (Int32.not_lt.mpr h83)).symm) _ l0 l1 (am_nx b) | exact ih2 _ (hs (if_neg (Int32.not_lt.mpr h61)).symm (if_pos h83).symm) _ l0 l1 (am_nx b) | exact ih2 _ (hs (if_neg (Int32.not_lt.mpr h61)).symm (if_neg (Int32.not_lt.mpr h83)).symm) _ l0 l1 (am_nx b)
          · replace h83 := Int32.not_le.mp h83
            refine w122_86 ?_
            refine w122_87 l1 ?_
            refine w122_88 ?_
            refine w122_89 ?_
            refine w122_93 ?_
            refine w122_94 (by first | with_reducible assumption | exact L.sh rfl | exact hh.sh rfl | exact hp.2.2) (by first | with_reducible assumption | with_reducible exact am_in_nI (by omega) (by decide) | with_reducible exact am_inb (by omega) (by omega) | with_reducible exact am_inb' (by omega) (by omega) | with_reducible exact am_in35 (by omega) | with_reducible exact am_inw (by omega) (by omega) | with_reducible decide) ?_
            try simp (disch := omega) only [am_clb, am_clb', am_cl35, am_clw, am_clN]
            refine w122_95 l2 ?_
            refine w122_98 ?_
            first | exact ih2 _ (hs (if_pos h61).symm (if_pos h83).symm) _ l0 l1 (am_nx b) | exact ih2 _ (hs (if_pos h61).symm (if_neg (Int32.not_lt.mpr h83)).symm) _ l0 l1 (am_nx b) | exact ih2 _ (hs (if_neg (Int32.not_lt.mpr h61)).symm (if_pos h83).symm) _ l0 l1 (am_nx b) | exact ih2 _ (hs (if_neg (Int32.not_lt.mpr h61)).symm (if_neg (Int32.not_lt.mpr h83)).symm) _ l0 l1 (am_nx b)
      · clear l0 l1 lv hI1
        intro I' hI' lv l0 l1 l2
        rw [show a + 1 + (4 - a) = 5 by omega] at hI' l2
        have hI2 : t_bt I I' V (a + 1) (a + 1 + 1) := t_bt_end hI' (fun x hx y hy => by omega)
        refine w122_31 l2 ?_
        refine w122_32 ?_
        refine w122_33 (fun _ => ?_) (fun h => absurd (Int32.le_refl _) h)
        refine w122_101 l1 ?_
        refine w122_104 ?_
        exact ih I' hI2 _ l0 (am_nx a)
    · clear l0 l1 lv hI0 h1 h2
      intro I' hI' lv l0 l1
      refine w122_22 l1 ?_
      refine w122_23 ?_
      refine w122_24 (fun _ => ?_) (fun h => absurd (Int32.le_refl _) h)
      refine w122_107 ?_
      exact k2 I' hI'
end
