/-! contracts: the class's rows, further -/
theorem am_nsubE {a b : Nat} (h : b ≤ a) : Int32.ofNat a - nI b = nI (a - b) := am_nsub h
theorem am_b_and (p q : Prop) [Decidable p] [Decidable q] : am_b p &&& am_b q = am_b (p ∧ q) := by
  by_cases h1 : p <;> by_cases h2 : q <;> simp [am_b, h1, h2]
theorem am_b_iff {p q : Prop} [Decidable p] [Decidable q] (h : p ↔ q) : am_b p = am_b q := by
  by_cases h1 : p
  · rw [am_b_t h1, am_b_t (h.mp h1)]
  · rw [am_b_f h1, am_b_f (fun z => h1 (h.mpr z))]
theorem am_all_succ {s : Nat} {F : Nat → Prop} : (∀ i, i < s + 1 → F i) ↔ ((∀ i, i < s → F i) ∧ F s) := by
  constructor
  · intro h
    exact ⟨fun i hi => h i (by omega), h s (by omega)⟩
  · intro h i hi
    by_cases z : i = s
    · rw [z]; exact h.2
    · exact h.1 i (by omega)
/-- those of n who are so -/
def t_su (F : Nat → Prop) [DecidablePred F] (n : Nat) : Int32 := am_it (fun m acc => acc ||| (if F m then 1 <<< (nI m &&& 31) else 0)) n 0
/-- how many of a set prefer, of n -/
def t_ct (F : Nat → Prop) [DecidablePred F] (set : Int32) (n : Nat) : Int32 := am_it (fun m acc => acc + (if am_bit set m = 1 ∧ F m then 1 else 0)) n 0
section
variable {pr : am_Pr} {d : Nat} {S : List (Nat × Nat)} {I : Nat → Nat → Int32} {J : Nat → Nat → Int64} {P : Nat → Nat → Option Nat} {Q : Option Value → am_H → Prop}
/-- fillWithout -/
theorem c143 (L : am_Lay S P) {m : Nat} (hm : m < 7) (k : ∀ I' : Nat → Nat → Int32, (∀ a, a ≠ 116 → a ≠ 117 → I' a = I a) → (∀ b, b < 5 → I' 116 b = t_pt (I 110) (I 111) (I 113 b) b (nI m) ∧ I' 117 b = if am_bit (I 113 b) m = 1 then I 110 (m * 5 + b) else 0) → Q none (S, I', J, P)) : am_ev pr (d + 4) 143 [.ref 109, .int (nI m)] (S, I, J, P) Q := by
  show am_wp pr (d + 4) 143 0 [(0, .ref 109), (1, .int (nI m))] [] _ _
  refine w143_0 ?_
  refine w143_1 ?_
  refine am_for (fun b => ∀ I' : Nat → Nat → Int32, (∀ a, a ≠ 116 → a ≠ 117 → I' a = I a) → (∀ i, i < b → I' 116 i = t_pt (I 110) (I 111) (I 113 i) i (nI m) ∧ I' 117 i = if am_bit (I 113 i) m = 1 then I 110 (m * 5 + i) else 0) → ∀ lv, am_ld1 lv 0 = some (.ref 109) → am_ld1 lv 1 = some (.int (nI m)) → am_ld1 lv 2 = some (.int (nI b)) → am_wp pr (d + 4) 143 2 lv [] (S, I', J, P) Q) 5 ?_ ?_ I (fun _ _ _ => rfl) (fun j hj => absurd hj (Nat.not_lt_zero j)) _ rfl rfl rfl
  · intro b hb ih I' h1 h2 lv l0 l1 l2
    have e110 := h1 110 (by decide) (by decide)
    have e111 := h1 111 (by decide) (by decide)
    have e113 := h1 113 (by decide) (by decide)
    have key : ∀ x : Int32, (x = if am_bit (I 113 b) m = 1 then I 110 (m * 5 + b) else 0) → ∀ lv, am_ld1 lv 0 = some (.ref 109) → am_ld1 lv 1 = some (.int (nI m)) → am_ld1 lv 2 = some (.int (nI (b + 1))) → am_wp pr (d + 4) 143 2 lv [] (S, am_u (am_u I' 116 b (t_pt (I 110) (I 111) (I 113 b) b (nI m))) 117 b x, J, P) Q := by
      intro x hx
      refine ih _ (fun a ha hb => ?_) (fun j hj => ?_)
      · rw [am_u_ne hb, am_u_ne ha]
        exact h1 a ha hb
      · by_cases hjb : j = b
        · subst hjb
          rw [am_u_self, am_u_ne (by decide), am_u_self]
          exact ⟨rfl, hx⟩
        · rw [am_u_at hjb, am_u_ne (by decide), am_u_at hjb, am_u_ne (by decide)]
          exact h2 j (by omega)
    refine w143_2 l2 ?_
    refine w143_3 ?_
    refine w143_4 (fun h => absurd h (am_nlt hb (by decide))) (fun _ => ?_)
    refine w143_7 l0 ?_
    refine w143_8 (L.2 _ _ _ rfl) ?_
    refine w143_11 l2 ?_
    refine w143_12 l0 ?_
    refine w143_13 l2 ?_
    refine w143_14 l1 ?_
    refine w143_15 (k := c36 L hb ?_)
    rw [e110, e111, e113]
    refine w143_18 (by first | with_reducible assumption | exact L.sh rfl | exact hh.sh rfl | exact hp.2.2) (by first | with_reducible assumption | with_reducible exact am_in_nI (by omega) (by decide) | with_reducible exact am_inb (by omega) (by omega) | with_reducible exact am_inb' (by omega) (by omega) | with_reducible exact am_in35 (by omega) | with_reducible exact am_inw (by omega) (by omega) | with_reducible decide) ?_
    try simp (disch := omega) only [am_clb, am_clb', am_cl35, am_clw, am_clN]
    refine w143_19 l0 ?_
    refine w143_20 (L.2 _ _ _ rfl) ?_
    refine w143_23 l2 ?_
    refine w143_24 l1 ?_
    refine w143_25 (k := c39b hm ?_)
    refine w143_28 (fun h => absurd h am_n01) (fun _ => ?_)
    refine w143_31 l0 ?_
    refine w143_32 (L.2 _ _ _ rfl) ?_
    refine w143_35 l2 ?_
    refine w143_36 (L.sh rfl) (am_inB hb) ?_
    rw [am_clB hb, am_u_ne (by decide), e113]
    refine w143_37 l1 ?_
    refine w143_38 (k := c17b ?_)
    refine w143_41 ?_
    refine w143_42 (fun h42 => ?_) (fun h42 => ?_)
    · refine w143_58 ?_
      refine w143_59 (by first | with_reducible assumption | exact L.sh rfl | exact hh.sh rfl | exact hp.2.2) (by first | with_reducible assumption | with_reducible exact am_in_nI (by omega) (by decide) | with_reducible exact am_inb (by omega) (by omega) | with_reducible exact am_inb' (by omega) (by omega) | with_reducible exact am_in35 (by omega) | with_reducible exact am_inw (by omega) (by omega) | with_reducible decide) ?_
      try simp (disch := omega) only [am_clb, am_clb', am_cl35, am_clw, am_clN]
      refine w143_60 l2 ?_
      refine w143_63 ?_
      first | exact key _ (if_pos h42).symm _ l0 l1 (am_nx b) | exact key _ (if_neg h42).symm _ l0 l1 (am_nx b)
    · replace h42 := Decidable.not_not.mp h42
      refine w143_45 l0 ?_
      refine w143_46 (L.2 _ _ _ rfl) ?_
      refine w143_49 l1 ?_
      refine w143_50 ?_
      refine w143_51 ?_
      refine w143_52 l2 ?_
      refine w143_53 ?_
      refine w143_54 (L.sh rfl) (am_inb hm hb) ?_
      rw [am_clb hm hb, am_u_ne (by decide), e110]
      refine w143_55 ?_
      refine w143_59 (by first | with_reducible assumption | exact L.sh rfl | exact hh.sh rfl | exact hp.2.2) (by first | with_reducible assumption | with_reducible exact am_in_nI (by omega) (by decide) | with_reducible exact am_inb (by omega) (by omega) | with_reducible exact am_inb' (by omega) (by omega) | with_reducible exact am_in35 (by omega) | with_reducible exact am_inw (by omega) (by omega) | with_reducible decide) ?_
      try simp (disch := omega) only [am_clb, am_clb', am_cl35, am_clw, am_clN]
      refine w143_60 l2 ?_
      refine w143_63 ?_
      first | exact key _ (if_pos h42).symm _ l0 l1 (am_nx b) | exact key _ (if_neg h42).symm _ l0 l1 (am_nx b)
  · intro I' h1 h2 lv l0 l1 l2
    refine w143_2 l2 ?_
    refine w143_3 ?_
    refine w143_4 (fun _ => ?_) (fun h => absurd (Int32.le_refl _) h)
    refine w143_66 ?_
    exact k _ h1 h2
/-- leaderIfTold -/
theorem c144 (L : am_Lay S P) {o : Nat} (hs : am_sh S o (20, 5)) (ho : o ≠ 115) {p : Nat → Nat} (hp5 : ∀ i, i < 5 → p i < 5) (hpi : ∀ i, i < 5 → ∀ j, j < 5 → p i = p j → i = j) (hv : ∀ i, i < 5 → I o i = nI (p i)) (k : ∀ I' : Nat → Nat → Int32, (∀ a, a ≠ 115 → I' a = I a) → (∀ i, i < 5 → I' 115 (p i) = I 116 (p i) + nI (4 - i) * I 117 (p i)) → Q (some (.int (t_mo (I' 115)).2)) (S, I', J, P)) : am_ev pr (d + 1) 144 [.ref 109, .ref o] (S, I, J, P) Q := by
  show am_wp pr (d + 1) 144 0 [(0, .ref 109), (1, .ref o)] [] _ _
  refine w144_0 ?_
  refine w144_1 ?_
  refine am_for (fun b => ∀ I' : Nat → Nat → Int32, (∀ a, a ≠ 115 → I' a = I a) → (∀ i, i < b → I' 115 (p i) = I 116 (p i) + nI (4 - i) * I 117 (p i)) → ∀ lv, am_ld1 lv 0 = some (.ref 109) → am_ld1 lv 1 = some (.ref o) → am_ld1 lv 2 = some (.int (nI b)) → am_wp pr (d + 1) 144 2 lv [] (S, I', J, P) Q) 5 ?_ ?_ I (fun _ _ => rfl) (fun j hj => absurd hj (Nat.not_lt_zero j)) _ rfl rfl rfl
  · intro b hb ih I' h1 h2 lv l0 l1 l2
    have e1 : I' o b = nI (p b) := by rw [h1 o ho]; exact hv b hb
    have e116 := h1 116 (by decide)
    have e117 := h1 117 (by decide)
    have h5 := hp5 b hb
    have h3 : ∀ x : Int32, ∀ a, a ≠ 115 → am_u I' 115 (p b) x a = I a := fun x a ha => (am_u_ne ha).trans (h1 a ha)
    have h4 : ∀ j, j < b + 1 → am_u I' 115 (p b) (I 116 (p b) + nI (4 - b) * I 117 (p b)) 115 (p j) = I 116 (p j) + nI (4 - j) * I 117 (p j) := by
      intro j hj
      by_cases hjb : j = b
      · subst hjb
        exact am_u_self
      · rw [am_u_at (fun z => hjb (hpi j (by omega) b hb z))]
        exact h2 j (by omega)
    refine w144_2 l2 ?_
    refine w144_3 l1 ?_
    refine w144_4 hs (by decide) ?_
    refine w144_5 (fun h => absurd h (am_nlt (n := 5) hb (by decide))) (fun _ => ?_)
    refine w144_8 l1 ?_
    refine w144_9 l2 ?_
    refine w144_10 hs (am_in_nI hb (by decide)) ?_
    rw [am_clN (by omega), e1]
    refine w144_11 ?_
    refine w144_12 rfl ?_
    refine w144_13 (k := c18b h5 ?_)
    refine w144_16 (fun h => absurd h am_n01) (fun _ => ?_)
    refine w144_19 l0 ?_
    refine w144_20 (L.2 _ _ _ rfl) ?_
    refine w144_23 rfl ?_
    refine w144_24 l0 ?_
    refine w144_25 (L.2 _ _ _ rfl) ?_
    refine w144_28 rfl ?_
    refine w144_29 (L.sh rfl) (am_inB h5) ?_
    rw [am_clB h5, e116]
    refine w144_30 ?_
    refine w144_31 l2 ?_
    refine w144_32 ?_
    rw [show (4 : Int32) - nI b = nI (4 - b) from am_nsub (a := 4) (by omega)]
    refine w144_33 l0 ?_
    refine w144_34 (L.2 _ _ _ rfl) ?_
    refine w144_37 rfl ?_
    refine w144_38 (L.sh rfl) (am_inB h5) ?_
    rw [am_clB h5, e117]
    refine w144_39 ?_
    refine w144_40 ?_
    refine w144_41 (L.sh rfl) (am_inB h5) ?_
    rw [am_clB h5]
    refine w144_42 l2 ?_
    refine w144_45 ?_
    exact ih _ (h3 _) h4 _ l0 l1 (am_nx b)
  · intro I' h1 h2 lv l0 l1 l2
    refine w144_2 l2 ?_
    refine w144_3 l1 ?_
    refine w144_4 hs (by decide) ?_
    refine w144_5 (fun _ => ?_) (fun h => absurd (Int32.le_refl _) h)
    refine w144_48 l0 ?_
    refine w144_49 (L.2 _ _ _ rfl) ?_
    refine w144_52 (k := c141 (L.sh rfl) ?_)
    refine w144_55 ?_
    exact k _ h1 h2
/-- mostAlike -/
theorem c150 (L : am_Lay S P) {s a b : Nat} (hs : s < 128) (ha : a < 5) (hb : b < 5) (k : ∀ x y z : Int32, x = t_ct (fun m => t_pf (I 111) (I 112) m a b) (nI s) 7 → y = t_ct (fun m => t_pf (I 111) (I 112) m b a) (nI s) 7 → z = t_on (nI s) - x - y → Q (some (.int (if z < (if x < y then y else x) then (if x < y then y else x) else z))) (S, I, J, P)) : am_ev pr (d + 3) 150 [.ref 109, .int (nI s), .int (nI a), .int (nI b)] (S, I, J, P) Q := by
  show am_wp pr (d + 3) 150 0 [(0, .ref 109), (1, .int (nI s)), (2, .int (nI a)), (3, .int (nI b))] [] _ _
  refine w150_0 ?_
  refine w150_1 ?_
  refine w150_3 ?_
  refine w150_4 ?_
  refine w150_6 ?_
  refine w150_7 ?_
  refine am_for (fun m => ∀ lv, am_ld1 lv 0 = some (.ref 109) → am_ld1 lv 1 = some (.int (nI s)) → am_ld1 lv 2 = some (.int (nI a)) → am_ld1 lv 3 = some (.int (nI b)) → am_ld1 lv 4 = some (.int (t_ct (fun m => t_pf (I 111) (I 112) m a b) (nI s) m)) → am_ld1 lv 5 = some (.int (t_ct (fun m => t_pf (I 111) (I 112) m b a) (nI s) m)) → am_ld1 lv 6 = some (.int (nI m)) → am_wp pr (d + 3) 150 9 lv [] (S, I, J, P) Q) 7 ?_ ?_ _ rfl rfl rfl rfl rfl rfl rfl
  · intro m hm ih lv l0 l1 l2 l3 l4 l5 l6
    unfold t_ct at ih
    unfold am_it at ih
    change ∀ lv, am_ld1 lv 0 = some (.ref 109) → am_ld1 lv 1 = some (.int (nI s)) → am_ld1 lv 2 = some (.int (nI a)) → am_ld1 lv 3 = some (.int (nI b)) → am_ld1 lv 4 = some (.int (t_ct (fun m => t_pf (I 111) (I 112) m a b) (nI s) m + (if am_bit (nI s) m = 1 ∧ t_pf (I 111) (I 112) m a b then 1 else 0))) → am_ld1 lv 5 = some (.int (t_ct (fun m => t_pf (I 111) (I 112) m b a) (nI s) m + (if am_bit (nI s) m = 1 ∧ t_pf (I 111) (I 112) m b a then 1 else 0))) → _ at ih
    generalize t_ct (fun m => t_pf (I 111) (I 112) m a b) (nI s) m = x at *
    generalize t_ct (fun m => t_pf (I 111) (I 112) m b a) (nI s) m = y at *
    refine w150_9 l6 ?_
    refine w150_11 ?_
    refine w150_13 (fun h => absurd h (am_nlt hm (by decide))) (fun _ => ?_)
    refine w150_16 l1 ?_
    refine w150_17 l6 ?_
    refine w150_19 (k := c17b ?_)
    refine w150_22 ?_
    refine w150_23 (fun h23 => ?_) (fun h23 => ?_)
    · refine w150_68 l6 ?_
      refine w150_71 ?_
      first | (rw [if_neg (fun z => h23 z.1), if_neg (fun z => h23 z.1), Int32.add_zero, Int32.add_zero] at ih; exact ih _ l0 l1 l2 l3 l4 l5 (am_nx m)) | (rw [if_pos ⟨h23, am_b_1 h36⟩, if_pos ⟨h23, am_b_1 h57⟩] at ih; exact ih _ l0 l1 l2 l3 l4 l5 (am_nx m)) | (rw [if_pos ⟨h23, am_b_1 h36⟩, if_neg (fun z => (am_b_0 _).mp h57 z.2)] at ih; exact ih _ l0 l1 l2 l3 l4 l5 (am_nx m)) | (rw [if_neg (fun z => (am_b_0 _).mp h36 z.2), if_pos ⟨h23, am_b_1 h57⟩] at ih; exact ih _ l0 l1 l2 l3 l4 l5 (am_nx m)) | (rw [if_neg (fun z => (am_b_0 _).mp h36 z.2), if_neg (fun z => (am_b_0 _).mp h57 z.2)] at ih; exact ih _ l0 l1 l2 l3 l4 l5 (am_nx m))
    · replace h23 := Decidable.not_not.mp h23
      refine w150_26 l4 ?_
      refine w150_28 l0 ?_
      refine w150_29 l6 ?_
      refine w150_31 l2 ?_
      refine w150_32 l3 ?_
      refine w150_33 (k := c120 L hm ha hb ?_)
      refine w150_36 (fun h36 => ?_) (fun h36 => ?_)
      · refine w150_43 ?_
        refine w150_44 ?_
        refine w150_45 ?_
        refine w150_47 l5 ?_
        refine w150_49 l0 ?_
        refine w150_50 l6 ?_
        refine w150_52 l3 ?_
        refine w150_53 l2 ?_
        refine w150_54 (k := c120 L hm hb ha ?_)
        refine w150_57 (fun h57 => ?_) (fun h57 => ?_)
        · refine w150_64 ?_
          refine w150_65 ?_
          refine w150_66 ?_
          refine w150_68 l6 ?_
          refine w150_71 ?_
          first | (rw [if_neg (fun z => h23 z.1), if_neg (fun z => h23 z.1), Int32.add_zero, Int32.add_zero] at ih; exact ih _ l0 l1 l2 l3 rfl rfl (am_nx m)) | (rw [if_pos ⟨h23, am_b_1 h36⟩, if_pos ⟨h23, am_b_1 h57⟩] at ih; exact ih _ l0 l1 l2 l3 rfl rfl (am_nx m)) | (rw [if_pos ⟨h23, am_b_1 h36⟩, if_neg (fun z => (am_b_0 _).mp h57 z.2)] at ih; exact ih _ l0 l1 l2 l3 rfl rfl (am_nx m)) | (rw [if_neg (fun z => (am_b_0 _).mp h36 z.2), if_pos ⟨h23, am_b_1 h57⟩] at ih; exact ih _ l0 l1 l2 l3 rfl rfl (am_nx m)) | (rw [if_neg (fun z => (am_b_0 _).mp h36 z.2), if_neg (fun z => (am_b_0 _).mp h57 z.2)] at ih; exact ih _ l0 l1 l2 l3 rfl rfl (am_nx m))
        · refine w150_60 ?_
          refine w150_61 ?_
          refine w150_65 ?_
          refine w150_66 ?_
          refine w150_68 l6 ?_
          refine w150_71 ?_
          first | (rw [if_neg (fun z => h23 z.1), if_neg (fun z => h23 z.1), Int32.add_zero, Int32.add_zero] at ih; exact ih _ l0 l1 l2 l3 rfl rfl (am_nx m)) | (rw [if_pos ⟨h23, am_b_1 h36⟩, if_pos ⟨h23, am_b_1 h57⟩] at ih; exact ih _ l0 l1 l2 l3 rfl rfl (am_nx m)) | (rw [if_pos ⟨h23, am_b_1 h36⟩, if_neg (fun z => (am_b_0 _).mp h57 z.2)] at ih; exact ih _ l0 l1 l2 l3 rfl rfl (am_nx m)) | (rw [if_neg (fun z => (am_b_0 _).mp h36 z.2), if_pos ⟨h23, am_b_1 h57⟩] at ih; exact ih _ l0 l1 l2 l3 rfl rfl (am_nx m)) | (rw [if_neg (fun z => (am_b_0 _).mp h36 z.2), if_neg (fun z => (am_b_0 _).mp h57 z.2)] at ih; exact ih _ l0 l1 l2 l3 rfl rfl (am_nx m))
      · refine w150_39 ?_
        refine w150_40 ?_
        refine w150_44 ?_
        refine w150_45 ?_
        refine w150_47 l5 ?_
        refine w150_49 l0 ?_
        refine w150_50 l6 ?_
        refine w150_52 l3 ?_
        refine w150_53 l2 ?_
        refine w150_54 (k := c120 L hm hb ha ?_)
        refine w150_57 (fun h57 => ?_) (fun h57 => ?_)
        · refine w150_64 ?_
          refine w150_65 ?_
          refine w150_66 ?_
          refine w150_68 l6 ?_
          refine w150_71 ?_
          first | (rw [if_neg (fun z => h23 z.1), if_neg (fun z => h23 z.1), Int32.add_zero, Int32.add_zero] at ih; exact ih _ l0 l1 l2 l3 rfl rfl (am_nx m)) | (rw [if_pos ⟨h23, am_b_1 h36⟩, if_pos ⟨h23, am_b_1 h57⟩] at ih; exact ih _ l0 l1 l2 l3 rfl rfl (am_nx m)) | (rw [if_pos ⟨h23, am_b_1 h36⟩, if_neg (fun z => (am_b_0 _).mp h57 z.2)] at ih; exact ih _ l0 l1 l2 l3 rfl rfl (am_nx m)) | (rw [if_neg (fun z => (am_b_0 _).mp h36 z.2), if_pos ⟨h23, am_b_1 h57⟩] at ih; exact ih _ l0 l1 l2 l3 rfl rfl (am_nx m)) | (rw [if_neg (fun z => (am_b_0 _).mp h36 z.2), if_neg (fun z => (am_b_0 _).mp h57 z.2)] at ih; exact ih _ l0 l1 l2 l3 rfl rfl (am_nx m))
        · refine w150_60 ?_
          refine w150_61 ?_
          refine w150_65 ?_
          refine w150_66 ?_
          refine w150_68 l6 ?_
          refine w150_71 ?_
          first | (rw [if_neg (fun z => h23 z.1), if_neg (fun z => h23 z.1), Int32.add_zero, Int32.add_zero] at ih; exact ih _ l0 l1 l2 l3 rfl rfl (am_nx m)) | (rw [if_pos ⟨h23, am_b_1 h36⟩, if_pos ⟨h23, am_b_1 h57⟩] at ih; exact ih _ l0 l1 l2 l3 rfl rfl (am_nx m)) | (rw [if_pos ⟨h23, am_b_1 h36⟩, if_neg (fun z => (am_b_0 _).mp h57 z.2)] at ih; exact ih _ l0 l1 l2 l3 rfl rfl (am_nx m)) | (rw [if_neg (fun z => (am_b_0 _).mp h36 z.2), if_pos ⟨h23, am_b_1 h57⟩] at ih; exact ih _ l0 l1 l2 l3 rfl rfl (am_nx m)) | (rw [if_neg (fun z => (am_b_0 _).mp h36 z.2), if_neg (fun z => (am_b_0 _).mp h57 z.2)] at ih; exact ih _ l0 l1 l2 l3 rfl rfl (am_nx m))
  · intro lv l0 l1 l2 l3 l4 l5 l6
    refine w150_9 l6 ?_
    refine w150_11 ?_
    refine w150_13 (fun _ => ?_) (fun h => absurd (Int32.le_refl _) h)
    refine w150_74 l1 ?_
    refine w150_75 (k := c23 hs ?_)
    refine w150_78 l4 ?_
    refine w150_80 ?_
    refine w150_81 l5 ?_
    refine w150_83 ?_
    refine w150_84 ?_
    refine w150_86 rfl ?_
    refine w150_88 l4 ?_
    refine w150_90 l5 ?_
    refine w150_92 ?_
    refine w150_95 ?_
    refine w150_98 ?_
    exact k _ _ _ rfl rfl rfl
/-- suspects -/
theorem c148 (L : am_Lay S P) {n s : Nat} {f g : Nat → Nat} (hn : I 65 0 = nI n) (hn7 : n ≤ 7) (hs : I 65 5 = nI s) (hs6 : s ≤ 6) (hf : ∀ i, i < s → f i < 5 ∧ I 71 i = nI (f i)) (hg : ∀ i, i < s → g i < 5 ∧ I 72 i = nI (g i)) (k : Q (some (.int (t_su (fun m => ∀ i, i < s → t_pf (I 111) (I 112) m (f i) (g i)) n))) (S, I, J, P)) : am_ev pr (d + 3) 148 [.ref 64] (S, I, J, P) Q := by
  show am_wp pr (d + 3) 148 0 [(0, .ref 64)] [] _ _
  refine w148_0 ?_
  refine w148_1 ?_
  refine w148_2 ?_
  refine w148_3 ?_
  refine am_for (fun m => ∀ lv, am_ld1 lv 0 = some (.ref 64) → am_ld1 lv 1 = some (.int (t_su (fun m => ∀ i, i < s → t_pf (I 111) (I 112) m (f i) (g i)) m)) → am_ld1 lv 2 = some (.int (nI m)) → am_wp pr (d + 3) 148 4 lv [] (S, I, J, P) Q) n ?_ ?_ _ rfl rfl rfl
  · intro m hm ih lv l0 l1 l2
    have hm7 : m < 7 := by omega
    unfold t_su at ih
    unfold am_it at ih
    change ∀ lv, am_ld1 lv 0 = some (.ref 64) → am_ld1 lv 1 = some (.int (t_su (fun m => ∀ i, i < s → t_pf (I 111) (I 112) m (f i) (g i)) m ||| (if ∀ i, i < s → t_pf (I 111) (I 112) m (f i) (g i) then 1 <<< (nI m &&& 31) else 0))) → _ at ih
    generalize t_su (fun m => ∀ i, i < s → t_pf (I 111) (I 112) m (f i) (g i)) m = acc at *
    refine w148_4 l2 ?_
    refine w148_5 l0 ?_
    refine w148_6 (L.2 _ _ _ rfl) ?_
    refine w148_9 ?_
    rw [hn]
    refine w148_12 (fun h => absurd h (am_nlt hm (by omega))) (fun _ => ?_)
    refine w148_15 l2 ?_
    refine w148_16 ?_
    refine w148_18 (fun h => absurd h (am_nlt (n := 7) hm7 (by decide))) (fun _ => ?_)
    refine w148_21 ?_
    refine w148_22 ?_
    refine w148_23 ?_
    refine w148_24 ?_
    refine am_for (fun j => ∀ lv, am_ld1 lv 0 = some (.ref 64) → am_ld1 lv 1 = some (.int acc) → am_ld1 lv 2 = some (.int (nI m)) → am_ld1 lv 3 = some (.int (am_b (∀ i, i < j → t_pf (I 111) (I 112) m (f i) (g i)))) → am_ld1 lv 4 = some (.int (nI j)) → am_wp pr (d + 3) 148 26 lv [] (S, I, J, P) Q) s ?_ ?_ _ l0 l1 l2 (by rw [am_b_t (fun i hi => absurd hi (Nat.not_lt_zero i))]; rfl) rfl
    · clear l0 l1 l2 lv
      intro j hj ih2 lv l0 l1 l2 l3 l4
      obtain ⟨f5, fe⟩ := hf j hj
      obtain ⟨g5, ge⟩ := hg j hj
      rw [am_b_iff am_all_succ, ← am_b_and] at ih2
      refine w148_26 l4 ?_
      refine w148_28 l0 ?_
      refine w148_29 (L.2 _ _ _ rfl) ?_
      refine w148_32 ?_
      rw [hs]
      refine w148_35 (fun h => absurd h (am_nlt hj (by omega))) (fun _ => ?_)
      refine w148_38 l4 ?_
      refine w148_40 ?_
      refine w148_42 (fun h => absurd h (am_nlt (n := 6) (by omega) (by decide))) (fun _ => ?_)
      refine w148_45 l3 ?_
      refine w148_46 l0 ?_
      refine w148_47 (L.2 _ _ _ rfl) ?_
      refine w148_50 l2 ?_
      refine w148_51 l0 ?_
      refine w148_52 (L.2 _ _ _ rfl) ?_
      refine w148_55 (L.2 _ _ _ rfl) ?_
      refine w148_58 l4 ?_
      refine w148_60 (L.sh rfl) (am_in_nI (by omega) (by decide)) ?_
      rw [am_clN (by omega), fe]
      refine w148_61 l0 ?_
      refine w148_62 (L.2 _ _ _ rfl) ?_
      refine w148_65 (L.2 _ _ _ rfl) ?_
      refine w148_68 l4 ?_
      refine w148_70 (L.sh rfl) (am_in_nI (by omega) (by decide)) ?_
      rw [am_clN (by omega), ge]
      refine w148_71 (k := c120 L hm7 f5 g5 ?_)
      refine w148_74 ?_
      refine w148_75 ?_
      refine w148_76 l4 ?_
      refine w148_79 ?_
      exact ih2 _ l0 l1 l2 rfl (am_nx j)
    · clear l0 l1 l2 lv
      intro lv l0 l1 l2 l3 l4
      refine w148_26 l4 ?_
      refine w148_28 l0 ?_
      refine w148_29 (L.2 _ _ _ rfl) ?_
      refine w148_32 ?_
      rw [hs]
      refine w148_35 (fun _ => ?_) (fun h => absurd (Int32.le_refl _) h)
      refine w148_82 l1 ?_
      refine w148_83 l3 ?_
      refine w148_84 (fun h84 => ?_) (fun h84 => ?_)
      · refine w148_93 ?_
        refine w148_94 ?_
        refine w148_95 ?_
        refine w148_96 l2 ?_
        refine w148_99 ?_
        first | (rw [if_pos (am_b_1 h84)] at ih; exact ih _ l0 rfl (am_nx m)) | (rw [if_neg ((am_b_0 _).mp h84)] at ih; exact ih _ l0 rfl (am_nx m))
      · refine w148_87 ?_
        refine w148_88 l2 ?_
        refine w148_89 ?_
        refine w148_90 ?_
        refine w148_94 ?_
        refine w148_95 ?_
        refine w148_96 l2 ?_
        refine w148_99 ?_
        first | (rw [if_pos (am_b_1 h84)] at ih; exact ih _ l0 rfl (am_nx m)) | (rw [if_neg ((am_b_0 _).mp h84)] at ih; exact ih _ l0 rfl (am_nx m))
  · intro lv l0 l1 l2
    refine w148_4 l2 ?_
    refine w148_5 l0 ?_
    refine w148_6 (L.2 _ _ _ rfl) ?_
    refine w148_9 ?_
    rw [hn]
    refine w148_12 (fun _ => ?_) (fun h => absurd (Int32.le_refl _) h)
    refine w148_102 l1 ?_
    refine w148_103 ?_
    exact k
/-- draw -/
def t_dr (x : Int32) : Int32 := (x.toInt64 * 1103 + 12345 - (x.toInt64 * 1103 + 12345) / 1000003 * 1000003).toInt32
theorem c155 (L : am_Lay S P) {y : Int32} (hy : 0 < y) (k : Q (some (.int (t_dr (I 64 12) - t_dr (I 64 12) / y * y))) (S, am_u I 64 12 (t_dr (I 64 12)), J, P)) : am_ev pr d 155 [.ref 64, .int y] (S, I, J, P) Q := by
  show am_wp pr d 155 0 [(0, .ref 64), (1, .int y)] [] _ _
  refine w155_0 rfl ?_
  refine w155_1 rfl ?_
  refine w155_2 ?_
  refine w155_5 ?_
  refine w155_6 ?_
  refine w155_9 ?_
  refine w155_10 ?_
  refine w155_13 ?_
  refine w155_14 ?_
  refine w155_17 (by decide) ?_
  refine w155_18 ?_
  refine w155_19 ?_
  refine w155_22 rfl ?_
  refine w155_23 (fun h => absurd h (Int32.not_le.mpr hy)) (fun _ => ?_)
  refine w155_26 rfl ?_
  refine w155_27 ?_
  rw [am_u_self]
  refine w155_30 rfl ?_
  refine w155_31 (fun z => absurd hy (by rw [z]; decide)) ?_
  refine w155_32 ?_
  refine w155_36 ?_
  exact k
end
