/-! contracts: orders of bills, further; which bill beats which -/
theorem nI_m1 {k : Nat} (h : 0 < k) : nI k + (-1) = nI (k - 1) := by
  obtain ⟨j, rfl⟩ : ∃ j, k = j + 1 := ⟨k - 1, by omega⟩
  exact pk_m1 j
def o_tm : Nat → Int32
  | 0 => -1
  | t + 1 => nI t
theorem o_tmE (T : Nat) : some (Value.int (nI T + (-1))) = some (Value.int (o_tm T)) := by
  cases T with
  | zero => rfl
  | succ t => exact congrArg (fun x => some (Value.int x)) (pk_m1 t)
theorem nI_m1E {k : Nat} (h : 0 < k) : some (Value.int (nI k + (-1))) = some (Value.int (nI (k - 1))) := congrArg (fun x => some (Value.int x)) (nI_m1 h)
theorem am_row_self {α : Type} {f : Nat → Nat → α} {a : Nat} {g : Nat → α} : am_row f a g a = g := if_pos rfl
/-- the winner of an order -/
def t_wi (bt : Nat → Nat → Prop) [∀ a b, Decidable (bt a b)] (p : Nat → Nat) : Nat := am_it (fun j h => if bt (p (j + 1)) h then p (j + 1) else h) 4 (p 0)
theorem t_wi_lt {bt : Nat → Nat → Prop} [∀ a b, Decidable (bt a b)] {p : Nat → Nat} (h : ∀ i, i < 5 → p i < 5) : ∀ n, n ≤ 4 → am_it (fun j h => if bt (p (j + 1)) h then p (j + 1) else h) n (p 0) < 5
  | 0, _ => h 0 (by omega)
  | n + 1, hn => by
    show (if bt (p (n + 1)) _ then p (n + 1) else _) < 5
    split
    · exact h (n + 1) (by omega)
    · exact t_wi_lt h n (by omega)
section
variable {pr : am_Pr} {d : Nat} {S : List (Nat × Nat)} {I : Nat → Nat → Int32} {J : Nat → Nat → Int64} {P : Nat → Nat → Option Nat} {Q : Option Value → am_H → Prop}
theorem c129a {o : Nat} (hs : am_sh S o (20, 5)) : ∀ T, T ≤ 4 → (∀ lv, am_ld1 lv 0 = some (.ref o) → am_ld1 lv 1 = some (.int (o_tm (o_tr (I o) T))) → am_wp pr (d) 129 26 lv [] (S, I, J, P) Q) → (∀ lv, am_ld1 lv 0 = some (.ref o) → am_ld1 lv 1 = some (.int (o_tm T)) → am_wp pr (d) 129 5 lv [] (S, I, J, P) Q)
  | 0, _, k => by
    intro lv l0 l1
    refine w129_5 l1 ?_
    refine w129_6 (fun _ => ?_) (fun h => absurd (by decide) h)
    exact k _ l0 l1
  | T + 1, hT, k => by
    intro lv l0 l1
    have ih := c129a hs T (by omega)
    unfold o_tr at k
    unfold o_tm at l1
    refine w129_5 l1 ?_
    refine w129_6 (fun h => absurd h (nI_pos (by omega))) (fun _ => ?_)
    refine w129_9 l0 ?_
    refine w129_10 l1 ?_
    refine w129_11 (by first | with_reducible assumption | exact L.sh rfl | exact hh.sh rfl | exact hp.2.2) (by first | with_reducible assumption | with_reducible exact am_in_nI (by omega) (by decide) | with_reducible exact am_inb (by omega) (by omega) | with_reducible exact am_inb' (by omega) (by omega) | with_reducible exact am_in35 (by omega) | with_reducible exact am_inw (by omega) (by omega) | with_reducible decide) ?_
    try simp (disch := omega) only [am_clb, am_clb', am_cl35, am_clw, am_clN]
    refine w129_12 l0 ?_
    refine w129_13 l1 ?_
    refine w129_14 ?_
    refine w129_15 ?_
    rw [nI_1]
    refine w129_16 (by first | with_reducible assumption | exact L.sh rfl | exact hh.sh rfl | exact hp.2.2) (by first | with_reducible assumption | with_reducible exact am_in_nI (by omega) (by decide) | with_reducible exact am_inb (by omega) (by omega) | with_reducible exact am_inb' (by omega) (by omega) | with_reducible exact am_in35 (by omega) | with_reducible exact am_inw (by omega) (by omega) | with_reducible decide) ?_
    try simp (disch := omega) only [am_clb, am_clb', am_cl35, am_clw, am_clN]
    refine w129_17 (fun h17 => ?_) (fun h17 => ?_)
    · rw [if_neg (Int32.not_lt.mpr h17)] at k
      exact k _ l0 l1
    · replace h17 := Int32.not_le.mp h17
      refine w129_20 l1 ?_
      refine w129_23 ?_
      rw [if_pos h17] at k
      exact ih k _ l0 (o_tmE T)
theorem c129b {o t : Nat} (hs : am_sh S o (20, 5)) : ∀ j, j ≤ 4 → t < j → (∀ lv, am_ld1 lv 0 = some (.ref o) → am_ld1 lv 1 = some (.int (nI t)) → am_ld1 lv 2 = some (.int (nI (o_lg (I o) t j))) → am_wp pr (d) 129 58 lv [] (S, I, J, P) Q) → (∀ lv, am_ld1 lv 0 = some (.ref o) → am_ld1 lv 1 = some (.int (nI t)) → am_ld1 lv 2 = some (.int (nI j)) → am_wp pr (d) 129 36 lv [] (S, I, J, P) Q)
  | 0, _, h, _ => absurd h (Nat.not_lt_zero t)
  | j + 1, hj, h, k => by
    intro lv l0 l1 l2
    have ih := c129b (t := t) hs j (by omega)
    unfold o_lg at k
    refine w129_36 l2 ?_
    refine w129_37 l1 ?_
    refine w129_38 ?_
    refine w129_39 ?_
    rw [nI_1]
    refine w129_40 (fun h40 => ?_) (fun h40 => ?_)
    · rw [if_neg] at k
      · exact k _ l0 l1 l2
      · intro z
        first | exact absurd ((nI_leI (by omega) (by omega)).mp h40) (by omega) | exact absurd z.2 (Int32.not_lt.mpr h49)
    · replace h40 := Int32.not_le.mp h40
      refine w129_43 l0 ?_
      refine w129_44 l2 ?_
      refine w129_45 (by first | with_reducible assumption | exact L.sh rfl | exact hh.sh rfl | exact hp.2.2) (by first | with_reducible assumption | with_reducible exact am_in_nI (by omega) (by decide) | with_reducible exact am_inb (by omega) (by omega) | with_reducible exact am_inb' (by omega) (by omega) | with_reducible exact am_in35 (by omega) | with_reducible exact am_inw (by omega) (by omega) | with_reducible decide) ?_
      try simp (disch := omega) only [am_clb, am_clb', am_cl35, am_clw, am_clN]
      refine w129_46 l0 ?_
      refine w129_47 l1 ?_
      refine w129_48 (by first | with_reducible assumption | exact L.sh rfl | exact hh.sh rfl | exact hp.2.2) (by first | with_reducible assumption | with_reducible exact am_in_nI (by omega) (by decide) | with_reducible exact am_inb (by omega) (by omega) | with_reducible exact am_inb' (by omega) (by omega) | with_reducible exact am_in35 (by omega) | with_reducible exact am_inw (by omega) (by omega) | with_reducible decide) ?_
      try simp (disch := omega) only [am_clb, am_clb', am_cl35, am_clw, am_clN]
      refine w129_49 (fun h49 => ?_) (fun h49 => ?_)
      · rw [if_neg] at k
        · exact k _ l0 l1 l2
        · intro z
          first | exact absurd ((nI_leI (by omega) (by omega)).mp h40) (by omega) | exact absurd z.2 (Int32.not_lt.mpr h49)
      · replace h49 := Int32.not_le.mp h49
        refine w129_52 l2 ?_
        refine w129_55 ?_
        have z := (nI_ltI (by omega) (by omega)).mp h40
        rw [if_pos ⟨z, h49⟩] at k
        exact ih (by omega) k _ l0 l1 (nI_m1E (by omega))
theorem c129c {o : Nat} (hs : am_sh S o (20, 5)) : ∀ (f low high : Nat) (I' : Nat → Nat → Int32), low < 9 → high < 5 → high ≤ low + 2 * f → (∀ I'' : Nat → Nat → Int32, (∀ a, a ≠ o → I'' a = I' a) → I'' o = o_rv (I' o) low high f → Q none (S, I'', J, P)) → (∀ lv, am_ld1 lv 0 = some (.ref o) → am_ld1 lv 3 = some (.int (nI high)) → am_ld1 lv 4 = some (.int (nI low)) → am_wp pr (d + 1) 129 74 lv [] (S, I', J, P) Q)
  | 0, low, high, I', hl, hh5, hf, k => by
    intro lv l0 l3 l4
    refine w129_74 l4 ?_
    refine w129_76 l3 ?_
    refine w129_77 (fun _ => ?_) (fun h => absurd (nI_le (by omega) (by omega)) h)
    refine w129_96 ?_
    exact k I' (fun _ _ => rfl) rfl
  | f + 1, low, high, I', hl, hh5, hf, k => by
    intro lv l0 l3 l4
    unfold o_rv at k
    by_cases z : low < high
    · rw [if_pos z] at k
      have ih := c129c hs f (low + 1) (high - 1) (am_row I' o (o_sw (I' o) low high)) (by omega) (by omega) (by omega) (fun I'' h1 h2 => k I'' (fun a ha => (h1 a ha).trans (am_row_ne ha)) (by rw [h2, am_row_self]))
      refine w129_74 l4 ?_
      refine w129_76 l3 ?_
      refine w129_77 (fun h => absurd h (am_nlt z (by omega))) (fun _ => ?_)
      refine w129_80 l0 ?_
      refine w129_81 l4 ?_
      refine w129_83 l3 ?_
      refine w129_84 (k := c130 hs (by omega) (by omega) ?_)
      refine w129_87 l3 ?_
      refine w129_90 l4 ?_
      refine w129_93 ?_
      exact ih _ l0 (nI_m1E (by omega)) (am_nx low)
    · rw [if_neg z] at k
      refine w129_74 l4 ?_
      refine w129_76 l3 ?_
      refine w129_77 (fun _ => ?_) (fun h => absurd (nI_le (by omega) (by omega)) h)
      refine w129_96 ?_
      exact k I' (fun _ _ => rfl) rfl
/-- nextOrder, along all orders of five -/
theorem c129 {o q : Nat} (hs : am_sh S o (20, 5)) (hq : q < 120) (hv : ∀ i, i < 5 → I o i = nI (am_pm q i)) (k : ∀ I' : Nat → Nat → Int32, (∀ a, a ≠ o → I' a = I a) → (q < 119 → ∀ i, i < 5 → I' o i = nI (am_pm (q + 1) i)) → Q none (S, I', J, P)) : am_ev pr (d + 1) 129 [.ref o] (S, I, J, P) Q := by
  have k2 : ∀ I' : Nat → Nat → Int32, (∀ a, a ≠ o → I' a = I a) → I' o = o_nx (I o) → Q none (S, I', J, P) := by
    intro I' h1 h2
    refine k I' h1 (fun h3 i hi => ?_)
    rw [h2, o_nx_c hv i hi]
    exact o_nx_pm q h3 i hi
  clear k
  show am_wp pr (d + 1) 129 0 [(0, .ref o)] [] _ _
  refine w129_0 rfl ?_
  refine w129_1 hs (by decide) ?_
  refine w129_2 ?_
  refine w129_3 ?_
  refine w129_4 ?_
  refine c129a hs 4 (by omega) ?_ _ rfl rfl
  intro lv l0 l1
  have b1 := o_tr_le (I o) 4
  unfold o_nx at k2
  generalize o_tr (I o) 4 = T at l1 k2 b1
  cases T with
  | zero =>
    rw [if_pos rfl] at k2
    unfold o_tm at l1
    refine w129_26 l1 ?_
    refine w129_27 (fun h => absurd h (by decide)) (fun _ => ?_)
    refine w129_30 ?_
    exact k2 I (fun _ _ => rfl) rfl
  | succ t =>
    rw [if_neg (by omega), Nat.add_sub_cancel] at k2
    unfold o_tm at l1
    have b2 := o_lg_le (I o) t 4
    refine w129_26 l1 ?_
    refine w129_27 (fun _ => ?_) (fun h => absurd (nI_pos' (by omega)) h)
    refine w129_31 l0 ?_
    refine w129_32 hs (by decide) ?_
    refine w129_33 ?_
    refine w129_34 ?_
    refine w129_35 ?_
    refine c129b hs 4 (by omega) (by omega) ?_ _ l0 l1 rfl
    clear l0 l1 lv
    intro lv l0 l1 l2
    refine w129_58 l0 ?_
    refine w129_59 l1 ?_
    refine w129_60 l2 ?_
    refine w129_61 (k := c130 hs (by omega) (by omega) ?_)
    refine w129_64 l0 ?_
    refine w129_65 hs (by decide) ?_
    refine w129_66 ?_
    refine w129_67 ?_
    refine w129_68 ?_
    refine w129_69 l1 ?_
    refine w129_70 ?_
    refine w129_71 ?_
    refine w129_72 ?_
    refine c129c hs 3 (t + 1) 4 (am_row I o (o_sw (I o) t (o_lg (I o) t 4))) (by omega) (by omega) (by omega) ?_ _ l0 rfl (am_nx t)
    intro I'' h1 h2
    exact k2 I'' (fun a ha => (h1 a ha).trans (am_row_ne ha)) (by rw [h2, am_row_self])
/-- winner of an order of the bills -/
theorem c128 (L : am_Lay S P) {o : Nat} (hs : am_sh S o (20, 5)) {p : Nat → Nat} (hp5 : ∀ i, i < 5 → p i < 5) (hv : ∀ i, i < 5 → I o i = nI (p i)) (k : Q (some (.int (nI (t_wi (fun a b => am_bit (I 114 a) b = 1) p)))) (S, I, J, P)) : am_ev pr (d + 2) 128 [.ref 109, .ref o] (S, I, J, P) Q := by
  show am_wp pr (d + 2) 128 0 [(0, .ref 109), (1, .ref o)] [] _ _
  have e0 := hv 0 (by omega)
  refine w128_0 ?_
  refine w128_1 ?_
  refine w128_2 ?_
  refine w128_3 ?_
  refine w128_4 rfl ?_
  refine w128_5 rfl ?_
  refine w128_6 hs (by decide) ?_
  refine w128_7 (fun h => absurd h (by decide)) (fun _ => ?_)
  refine w128_10 rfl ?_
  refine w128_11 ?_
  refine w128_12 (fun _ => ?_) (fun h => absurd rfl h)
  refine w128_26 rfl ?_
  refine w128_27 rfl ?_
  refine w128_28 hs (by decide) ?_
  rw [show (0 : Int32).toNatClampNeg = 0 from rfl, e0]
  refine w128_29 ?_
  refine w128_30 rfl ?_
  refine w128_33 ?_
  refine am_for (fun j => ∀ lv, am_ld1 lv 0 = some (.ref 109) → am_ld1 lv 1 = some (.ref o) → am_ld1 lv 2 = some (.int (nI (am_it (fun j h => if am_bit (I 114 (p (j + 1))) h = 1 then p (j + 1) else h) j (p 0)))) → am_ld1 lv 3 = some (.int (nI (j + 1))) → am_wp pr (d + 2) 128 4 lv [] (S, I, J, P) Q) 4 ?_ ?_ _ rfl rfl rfl rfl
  · intro j hj ih lv l0 l1 l2 l3
    have hlt := t_wi_lt (bt := fun a b => am_bit (I 114 a) b = 1) hp5 j (by omega)
    have e1 := hv (j + 1) (by omega)
    have h5 := hp5 (j + 1) (by omega)
    unfold am_it at ih
    generalize am_it (fun j h => if am_bit (I 114 (p (j + 1))) h = 1 then p (j + 1) else h) j (p 0) = hd at *
    refine w128_4 l3 ?_
    refine w128_5 l1 ?_
    refine w128_6 hs (by decide) ?_
    refine w128_7 (fun h => absurd h (am_nlt (n := 5) (by omega) (by decide))) (fun _ => ?_)
    refine w128_10 l2 ?_
    refine w128_11 ?_
    refine w128_12 (fun h => absurd h (fun z => absurd z (by rw [← Int32.toInt_inj, nI_toInt (by omega), am_zm1]; omega))) (fun _ => ?_)
    refine w128_15 l0 ?_
    refine w128_16 l1 ?_
    refine w128_17 l3 ?_
    refine w128_18 hs (am_in_nI (by omega) (by decide)) ?_
    rw [am_clN (by omega), e1]
    refine w128_19 l2 ?_
    refine w128_20 (k := c125 L h5 hlt ?_)
    refine w128_23 (fun h23 => ?_) (fun h23 => ?_)
    · refine w128_30 l3 ?_
      refine w128_33 ?_
      first | (rw [if_pos (am_b_1 h23)] at ih; exact ih _ l0 l1 l2 (am_nx (j + 1))) | (rw [if_neg ((am_b_0 _).mp h23)] at ih; exact ih _ l0 l1 l2 (am_nx (j + 1)))
    · refine w128_26 l1 ?_
      refine w128_27 l3 ?_
      refine w128_28 hs (am_in_nI (by omega) (by decide)) ?_
      rw [am_clN (by omega), e1]
      refine w128_29 ?_
      refine w128_30 l3 ?_
      refine w128_33 ?_
      first | (rw [if_pos (am_b_1 h23)] at ih; exact ih _ l0 l1 rfl (am_nx (j + 1))) | (rw [if_neg ((am_b_0 _).mp h23)] at ih; exact ih _ l0 l1 rfl (am_nx (j + 1)))
  · intro lv l0 l1 l2 l3
    refine w128_4 l3 ?_
    refine w128_5 l1 ?_
    refine w128_6 hs (by decide) ?_
    refine w128_7 (fun _ => ?_) (fun h => absurd (Int32.le_refl _) h)
    refine w128_36 l2 ?_
    refine w128_37 ?_
    exact k
end
