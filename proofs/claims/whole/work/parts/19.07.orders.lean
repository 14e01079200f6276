/-! contracts: orders of bills -/
theorem am_for (W : Nat → Prop) (n : Nat) (step : ∀ k, k < n → W (k + 1) → W k) (h : W n) : W 0 := am_loop (α := Unit) (fun _ a => a) (fun k _ => W k) n (fun k _ hk z => step k hk z) () (by cases (am_it (fun _ (a : Unit) => a) n ()); exact h)
theorem am_q1 {Q : Option Value → am_H → Prop} {σ : am_H} {x y : Int32} (e : x = y) (k : Q (some (.int y)) σ) : Q (some (.int x)) σ := by rw [e]; exact k
theorem am_nsub {a b : Nat} (h : b ≤ a) : nI a - nI b = nI (a - b) := by
  have e : nI a = nI (a - b) + nI b := by rw [nI_add, Nat.sub_add_cancel h]
  rw [e, Int32.add_sub_cancel]
theorem am_clN {k : Nat} (h : k < 2147483648) : (nI k).toNatClampNeg = k := am_cln h
def am_perms : List (List Nat) := [[0, 1, 2, 3, 4], [0, 1, 2, 4, 3], [0, 1, 3, 2, 4], [0, 1, 3, 4, 2], [0, 1, 4, 2, 3], [0, 1, 4, 3, 2], [0, 2, 1, 3, 4], [0, 2, 1, 4, 3], [0, 2, 3, 1, 4], [0, 2, 3, 4, 1], [0, 2, 4, 1, 3], [0, 2, 4, 3, 1], [0, 3, 1, 2, 4], [0, 3, 1, 4, 2], [0, 3, 2, 1, 4], [0, 3, 2, 4, 1], [0, 3, 4, 1, 2], [0, 3, 4, 2, 1], [0, 4, 1, 2, 3], [0, 4, 1, 3, 2], [0, 4, 2, 1, 3], [0, 4, 2, 3, 1], [0, 4, 3, 1, 2], [0, 4, 3, 2, 1], [1, 0, 2, 3, 4], [1, 0, 2, 4, 3], [1, 0, 3, 2, 4], [1, 0, 3, 4, 2], [1, 0, 4, 2, 3], [1, 0, 4, 3, 2], [1, 2, 0, 3, 4], [1, 2, 0, 4, 3], [1, 2, 3, 0, 4], [1, 2, 3, 4, 0], [1, 2, 4, 0, 3], [1, 2, 4, 3, 0], [1, 3, 0, 2, 4], [1, 3, 0, 4, 2], [1, 3, 2, 0, 4], [1, 3, 2, 4, 0], [1, 3, 4, 0, 2], [1, 3, 4, 2, 0], [1, 4, 0, 2, 3], [1, 4, 0, 3, 2], [1, 4, 2, 0, 3], [1, 4, 2, 3, 0], [1, 4, 3, 0, 2], [1, 4, 3, 2, 0], [2, 0, 1, 3, 4], [2, 0, 1, 4, 3], [2, 0, 3, 1, 4], [2, 0, 3, 4, 1], [2, 0, 4, 1, 3], [2, 0, 4, 3, 1], [2, 1, 0, 3, 4], [2, 1, 0, 4, 3], [2, 1, 3, 0, 4], [2, 1, 3, 4, 0], [2, 1, 4, 0, 3], [2, 1, 4, 3, 0], [2, 3, 0, 1, 4], [2, 3, 0, 4, 1], [2, 3, 1, 0, 4], [2, 3, 1, 4, 0], [2, 3, 4, 0, 1], [2, 3, 4, 1, 0], [2, 4, 0, 1, 3], [2, 4, 0, 3, 1], [2, 4, 1, 0, 3], [2, 4, 1, 3, 0], [2, 4, 3, 0, 1], [2, 4, 3, 1, 0], [3, 0, 1, 2, 4], [3, 0, 1, 4, 2], [3, 0, 2, 1, 4], [3, 0, 2, 4, 1], [3, 0, 4, 1, 2], [3, 0, 4, 2, 1], [3, 1, 0, 2, 4], [3, 1, 0, 4, 2], [3, 1, 2, 0, 4], [3, 1, 2, 4, 0], [3, 1, 4, 0, 2], [3, 1, 4, 2, 0], [3, 2, 0, 1, 4], [3, 2, 0, 4, 1], [3, 2, 1, 0, 4], [3, 2, 1, 4, 0], [3, 2, 4, 0, 1], [3, 2, 4, 1, 0], [3, 4, 0, 1, 2], [3, 4, 0, 2, 1], [3, 4, 1, 0, 2], [3, 4, 1, 2, 0], [3, 4, 2, 0, 1], [3, 4, 2, 1, 0], [4, 0, 1, 2, 3], [4, 0, 1, 3, 2], [4, 0, 2, 1, 3], [4, 0, 2, 3, 1], [4, 0, 3, 1, 2], [4, 0, 3, 2, 1], [4, 1, 0, 2, 3], [4, 1, 0, 3, 2], [4, 1, 2, 0, 3], [4, 1, 2, 3, 0], [4, 1, 3, 0, 2], [4, 1, 3, 2, 0], [4, 2, 0, 1, 3], [4, 2, 0, 3, 1], [4, 2, 1, 0, 3], [4, 2, 1, 3, 0], [4, 2, 3, 0, 1], [4, 2, 3, 1, 0], [4, 3, 0, 1, 2], [4, 3, 0, 2, 1], [4, 3, 1, 0, 2], [4, 3, 1, 2, 0], [4, 3, 2, 0, 1], [4, 3, 2, 1, 0]]
def am_pm (k i : Nat) : Nat := (am_perms.getD k []).getD i 0
theorem am_pm5 : ∀ k, k < 120 → ∀ i, i < 5 → am_pm k i < 5 := by decide +kernel
theorem am_pm_inj : ∀ k, k < 120 → ∀ i, i < 5 → ∀ j, j < 5 → am_pm k i = am_pm k j → i = j := by decide +kernel
def t_fc (n : Nat) : Int32 := ([1, 1, 2, 6, 24, 120, 720, 5040] : List Int32).getD n 0
/-- the next order, as the row is turned -/
def o_tr (v : Nat → Int32) : Nat → Nat
  | 0 => 0
  | t + 1 => if v (t + 1) < v t then o_tr v t else t + 1
def o_lg (v : Nat → Int32) (t : Nat) : Nat → Nat
  | 0 => 0
  | j + 1 => if t + 1 < j + 1 ∧ v (j + 1) < v t then o_lg v t j else j + 1
def o_sw (v : Nat → Int32) (i j : Nat) : Nat → Int32 := fun x => if x = j then v i else if x = i then v j else v x
def o_rv (v : Nat → Int32) (low high : Nat) : Nat → Nat → Int32
  | 0 => v
  | f + 1 => if low < high then o_rv (o_sw v low high) (low + 1) (high - 1) f else v
def o_nx (v : Nat → Int32) : Nat → Int32 := if o_tr v 4 = 0 then v else o_rv (o_sw v (o_tr v 4 - 1) (o_lg v (o_tr v 4 - 1) 4)) (o_tr v 4) 4 3
theorem o_tr_le (v : Nat → Int32) : ∀ t, o_tr v t ≤ t
  | 0 => Nat.le_refl 0
  | t + 1 => by
    unfold o_tr
    split
    · exact Nat.le_succ_of_le (o_tr_le v t)
    · exact Nat.le_refl _
theorem o_lg_le (v : Nat → Int32) (t : Nat) : ∀ j, o_lg v t j ≤ j
  | 0 => Nat.le_refl 0
  | j + 1 => by
    unfold o_lg
    split
    · exact Nat.le_succ_of_le (o_lg_le v t j)
    · exact Nat.le_refl _
theorem o_tr_c {v w : Nat → Int32} (h : ∀ i, i < 5 → v i = w i) : ∀ t, t < 5 → o_tr v t = o_tr w t
  | 0, _ => rfl
  | t + 1, ht => by
    unfold o_tr
    rw [h t (by omega), h (t + 1) ht, o_tr_c h t (by omega)]
theorem o_lg_c {v w : Nat → Int32} (h : ∀ i, i < 5 → v i = w i) {t : Nat} (ht : t < 5) : ∀ j, j < 5 → o_lg v t j = o_lg w t j
  | 0, _ => rfl
  | j + 1, hj => by
    unfold o_lg
    rw [h t ht, h (j + 1) hj, o_lg_c h ht j (by omega)]
theorem o_sw_c {v w : Nat → Int32} (h : ∀ i, i < 5 → v i = w i) {a b : Nat} (ha : a < 5) (hb : b < 5) : ∀ i, i < 5 → o_sw v a b i = o_sw w a b i := by
  intro i hi
  unfold o_sw
  rw [h i hi, h a ha, h b hb]
theorem o_rv_c : ∀ (f : Nat) {v w : Nat → Int32} (_ : ∀ i, i < 5 → v i = w i) (low high : Nat) (_ : high < 5), ∀ i, i < 5 → o_rv v low high f i = o_rv w low high f i
  | 0, v, w, h, low, high, hh, i, hi => h i hi
  | f + 1, v, w, h, low, high, hh, i, hi => by
    unfold o_rv
    by_cases z : low < high
    · rw [if_pos z, if_pos z]
      exact o_rv_c f (o_sw_c h (by omega) hh) _ _ (by omega) i hi
    · rw [if_neg z, if_neg z]
      exact h i hi
theorem o_nx_c {v w : Nat → Int32} (h : ∀ i, i < 5 → v i = w i) : ∀ i, i < 5 → o_nx v i = o_nx w i := by
  intro i hi
  have e := o_tr_c h 4 (by omega)
  have b := o_tr_le w 4
  unfold o_nx
  rw [e]
  by_cases z : o_tr w 4 = 0
  · rw [if_pos z, if_pos z]
    exact h i hi
  · rw [if_neg z, if_neg z, o_lg_c h (by omega) 4 (by omega)]
    have b2 := o_lg_le w (o_tr w 4 - 1) 4
    exact o_rv_c 3 (o_sw_c h (by omega) (by omega)) _ _ (by omega) i hi
theorem o_nx_pm : ∀ k, k < 119 → ∀ i, i < 5 → o_nx (fun j => nI (am_pm k j)) i = nI (am_pm (k + 1) i) := by decide +kernel
section
variable {pr : am_Pr} {d : Nat} {S : List (Nat × Nat)} {I : Nat → Nat → Int32} {J : Nat → Nat → Int64} {P : Nat → Nat → Option Nat} {Q : Option Value → am_H → Prop}
/-- bitCount -/
theorem c23 {s : Nat} (hs : s < 128) (k : Q (some (.int (t_on (nI s)))) (S, I, J, P)) : am_ev pr d 23 [.int (nI s)] (S, I, J, P) Q := by
  show am_wp pr d 23 0 [(0, .int (nI s))] [] _ _
  refine w23_0 rfl ?_
  refine w23_1 rfl ?_
  refine w23_2 ?_
  refine w23_3 ?_
  refine w23_4 ?_
  refine w23_7 ?_
  refine w23_8 ?_
  refine w23_9 ?_
  refine w23_10 rfl ?_
  refine w23_11 ?_
  refine w23_14 ?_
  refine w23_15 rfl ?_
  refine w23_16 ?_
  refine w23_17 ?_
  refine w23_18 ?_
  refine w23_21 ?_
  refine w23_22 ?_
  refine w23_23 ?_
  refine w23_24 rfl ?_
  refine w23_25 rfl ?_
  refine w23_26 ?_
  refine w23_27 ?_
  refine w23_28 ?_
  refine w23_29 ?_
  refine w23_32 ?_
  refine w23_33 ?_
  refine w23_34 rfl ?_
  refine w23_35 rfl ?_
  refine w23_36 ?_
  refine w23_38 ?_
  refine w23_39 ?_
  refine w23_40 ?_
  refine w23_41 rfl ?_
  refine w23_42 rfl ?_
  refine w23_43 ?_
  refine w23_45 ?_
  refine w23_46 ?_
  refine w23_47 ?_
  refine w23_48 rfl ?_
  refine w23_49 ?_
  refine w23_51 ?_
  refine w23_52 ?_
  refine am_q1 ?_ k
  clear k
  revert s
  decide +kernel
/-- ordersAround -/
theorem c133 {a o : Nat} (ha : a ≤ o) (ho : o ≤ 6) (k : Q (some (.int (t_fc a * t_fc (o - a)))) (S, I, J, P)) : am_ev pr d 133 [.int (nI a), .int (nI o)] (S, I, J, P) Q := by
  show am_wp pr d 133 0 [(0, .int (nI a)), (1, .int (nI o))] [] _ _
  refine w133_0 rfl ?_
  refine w133_1 rfl ?_
  refine w133_2 ?_
  rw [am_nsub ha]
  refine w133_3 ?_
  refine w133_4 rfl ?_
  refine w133_5 (fun h => absurd h (nI_pos (by omega))) (fun _ => ?_)
  refine w133_8 rfl ?_
  refine w133_9 (fun h => absurd h (nI_pos (by omega))) (fun _ => ?_)
  refine w133_12 rfl ?_
  refine w133_13 ?_
  refine w133_16S (by decide) rfl (by decide) ?_
  refine w133_17 (fun h => absurd h (am_nlt (n := 8) (by omega) (by decide))) (fun _ => ?_)
  refine w133_20 rfl ?_
  refine w133_21 ?_
  refine w133_24S (by decide) rfl (by decide) ?_
  refine w133_25 (fun _ => ?_) (fun h => absurd (nI_lt (b := 8) (by omega) (by decide)) h)
  refine w133_30 ?_
  refine w133_33 rfl ?_
  refine w133_34S (by decide) rfl (am_in_nI (by omega) (by decide)) ?_
  rw [am_clN (by omega)]
  refine w133_35 ?_
  refine w133_38 rfl ?_
  refine w133_39S (by decide) rfl (am_in_nI (by omega) (by decide)) ?_
  rw [am_clN (by omega)]
  refine w133_40 ?_
  refine w133_41 ?_
  exact k
/-- swap -/
theorem c130 {o i j : Nat} (hs : am_sh S o (20, 5)) (hi : i < 5) (hj : j < 5) (k : Q none (S, am_row I o (o_sw (I o) i j), J, P)) : am_ev pr d 130 [.ref o, .int (nI i), .int (nI j)] (S, I, J, P) Q := by
  show am_wp pr d 130 0 [(0, .ref o), (1, .int (nI i)), (2, .int (nI j))] [] _ _
  have e : am_u (am_u I o i (I o j)) o j (I o i) = am_row I o (o_sw (I o) i j) := by
    funext a x
    rw [am_u_get, am_u_get, am_row_get]
    unfold o_sw
    by_cases h1 : a = o
    · subst h1
      by_cases h2 : x = j
      · subst h2
        simp
      · by_cases h3 : x = i
        · subst h3
          simp [h2]
        · simp [h2, h3]
    · simp [h1]
  refine w130_0 rfl ?_
  refine w130_1 (fun h => absurd h (nI_pos (by omega))) (fun _ => ?_)
  refine w130_4 rfl ?_
  refine w130_5 (fun h => absurd h (nI_pos (by omega))) (fun _ => ?_)
  refine w130_8 rfl ?_
  refine w130_9 rfl ?_
  refine w130_10 hs (by decide) ?_
  refine w130_11 (fun h => absurd h (am_nlt (n := 5) (by omega) (by decide))) (fun _ => ?_)
  refine w130_14 rfl ?_
  refine w130_15 rfl ?_
  refine w130_16 hs (by decide) ?_
  refine w130_17 (fun _ => ?_) (fun h => absurd (nI_lt (b := 5) (by omega) (by decide)) h)
  refine w130_21 rfl ?_
  refine w130_22 rfl ?_
  refine w130_23 (by first | with_reducible assumption | exact L.sh rfl | exact hh.sh rfl | exact hp.2.2) (by first | with_reducible assumption | with_reducible exact am_in_nI (by omega) (by decide) | with_reducible exact am_inb (by omega) (by omega) | with_reducible exact am_inb' (by omega) (by omega) | with_reducible exact am_in35 (by omega) | with_reducible exact am_inw (by omega) (by omega) | with_reducible decide) ?_
  try simp (disch := omega) only [am_clb, am_clb', am_cl35, am_clw, am_clN]
  refine w130_24 ?_
  refine w130_25 rfl ?_
  refine w130_26 rfl ?_
  refine w130_27 rfl ?_
  refine w130_28 rfl ?_
  refine w130_29 (by first | with_reducible assumption | exact L.sh rfl | exact hh.sh rfl | exact hp.2.2) (by first | with_reducible assumption | with_reducible exact am_in_nI (by omega) (by decide) | with_reducible exact am_inb (by omega) (by omega) | with_reducible exact am_inb' (by omega) (by omega) | with_reducible exact am_in35 (by omega) | with_reducible exact am_inw (by omega) (by omega) | with_reducible decide) ?_
  try simp (disch := omega) only [am_clb, am_clb', am_cl35, am_clw, am_clN]
  refine w130_30 (by first | with_reducible assumption | exact L.sh rfl | exact hh.sh rfl | exact hp.2.2) (by first | with_reducible assumption | with_reducible exact am_in_nI (by omega) (by decide) | with_reducible exact am_inb (by omega) (by omega) | with_reducible exact am_inb' (by omega) (by omega) | with_reducible exact am_in35 (by omega) | with_reducible exact am_inw (by omega) (by omega) | with_reducible decide) ?_
  try simp (disch := omega) only [am_clb, am_clb', am_cl35, am_clw, am_clN]
  refine w130_31 rfl ?_
  refine w130_32 rfl ?_
  refine w130_33 rfl ?_
  refine w130_34 (by first | with_reducible assumption | exact L.sh rfl | exact hh.sh rfl | exact hp.2.2) (by first | with_reducible assumption | with_reducible exact am_in_nI (by omega) (by decide) | with_reducible exact am_inb (by omega) (by omega) | with_reducible exact am_inb' (by omega) (by omega) | with_reducible exact am_in35 (by omega) | with_reducible exact am_inw (by omega) (by omega) | with_reducible decide) ?_
  try simp (disch := omega) only [am_clb, am_clb', am_cl35, am_clw, am_clN]
  refine w130_35 ?_
  rw [e]
  exact k
/-- firstOrder -/
theorem c127 {o : Nat} (hs : am_sh S o (20, 5)) (k : ∀ I' : Nat → Nat → Int32, (∀ a, a ≠ o → I' a = I a) → (∀ i, i < 5 → I' o i = nI i) → Q none (S, I', J, P)) : am_ev pr d 127 [.ref o] (S, I, J, P) Q := by
  show am_wp pr d 127 0 [(0, .ref o)] [] _ _
  refine w127_0 ?_
  refine w127_1 ?_
  refine am_for (fun b => ∀ I' : Nat → Nat → Int32, (∀ a, a ≠ o → I' a = I a) → (∀ i, i < b → I' o i = nI i) → ∀ lv, am_ld1 lv 0 = some (.ref o) → am_ld1 lv 1 = some (.int (nI b)) → am_wp pr (d) 127 2 lv [] (S, I', J, P) Q) 5 ?_ ?_ I (fun _ _ => rfl) (fun j hj => absurd hj (Nat.not_lt_zero j)) _ rfl rfl
  · intro b hb ih I' h1 h2 lv l0 l1
    have h3 : ∀ a, a ≠ o → am_u I' o b (nI b) a = I a := fun a ha => (am_u_ne ha).trans (h1 a ha)
    have h4 : ∀ j, j < b + 1 → am_u I' o b (nI b) o j = nI j := by
      intro j hj
      by_cases hjb : j = b
      · subst hjb
        exact am_u_self
      · rw [am_u_at hjb]
        exact h2 j (by omega)
    refine w127_2 l1 ?_
    refine w127_3 l0 ?_
    refine w127_4 hs (by decide) ?_
    refine w127_5 (fun h => absurd h (am_nlt (n := 5) hb (by decide))) (fun _ => ?_)
    refine w127_8 l0 ?_
    refine w127_9 l1 ?_
    refine w127_10 l1 ?_
    refine w127_11 (by first | with_reducible assumption | exact L.sh rfl | exact hh.sh rfl | exact hp.2.2) (by first | with_reducible assumption | with_reducible exact am_in_nI (by omega) (by decide) | with_reducible exact am_inb (by omega) (by omega) | with_reducible exact am_inb' (by omega) (by omega) | with_reducible exact am_in35 (by omega) | with_reducible exact am_inw (by omega) (by omega) | with_reducible decide) ?_
    try simp (disch := omega) only [am_clb, am_clb', am_cl35, am_clw, am_clN]
    refine w127_12 l1 ?_
    refine w127_15 ?_
    exact ih _ h3 h4 _ l0 (am_nx b)
  · intro I' h1 h2 lv l0 l1
    refine w127_2 l1 ?_
    refine w127_3 l0 ?_
    refine w127_4 hs (by decide) ?_
    refine w127_5 (fun _ => ?_) (fun h => absurd (Int32.le_refl _) h)
    refine w127_18 ?_
    exact k _ h1 h2
end
