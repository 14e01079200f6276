/-! contracts: House, Past, Tape -/
theorem am_in7 {n : Nat} (h : n < 7) : am_in (nI n) 7 = true := am_in_nI h (by decide)
theorem am_cl7 {n : Nat} (h : n < 7) : (nI n).toNatClampNeg = n := am_cln (by omega)
theorem am_in_lt {x : Int32} {n : Nat} {y : Int32} (h0 : 0 ≤ x) (h : x < y) (hy : y.toInt = n) : am_in x n = true := by
  rw [Int32.le_iff_toInt_le] at h0
  rw [Int32.lt_iff_toInt_lt] at h
  exact am_in_int h0 (by omega)
section
variable {pr : am_Pr} {d : Nat} {S : List (Nat × Nat)} {I : Nat → Nat → Int32} {J : Nat → Nat → Int64} {P : Nat → Nat → Option Nat} {Q : Option Value → am_H → Prop}
/-- hasLaw -/
theorem c109 {h : Nat} (hh : am_Hs S P h) {x : Int32} (k : Q (some (.int (am_b (0 ≤ x ∧ x < I h 3 ∧ x < 6)))) (S, I, J, P)) : am_ev pr d 109 [.ref h, .int x] (S, I, J, P) Q := by
  show am_wp pr d 109 0 [(0, .ref h), (1, .int x)] [] _ _
  refine w109_0 rfl ?_
  refine w109_1 (fun h1 => ?_) (fun h1 => ?_)
  · refine w109_22 ?_
    refine w109_23 (by first | rfl | exact am_narrow_b _) ?_
    first | exact am_kt k (by simp only [Int32.lt_iff_toInt_lt, Int32.le_iff_toInt_le, ← Int32.toInt_inj, am_z0, am_z1, am_z2, am_z3, am_z4, am_z5, am_z6, am_z7, am_z8, am_z9, am_z10, am_z12, am_z16, am_z20, am_z99, am_z999, am_zm1, am_zo4, am_zo5, am_zo7] at *; omega) | exact am_kf k (by simp only [Int32.lt_iff_toInt_lt, Int32.le_iff_toInt_le, ← Int32.toInt_inj, am_z0, am_z1, am_z2, am_z3, am_z4, am_z5, am_z6, am_z7, am_z8, am_z9, am_z10, am_z12, am_z16, am_z20, am_z99, am_z999, am_zm1, am_zo4, am_zo5, am_zo7] at *; omega)
  · replace h1 := Int32.not_lt.mp h1
    refine w109_4 rfl ?_
    refine w109_5 rfl ?_
    refine w109_6 ?_
    refine w109_9 (fun h9 => ?_) (fun h9 => ?_)
    · refine w109_22 ?_
      refine w109_23 (by first | rfl | exact am_narrow_b _) ?_
      first | exact am_kt k (by simp only [Int32.lt_iff_toInt_lt, Int32.le_iff_toInt_le, ← Int32.toInt_inj, am_z0, am_z1, am_z2, am_z3, am_z4, am_z5, am_z6, am_z7, am_z8, am_z9, am_z10, am_z12, am_z16, am_z20, am_z99, am_z999, am_zm1, am_zo4, am_zo5, am_zo7] at *; omega) | exact am_kf k (by simp only [Int32.lt_iff_toInt_lt, Int32.le_iff_toInt_le, ← Int32.toInt_inj, am_z0, am_z1, am_z2, am_z3, am_z4, am_z5, am_z6, am_z7, am_z8, am_z9, am_z10, am_z12, am_z16, am_z20, am_z99, am_z999, am_zm1, am_zo4, am_zo5, am_zo7] at *; omega)
    · replace h9 := Int32.not_le.mp h9
      refine w109_12 rfl ?_
      refine w109_13 ?_
      refine w109_15 (fun h15 => ?_) (fun h15 => ?_)
      · refine w109_22 ?_
        refine w109_23 (by first | rfl | exact am_narrow_b _) ?_
        first | exact am_kt k (by simp only [Int32.lt_iff_toInt_lt, Int32.le_iff_toInt_le, ← Int32.toInt_inj, am_z0, am_z1, am_z2, am_z3, am_z4, am_z5, am_z6, am_z7, am_z8, am_z9, am_z10, am_z12, am_z16, am_z20, am_z99, am_z999, am_zm1, am_zo4, am_zo5, am_zo7] at *; omega) | exact am_kf k (by simp only [Int32.lt_iff_toInt_lt, Int32.le_iff_toInt_le, ← Int32.toInt_inj, am_z0, am_z1, am_z2, am_z3, am_z4, am_z5, am_z6, am_z7, am_z8, am_z9, am_z10, am_z12, am_z16, am_z20, am_z99, am_z999, am_zm1, am_zo4, am_zo5, am_zo7] at *; omega)
      · replace h15 := Int32.not_le.mp h15
        refine w109_18 ?_
        refine w109_19 ?_
        refine w109_23 (by first | rfl | exact am_narrow_b _) ?_
        first | exact am_kt k (by simp only [Int32.lt_iff_toInt_lt, Int32.le_iff_toInt_le, ← Int32.toInt_inj, am_z0, am_z1, am_z2, am_z3, am_z4, am_z5, am_z6, am_z7, am_z8, am_z9, am_z10, am_z12, am_z16, am_z20, am_z99, am_z999, am_zm1, am_zo4, am_zo5, am_zo7] at *; omega) | exact am_kf k (by simp only [Int32.lt_iff_toInt_lt, Int32.le_iff_toInt_le, ← Int32.toInt_inj, am_z0, am_z1, am_z2, am_z3, am_z4, am_z5, am_z6, am_z7, am_z8, am_z9, am_z10, am_z12, am_z16, am_z20, am_z99, am_z999, am_zm1, am_zo4, am_zo5, am_zo7] at *; omega)
/-- lawAt -/
theorem c21 {h : Nat} (hh : am_Hs S P h) {x : Int32} (k1 : 0 ≤ x ∧ x < I h 3 ∧ x < 6 → Q (some (va_rf (P (h + 1 + 4) x.toNatClampNeg))) (S, I, J, P)) (k2 : ¬ (0 ≤ x ∧ x < I h 3 ∧ x < 6) → Q (some .null) (S, I, J, P)) : am_ev pr d 21 [.ref h, .int x] (S, I, J, P) Q := by
  show am_wp pr d 21 0 [(0, .ref h), (1, .int x)] [] _ _
  refine w21_0 rfl ?_
  refine w21_1 (fun h1 => ?_) (fun h1 => ?_)
  · refine w21_27 ?_
    exact w21_28N (k2 (by simp only [Int32.lt_iff_toInt_lt, Int32.le_iff_toInt_le, ← Int32.toInt_inj, am_z0, am_z1, am_z2, am_z3, am_z4, am_z5, am_z6, am_z7, am_z8, am_z9, am_z10, am_z12, am_z16, am_z20, am_z99, am_z999, am_zm1, am_zo4, am_zo5, am_zo7] at *; omega))
  · replace h1 := Int32.not_lt.mp h1
    refine w21_4 rfl ?_
    refine w21_5 rfl ?_
    refine w21_6 ?_
    refine w21_9 (fun h9 => ?_) (fun h9 => ?_)
    · refine w21_27 ?_
      exact w21_28N (k2 (by simp only [Int32.lt_iff_toInt_lt, Int32.le_iff_toInt_le, ← Int32.toInt_inj, am_z0, am_z1, am_z2, am_z3, am_z4, am_z5, am_z6, am_z7, am_z8, am_z9, am_z10, am_z12, am_z16, am_z20, am_z99, am_z999, am_zm1, am_zo4, am_zo5, am_zo7] at *; omega))
    · replace h9 := Int32.not_le.mp h9
      refine w21_12 rfl ?_
      refine w21_13 ?_
      refine w21_15 (fun h15 => ?_) (fun h15 => ?_)
      · refine w21_27 ?_
        exact w21_28N (k2 (by simp only [Int32.lt_iff_toInt_lt, Int32.le_iff_toInt_le, ← Int32.toInt_inj, am_z0, am_z1, am_z2, am_z3, am_z4, am_z5, am_z6, am_z7, am_z8, am_z9, am_z10, am_z12, am_z16, am_z20, am_z99, am_z999, am_zm1, am_zo4, am_zo5, am_zo7] at *; omega))
      · replace h15 := Int32.not_le.mp h15
        refine w21_18 rfl ?_
        refine w21_19 (hh.2.1 4 (by decide)) ?_
        refine w21_22 rfl ?_
        refine w21_23T (hh.sh rfl) (am_in_lt h1 h15 (by decide)) ?_
        have k3 := k1 ⟨h1, h9, h15⟩
        refine w21_24 ?_
        generalize P (h + 1 + 4) x.toNatClampNeg = q at k3 ⊢
        cases q with
        | none => exact w21_28N k3
        | some t => exact w21_28 k3
/-- addMember, while there is room -/
theorem c13 {h n : Nat} (hh : am_Hs S P h) {x y : Int32} (hn : I h 0 = nI n) (hn7 : n < 7) (k : ∀ I3 : Nat → Nat → Int32, I3 = am_it (fun b I' => am_u I' (h + 1 + 2) (n * 5 + b) 0) 5 (am_u (am_u I (h + 1 + 0) n x) (h + 1 + 1) n y) → Q (some (.int (nI n))) (S, am_u (am_u I3 h 1 (I3 h 1 ||| 1 <<< (nI n &&& 31))) h 0 (nI n + 1), J, P)) : am_ev pr d 13 [.ref h, .int x, .int y] (S, I, J, P) Q := by
  show am_wp pr d 13 0 [(0, .ref h), (1, .int x), (2, .int y)] [] _ _
  refine w13_0 rfl ?_
  refine w13_1 ?_
  rw [hn]
  refine w13_4 ?_
  refine w13_5 rfl ?_
  refine w13_6 (fun h => absurd h (nI_pos (by omega))) (fun _ => ?_)
  refine w13_9 rfl ?_
  refine w13_10 ?_
  refine w13_12 (fun _ => ?_) (fun h => absurd (nI_lt hn7 (by decide)) h)
  refine w13_17 rfl ?_
  refine w13_18 (hh.2.1 0 (by decide)) ?_
  refine w13_21 rfl ?_
  refine w13_22 rfl ?_
  refine w13_23 (hh.sh rfl) (am_in7 hn7) ?_
  rw [am_cl7 hn7]
  refine w13_24 rfl ?_
  refine w13_25 (hh.2.1 1 (by decide)) ?_
  refine w13_28 rfl ?_
  refine w13_29 rfl ?_
  refine w13_30 (hh.sh rfl) (am_in7 hn7) ?_
  rw [am_cl7 hn7]
  refine w13_31 ?_
  refine w13_32 ?_
  refine am_loop (α := Nat → Nat → Int32) (fun b I' => am_u I' (h + 1 + 2) (n * 5 + b) 0) (fun b I' => ∀ lv, am_ld1 lv 0 = some (.ref h) → am_ld1 lv 3 = some (.int (nI n)) → am_ld1 lv 4 = some (.int (nI b)) → am_wp pr (d) 13 34 lv [] (S, I', J, P) Q) 5 ?_ _ ?_ _ rfl rfl rfl
  · intro b I' hb ih lv l0 l3 l4
    refine w13_34 l4 ?_
    refine w13_36 ?_
    refine w13_37 (fun h => absurd h (am_nlt hb (by decide))) (fun _ => ?_)
    refine w13_40 l0 ?_
    refine w13_41 (hh.2.1 2 (by decide)) ?_
    refine w13_44 l3 ?_
    refine w13_45 ?_
    refine w13_46 ?_
    refine w13_47 l4 ?_
    refine w13_49 ?_
    refine w13_50 ?_
    refine w13_51 (hh.sh rfl) (am_inb hn7 hb) ?_
    rw [am_clb hn7 hb]
    refine w13_52 l4 ?_
    refine w13_55 ?_
    exact ih _ l0 l3 (am_nx b)
  · intro lv l0 l3 l4
    refine w13_34 l4 ?_
    refine w13_36 ?_
    refine w13_37 (fun _ => ?_) (fun h => absurd (Int32.le_refl _) h)
    refine w13_58 l0 ?_
    refine w13_59 rfl ?_
    refine w13_60 ?_
    refine w13_63 ?_
    refine w13_64 l3 ?_
    refine w13_65 ?_
    refine w13_66 ?_
    refine w13_67 ?_
    refine w13_70 l0 ?_
    refine w13_71 l3 ?_
    refine w13_72 ?_
    refine w13_73 ?_
    refine w13_74 ?_
    refine w13_77 l3 ?_
    refine w13_78 ?_
    exact k _ rfl
/-- addLaw, while there is room -/
theorem c93 {h n t : Nat} (hh : am_Hs S P h) (ht : am_sh S t (6, 9)) (hn : I h 3 = nI n) (hn6 : n < 6) (k : Q (some (.int (nI n))) (S, am_u I h 3 (nI n + 1), J, am_u P (h + 1 + 4) n (some t))) : am_ev pr d 93 [.ref h, .ref t] (S, I, J, P) Q := by
  show am_wp pr d 93 0 [(0, .ref h), (1, .ref t)] [] _ _
  refine w93_0 rfl ?_
  refine w93_1 ?_
  rw [hn]
  refine w93_4 ?_
  refine w93_5 rfl ?_
  refine w93_6 (fun h => absurd h (nI_pos (by omega))) (fun _ => ?_)
  refine w93_9 rfl ?_
  refine w93_10 ?_
  refine w93_12 (fun _ => ?_) (fun h => absurd (nI_lt hn6 (by decide)) h)
  refine w93_17 rfl ?_
  refine w93_18 (hh.2.1 4 (by decide)) ?_
  refine w93_21 rfl ?_
  refine w93_22 rfl ?_
  refine w93_23T (hh.sh rfl) (am_in_nI hn6 (by decide)) ht ?_
  rw [am_cln (show n < 2 ^ 31 by omega)]
  refine w93_24 rfl ?_
  refine w93_25 rfl ?_
  refine w93_26 ?_
  refine w93_27 ?_
  refine w93_28 ?_ (hs := hh.1)
  refine w93_31 rfl ?_
  refine w93_32 ?_
  exact k
/-- setWant of a member and a bill -/
theorem c156 {h n m b : Nat} (hh : am_Hs S P h) {x : Int32} (hn : I h 0 = nI n) (hn7 : n ≤ 7) (hm : m < n) (hb : b < 5) (k : Q none (S, am_u I (h + 1 + 2) (m * 5 + b) x, J, P)) : am_ev pr (d + 1) 156 [.ref h, .int (nI m), .int (nI b), .int x] (S, I, J, P) Q := by
  have hm7 : m < 7 := by omega
  show am_wp pr (d + 1) 156 0 [(0, .ref h), (1, .int (nI m)), (2, .int (nI b)), (3, .int x)] [] _ _
  refine w156_0 rfl ?_
  refine w156_1 rfl ?_
  refine w156_2 (k := c16 hh ?_)
  rw [hn, am_b_t ⟨nI_pos' (by omega), nI_lt hm (by omega), nI_lt hm7 (by decide)⟩]
  refine w156_5 (fun h => absurd h am_n01) (fun _ => ?_)
  refine w156_8 rfl ?_
  refine w156_9 (k := c18b hb ?_)
  refine w156_12 (fun h => absurd h am_n01) (fun _ => ?_)
  refine w156_15 rfl ?_
  refine w156_16 (hh.2.1 2 (by decide)) ?_
  refine w156_19 rfl ?_
  refine w156_20 ?_
  refine w156_21 ?_
  refine w156_22 rfl ?_
  refine w156_23 ?_
  refine w156_24 rfl ?_
  refine w156_25 (hh.sh rfl) (am_inb hm7 hb) ?_
  rw [am_clb hm7 hb]
  refine w156_26 ?_
  exact k
/-- nextDay -/
theorem c105 {h : Nat} (hh : am_Hs S P h) (k : ∀ I1 : Nat → Nat → Int32, I1 = am_u I (h + 1 + 3) 0 (I (h + 1 + 3) 0 + 1) → Q none (S, am_u I1 h 1 (1 <<< (I1 h 0 &&& 31) - 1), J, P)) : am_ev pr d 105 [.ref h] (S, I, J, P) Q := by
  show am_wp pr d 105 0 [(0, .ref h)] [] _ _
  refine w105_0 rfl ?_
  refine w105_1 (hh.2.1 3 (by decide)) ?_
  refine w105_4 ?_
  refine w105_5 ⟨rfl, rfl⟩ ?_
  refine w105_6 (hh.sh rfl) (by decide) ?_
  refine w105_7 ?_
  refine w105_8 ?_
  refine w105_9 (hh.sh rfl) (by decide) ?_
  refine w105_10 rfl ?_
  refine w105_11 ?_
  refine w105_12 rfl ?_
  refine w105_13 ?_
  refine w105_16 ?_
  refine w105_17 ?_
  refine w105_18 ?_
  refine w105_19 ?_
  refine w105_22 ?_
  exact k _ rfl
/-- Past: clear, copyFrom -/
theorem c12 {p : Nat} (hp : am_Pa S P p) (k : Q none (S, am_u I p 0 0, J, P)) : am_ev pr d 12 [.ref p] (S, I, J, P) Q := by
  show am_wp pr d 12 0 [(0, .ref p)] [] _ _
  refine w12_0 rfl ?_
  refine w12_1 ?_
  refine w12_2 ?_
  refine w12_5 ?_
  exact k
theorem c96 {p q : Nat} (hp : am_Pa S P p) (hq : am_Pa S P q) (k : ∀ I1 : Nat → Nat → Int32, I1 = am_u I p 0 (I q 0) → Q none (S, am_row I1 (p + 1) (va_cpy (I1 (q + 1)) (I1 (p + 1)) 0 0 48), J, P)) : am_ev pr (d + 1) 96 [.ref p, .ref q] (S, I, J, P) Q := by
  show am_wp pr (d + 1) 96 0 [(0, .ref p), (1, .ref q)] [] _ _
  refine w96_0 rfl ?_
  refine w96_1 rfl ?_
  refine w96_2 ?_
  refine w96_5 ?_
  refine w96_8 rfl ?_
  refine w96_9 hq.2.1 ?_
  refine w96_12 ?_
  refine w96_13 rfl ?_
  refine w96_14 hp.2.1 ?_
  refine w96_17 ?_
  refine w96_18 ?_
  refine w96_20 hq.2.2 hp.2.2 (by decide) (by decide) (by decide) (by decide) (by decide) ?_
  refine w96_23 ?_
  exact k _ rfl
/-- Past: keep -/
theorem c101 {p n : Nat} (hp : am_Pa S P p) {x y z : Int32} (hn : I p 0 = nI n) (hn16 : n ≤ 16) (k : ∀ (m : Nat) (I1 : Nat → Nat → Int32), (n < 16 ∧ m = n ∧ I1 = I ∨ n = 16 ∧ m = 15 ∧ I1 = am_u (am_row I (p + 1) (va_cpy (I (p + 1)) (I (p + 1)) 3 0 45)) p 0 15) → Q none (S, am_u (am_u (am_u (am_u I1 (p + 1) (3 * m) x) (p + 1) (3 * m + 1) y) (p + 1) (3 * m + 2) z) p 0 (nI m + 1), J, P)) : am_ev pr (d + 1) 101 [.ref p, .int x, .int y, .int z] (S, I, J, P) Q := by
  have key : ∀ (m : Nat) (I1 : Nat → Nat → Int32) (lv : List (Nat × Value)), m < 16 → I1 p 0 = nI m → (n < 16 ∧ m = n ∧ I1 = I ∨ n = 16 ∧ m = 15 ∧ I1 = am_u (am_row I (p + 1) (va_cpy (I (p + 1)) (I (p + 1)) 3 0 45)) p 0 15) → am_ld1 lv 0 = some (.ref p) → am_ld1 lv 1 = some (.int x) → am_ld1 lv 2 = some (.int y) → am_ld1 lv 3 = some (.int z) → am_wp pr (d + 1) 101 30 lv [] (S, I1, J, P) Q := by
    intro m I1 lv hm h0 hk l0 l1 l2 l3
    have e0 : nI m * 3 = nI (3 * m) := by rw [show (3 : Int32) = nI 3 from rfl, pk_mul, Nat.mul_comm]
    have e1 : nI (3 * m) + 1 = nI (3 * m + 1) := nI_1 _
    have e2 : nI (3 * m) + 2 = nI (3 * m + 2) := by rw [show (2 : Int32) = nI 2 from rfl, nI_add]
    have b0 : am_in (nI (3 * m)) 48 = true := am_in_nI (by omega) (by decide)
    have b1 : am_in (nI (3 * m + 1)) 48 = true := am_in_nI (by omega) (by decide)
    have b2 : am_in (nI (3 * m + 2)) 48 = true := am_in_nI (by omega) (by decide)
    have g0 : (nI (3 * m)).toNatClampNeg = 3 * m := am_cln (by omega)
    have g1 : (nI (3 * m + 1)).toNatClampNeg = 3 * m + 1 := am_cln (by omega)
    have g2 : (nI (3 * m + 2)).toNatClampNeg = 3 * m + 2 := am_cln (by omega)
    have hne : p ≠ p + 1 := by omega
    refine w101_30 l0 ?_
    refine w101_31 ?_
    rw [h0]
    refine w101_34 (fun _ => ?_) (fun h => absurd (nI_pos' (by omega)) h)
    refine w101_38 l0 ?_
    refine w101_39 ?_
    rw [h0]
    refine w101_42 ?_
    refine w101_43 ?_
    rw [e0]
    refine w101_44 ?_
    refine w101_46 l0 ?_
    refine w101_47 hp.2.1 ?_
    refine w101_50 rfl ?_
    refine w101_52 l1 ?_
    refine w101_53 hp.2.2 b0 ?_
    rw [g0]
    refine w101_54 l0 ?_
    refine w101_55 hp.2.1 ?_
    refine w101_58 rfl ?_
    refine w101_60 ?_
    refine w101_61 ?_
    rw [e1]
    refine w101_62 l2 ?_
    refine w101_63 hp.2.2 b1 ?_
    rw [g1]
    refine w101_64 l0 ?_
    refine w101_65 hp.2.1 ?_
    refine w101_68 rfl ?_
    refine w101_70 ?_
    refine w101_71 ?_
    rw [e2]
    refine w101_72 l3 ?_
    refine w101_73 hp.2.2 b2 ?_
    rw [g2]
    refine w101_74 l0 ?_
    refine w101_75 rfl ?_
    refine w101_76 ?_
    rw [am_u_off hne, am_u_off hne, am_u_off hne, h0]
    refine w101_79 ?_
    refine w101_80 ?_
    refine w101_81 ?_
    refine w101_84 ?_
    exact k m I1 hk
  show am_wp pr (d + 1) 101 0 [(0, .ref p), (1, .int x), (2, .int y), (3, .int z)] [] _ _
  by_cases h16 : n < 16
  · refine w101_0 rfl ?_
    refine w101_1 ?_
    rw [hn]
    refine w101_4 ?_
    refine w101_6 (fun _ => ?_) (fun h => absurd (nI_lt h16 (by decide)) h)
    exact key n I _ h16 hn (Or.inl ⟨h16, rfl, rfl⟩) rfl rfl rfl rfl
  · have hn2 : n = 16 := by omega
    subst hn2
    refine w101_0 rfl ?_
    refine w101_1 ?_
    rw [hn]
    refine w101_4 ?_
    refine w101_6 (fun h => absurd h (by decide)) (fun _ => ?_)
    refine w101_9 rfl ?_
    refine w101_10 hp.2.1 ?_
    refine w101_13 ?_
    refine w101_14 rfl ?_
    refine w101_15 hp.2.1 ?_
    refine w101_18 ?_
    refine w101_19 ?_
    refine w101_21 hp.2.2 hp.2.2 (by decide) (by decide) (by decide) (by decide) (by decide) ?_
    refine w101_24 rfl ?_
    refine w101_25 ?_
    refine w101_27 ?_
    exact key 15 _ _ (by decide) am_u_self (Or.inr ⟨rfl, rfl, rfl⟩) rfl rfl rfl rfl
end
