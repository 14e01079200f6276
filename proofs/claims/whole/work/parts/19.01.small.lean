/-! contracts: small methods of the class -/
/-- 1 or 0 -/
def am_b (p : Prop) [Decidable p] : Int32 := if p then 1 else 0
theorem am_b_t {p : Prop} [Decidable p] (h : p) : am_b p = 1 := if_pos h
theorem am_b_f {p : Prop} [Decidable p] (h : ¬ p) : am_b p = 0 := if_neg h
theorem am_b_n (p : Prop) [Decidable p] : narrow .boolean (.int (am_b p)) = .int (am_b p) := by unfold am_b; split <;> rfl
theorem am_b_0 (p : Prop) [Decidable p] : am_b p = 0 ↔ ¬ p := by
  unfold am_b
  split
  · rename_i h; exact ⟨fun e => absurd e (by decide), fun e => absurd h e⟩
  · rename_i h; exact ⟨fun _ => h, fun _ => rfl⟩
theorem am_z0 : (0 : Int32).toInt = 0 := by decide
theorem am_z1 : (1 : Int32).toInt = 1 := by decide
theorem am_z2 : (2 : Int32).toInt = 2 := by decide
theorem am_z3 : (3 : Int32).toInt = 3 := by decide
theorem am_z4 : (4 : Int32).toInt = 4 := by decide
theorem am_z5 : (5 : Int32).toInt = 5 := by decide
theorem am_z6 : (6 : Int32).toInt = 6 := by decide
theorem am_z7 : (7 : Int32).toInt = 7 := by decide
theorem am_z8 : (8 : Int32).toInt = 8 := by decide
theorem am_z9 : (9 : Int32).toInt = 9 := by decide
theorem am_z10 : (10 : Int32).toInt = 10 := by decide
theorem am_z12 : (12 : Int32).toInt = 12 := by decide
theorem am_z16 : (16 : Int32).toInt = 16 := by decide
theorem am_z20 : (20 : Int32).toInt = 20 := by decide
theorem am_z99 : (99 : Int32).toInt = 99 := by decide
theorem am_z999 : (999 : Int32).toInt = 999 := by decide
theorem am_zm1 : (-1 : Int32).toInt = -1 := by decide
theorem am_zo4 : (Int32.ofNat 4).toInt = 4 := by decide
theorem am_zo5 : (Int32.ofNat 5).toInt = 5 := by decide
theorem am_zo7 : (Int32.ofNat 7).toInt = 7 := by decide
theorem am_neg6 {x : Int32} (h0 : x < 0) (h : -7 < x) : 0 ≤ -x ∧ -x < 7 := by
  have h1 : x = -1 ∨ x = -2 ∨ x = -3 ∨ x = -4 ∨ x = -5 ∨ x = -6 := by
    rw [Int32.lt_iff_toInt_lt] at h0 h
    simp only [← Int32.toInt_inj]
    have a1 : (0 : Int32).toInt = 0 := by decide
    have a2 : (-7 : Int32).toInt = -7 := by decide
    have a3 : (-1 : Int32).toInt = -1 := by decide
    have a4 : (-2 : Int32).toInt = -2 := by decide
    have a5 : (-3 : Int32).toInt = -3 := by decide
    have a6 : (-4 : Int32).toInt = -4 := by decide
    have a7 : (-5 : Int32).toInt = -5 := by decide
    have a8 : (-6 : Int32).toInt = -6 := by decide
    omega
  rcases h1 with rfl | rfl | rfl | rfl | rfl | rfl <;> decide
theorem am_kt {p : Prop} [Decidable p] {Q : Option Value → am_H → Prop} {σ : am_H} (k : Q (some (.int (am_b p))) σ) (h : p) : Q (some (.int 1)) σ := by rw [am_b_t h] at k; exact k
theorem am_kf {p : Prop} [Decidable p] {Q : Option Value → am_H → Prop} {σ : am_H} (k : Q (some (.int (am_b p))) σ) (h : ¬ p) : Q (some (.int 0)) σ := by rw [am_b_f h] at k; exact k
section
variable {pr : am_Pr} {d : Nat} {S : List (Nat × Nat)} {I : Nat → Nat → Int32} {J : Nat → Nat → Int64} {P : Nat → Nat → Option Nat} {Q : Option Value → am_H → Prop}
/-- isBill -/
theorem c18 {x : Int32} (k : Q (some (.int (am_b (0 ≤ x ∧ x < 5)))) (S, I, J, P)) : am_ev pr d 18 [.int x] (S, I, J, P) Q := by
  show am_wp pr d 18 0 [(0, .int x)] [] _ _
  refine w18_0 rfl ?_
  refine w18_1 (fun h1 => ?_) (fun h1 => ?_)
  · refine w18_13 ?_
    refine w18_14 (by first | rfl | exact am_narrow_b _) ?_
    first | exact am_kt k (by simp only [Int32.lt_iff_toInt_lt, Int32.le_iff_toInt_le, ← Int32.toInt_inj, am_z0, am_z1, am_z2, am_z3, am_z4, am_z5, am_z6, am_z7, am_z8, am_z9, am_z10, am_z12, am_z16, am_z20, am_z99, am_z999, am_zm1, am_zo4, am_zo5, am_zo7] at *; omega) | exact am_kf k (by simp only [Int32.lt_iff_toInt_lt, Int32.le_iff_toInt_le, ← Int32.toInt_inj, am_z0, am_z1, am_z2, am_z3, am_z4, am_z5, am_z6, am_z7, am_z8, am_z9, am_z10, am_z12, am_z16, am_z20, am_z99, am_z999, am_zm1, am_zo4, am_zo5, am_zo7] at *; omega)
  · replace h1 := Int32.not_lt.mp h1
    refine w18_4 rfl ?_
    refine w18_5 ?_
    refine w18_6 (fun h6 => ?_) (fun h6 => ?_)
    · refine w18_13 ?_
      refine w18_14 (by first | rfl | exact am_narrow_b _) ?_
      first | exact am_kt k (by simp only [Int32.lt_iff_toInt_lt, Int32.le_iff_toInt_le, ← Int32.toInt_inj, am_z0, am_z1, am_z2, am_z3, am_z4, am_z5, am_z6, am_z7, am_z8, am_z9, am_z10, am_z12, am_z16, am_z20, am_z99, am_z999, am_zm1, am_zo4, am_zo5, am_zo7] at *; omega) | exact am_kf k (by simp only [Int32.lt_iff_toInt_lt, Int32.le_iff_toInt_le, ← Int32.toInt_inj, am_z0, am_z1, am_z2, am_z3, am_z4, am_z5, am_z6, am_z7, am_z8, am_z9, am_z10, am_z12, am_z16, am_z20, am_z99, am_z999, am_zm1, am_zo4, am_zo5, am_zo7] at *; omega)
    · replace h6 := Int32.not_le.mp h6
      refine w18_9 ?_
      refine w18_10 ?_
      refine w18_14 (by first | rfl | exact am_narrow_b _) ?_
      first | exact am_kt k (by simp only [Int32.lt_iff_toInt_lt, Int32.le_iff_toInt_le, ← Int32.toInt_inj, am_z0, am_z1, am_z2, am_z3, am_z4, am_z5, am_z6, am_z7, am_z8, am_z9, am_z10, am_z12, am_z16, am_z20, am_z99, am_z999, am_zm1, am_zo4, am_zo5, am_zo7] at *; omega) | exact am_kf k (by simp only [Int32.lt_iff_toInt_lt, Int32.le_iff_toInt_le, ← Int32.toInt_inj, am_z0, am_z1, am_z2, am_z3, am_z4, am_z5, am_z6, am_z7, am_z8, am_z9, am_z10, am_z12, am_z16, am_z20, am_z99, am_z999, am_zm1, am_zo4, am_zo5, am_zo7] at *; omega)
/-- bitOf -/
theorem c17 {x y : Int32} (k : Q (some (.int (x >>> (y &&& 31) &&& 1))) (S, I, J, P)) : am_ev pr d 17 [.int x, .int y] (S, I, J, P) Q := by
  show am_wp pr d 17 0 [(0, .int x), (1, .int y)] [] _ _
  refine w17_0 rfl ?_
  refine w17_1 rfl ?_
  refine w17_2 ?_
  refine w17_3 ?_
  refine w17_4 ?_
  refine w17_5 ?_
  exact k
/-- taken -/
theorem c14 (L : am_Lay S P) {x : Int32} (k : Q (some (.int x)) (S, am_u I 64 16 0, J, P)) : am_ev pr d 14 [.ref 64, .int x] (S, I, J, P) Q := by
  show am_wp pr d 14 0 [(0, .ref 64), (1, .int x)] [] _ _
  refine w14_0 rfl ?_
  refine w14_1 ?_
  refine w14_2 ?_
  refine w14_5 rfl ?_
  refine w14_6 ?_
  exact k
/-- hasMember -/
theorem c16 {h : Nat} (hh : am_Hs S P h) {x : Int32} (k : Q (some (.int (am_b (0 ≤ x ∧ x < I h 0 ∧ x < 7)))) (S, I, J, P)) : am_ev pr d 16 [.ref h, .int x] (S, I, J, P) Q := by
  show am_wp pr d 16 0 [(0, .ref h), (1, .int x)] [] _ _
  refine w16_0 rfl ?_
  refine w16_1 (fun h1 => ?_) (fun h1 => ?_)
  · refine w16_22 ?_
    refine w16_23 (by first | rfl | exact am_narrow_b _) ?_
    first | exact am_kt k (by simp only [Int32.lt_iff_toInt_lt, Int32.le_iff_toInt_le, ← Int32.toInt_inj, am_z0, am_z1, am_z2, am_z3, am_z4, am_z5, am_z6, am_z7, am_z8, am_z9, am_z10, am_z12, am_z16, am_z20, am_z99, am_z999, am_zm1, am_zo4, am_zo5, am_zo7] at *; omega) | exact am_kf k (by simp only [Int32.lt_iff_toInt_lt, Int32.le_iff_toInt_le, ← Int32.toInt_inj, am_z0, am_z1, am_z2, am_z3, am_z4, am_z5, am_z6, am_z7, am_z8, am_z9, am_z10, am_z12, am_z16, am_z20, am_z99, am_z999, am_zm1, am_zo4, am_zo5, am_zo7] at *; omega)
  · replace h1 := Int32.not_lt.mp h1
    refine w16_4 rfl ?_
    refine w16_5 rfl ?_
    refine w16_6 ?_
    refine w16_9 (fun h9 => ?_) (fun h9 => ?_)
    · refine w16_22 ?_
      refine w16_23 (by first | rfl | exact am_narrow_b _) ?_
      first | exact am_kt k (by simp only [Int32.lt_iff_toInt_lt, Int32.le_iff_toInt_le, ← Int32.toInt_inj, am_z0, am_z1, am_z2, am_z3, am_z4, am_z5, am_z6, am_z7, am_z8, am_z9, am_z10, am_z12, am_z16, am_z20, am_z99, am_z999, am_zm1, am_zo4, am_zo5, am_zo7] at *; omega) | exact am_kf k (by simp only [Int32.lt_iff_toInt_lt, Int32.le_iff_toInt_le, ← Int32.toInt_inj, am_z0, am_z1, am_z2, am_z3, am_z4, am_z5, am_z6, am_z7, am_z8, am_z9, am_z10, am_z12, am_z16, am_z20, am_z99, am_z999, am_zm1, am_zo4, am_zo5, am_zo7] at *; omega)
    · replace h9 := Int32.not_le.mp h9
      refine w16_12 rfl ?_
      refine w16_13 ?_
      refine w16_15 (fun h15 => ?_) (fun h15 => ?_)
      · refine w16_22 ?_
        refine w16_23 (by first | rfl | exact am_narrow_b _) ?_
        first | exact am_kt k (by simp only [Int32.lt_iff_toInt_lt, Int32.le_iff_toInt_le, ← Int32.toInt_inj, am_z0, am_z1, am_z2, am_z3, am_z4, am_z5, am_z6, am_z7, am_z8, am_z9, am_z10, am_z12, am_z16, am_z20, am_z99, am_z999, am_zm1, am_zo4, am_zo5, am_zo7] at *; omega) | exact am_kf k (by simp only [Int32.lt_iff_toInt_lt, Int32.le_iff_toInt_le, ← Int32.toInt_inj, am_z0, am_z1, am_z2, am_z3, am_z4, am_z5, am_z6, am_z7, am_z8, am_z9, am_z10, am_z12, am_z16, am_z20, am_z99, am_z999, am_zm1, am_zo4, am_zo5, am_zo7] at *; omega)
      · replace h15 := Int32.not_le.mp h15
        refine w16_18 ?_
        refine w16_19 ?_
        refine w16_23 (by first | rfl | exact am_narrow_b _) ?_
        first | exact am_kt k (by simp only [Int32.lt_iff_toInt_lt, Int32.le_iff_toInt_le, ← Int32.toInt_inj, am_z0, am_z1, am_z2, am_z3, am_z4, am_z5, am_z6, am_z7, am_z8, am_z9, am_z10, am_z12, am_z16, am_z20, am_z99, am_z999, am_zm1, am_zo4, am_zo5, am_zo7] at *; omega) | exact am_kf k (by simp only [Int32.lt_iff_toInt_lt, Int32.le_iff_toInt_le, ← Int32.toInt_inj, am_z0, am_z1, am_z2, am_z3, am_z4, am_z5, am_z6, am_z7, am_z8, am_z9, am_z10, am_z12, am_z16, am_z20, am_z99, am_z999, am_zm1, am_zo4, am_zo5, am_zo7] at *; omega)
/-- isWant -/
theorem c46 {x : Int32} (k : Q (some (.int (am_b (0 ≤ x ∧ x ≤ 9)))) (S, I, J, P)) : am_ev pr d 46 [.int x] (S, I, J, P) Q := by
  show am_wp pr d 46 0 [(0, .int x)] [] _ _
  refine w46_0 rfl ?_
  refine w46_1 (fun h1 => ?_) (fun h1 => ?_)
  · refine w46_14 ?_
    refine w46_15 (by first | rfl | exact am_narrow_b _) ?_
    first | exact am_kt k (by simp only [Int32.lt_iff_toInt_lt, Int32.le_iff_toInt_le, ← Int32.toInt_inj, am_z0, am_z1, am_z2, am_z3, am_z4, am_z5, am_z6, am_z7, am_z8, am_z9, am_z10, am_z12, am_z16, am_z20, am_z99, am_z999, am_zm1, am_zo4, am_zo5, am_zo7] at *; omega) | exact am_kf k (by simp only [Int32.lt_iff_toInt_lt, Int32.le_iff_toInt_le, ← Int32.toInt_inj, am_z0, am_z1, am_z2, am_z3, am_z4, am_z5, am_z6, am_z7, am_z8, am_z9, am_z10, am_z12, am_z16, am_z20, am_z99, am_z999, am_zm1, am_zo4, am_zo5, am_zo7] at *; omega)
  · replace h1 := Int32.not_lt.mp h1
    refine w46_4 rfl ?_
    refine w46_5 ?_
    refine w46_7 (fun h7 => ?_) (fun h7 => ?_)
    · refine w46_14 ?_
      refine w46_15 (by first | rfl | exact am_narrow_b _) ?_
      first | exact am_kt k (by simp only [Int32.lt_iff_toInt_lt, Int32.le_iff_toInt_le, ← Int32.toInt_inj, am_z0, am_z1, am_z2, am_z3, am_z4, am_z5, am_z6, am_z7, am_z8, am_z9, am_z10, am_z12, am_z16, am_z20, am_z99, am_z999, am_zm1, am_zo4, am_zo5, am_zo7] at *; omega) | exact am_kf k (by simp only [Int32.lt_iff_toInt_lt, Int32.le_iff_toInt_le, ← Int32.toInt_inj, am_z0, am_z1, am_z2, am_z3, am_z4, am_z5, am_z6, am_z7, am_z8, am_z9, am_z10, am_z12, am_z16, am_z20, am_z99, am_z999, am_zm1, am_zo4, am_zo5, am_zo7] at *; omega)
    · replace h7 := Int32.not_lt.mp h7
      refine w46_10 ?_
      refine w46_11 ?_
      refine w46_15 (by first | rfl | exact am_narrow_b _) ?_
      first | exact am_kt k (by simp only [Int32.lt_iff_toInt_lt, Int32.le_iff_toInt_le, ← Int32.toInt_inj, am_z0, am_z1, am_z2, am_z3, am_z4, am_z5, am_z6, am_z7, am_z8, am_z9, am_z10, am_z12, am_z16, am_z20, am_z99, am_z999, am_zm1, am_zo4, am_zo5, am_zo7] at *; omega) | exact am_kf k (by simp only [Int32.lt_iff_toInt_lt, Int32.le_iff_toInt_le, ← Int32.toInt_inj, am_z0, am_z1, am_z2, am_z3, am_z4, am_z5, am_z6, am_z7, am_z8, am_z9, am_z10, am_z12, am_z16, am_z20, am_z99, am_z999, am_zm1, am_zo4, am_zo5, am_zo7] at *; omega)
/-- canBeMember -/
theorem c10 {x y : Int32} (k : Q (some (.int (am_b (1 ≤ x ∧ x ≤ 9 ∧ 0 ≤ y ∧ y ≤ 3)))) (S, I, J, P)) : am_ev pr d 10 [.int x, .int y] (S, I, J, P) Q := by
  show am_wp pr d 10 0 [(0, .int x), (1, .int y)] [] _ _
  refine w10_0 rfl ?_
  refine w10_1 ?_
  refine w10_2 (fun h2 => ?_) (fun h2 => ?_)
  · refine w10_24 ?_
    refine w10_25 (by first | rfl | exact am_narrow_b _) ?_
    first | exact am_kt k (by simp only [Int32.lt_iff_toInt_lt, Int32.le_iff_toInt_le, ← Int32.toInt_inj, am_z0, am_z1, am_z2, am_z3, am_z4, am_z5, am_z6, am_z7, am_z8, am_z9, am_z10, am_z12, am_z16, am_z20, am_z99, am_z999, am_zm1, am_zo4, am_zo5, am_zo7] at *; omega) | exact am_kf k (by simp only [Int32.lt_iff_toInt_lt, Int32.le_iff_toInt_le, ← Int32.toInt_inj, am_z0, am_z1, am_z2, am_z3, am_z4, am_z5, am_z6, am_z7, am_z8, am_z9, am_z10, am_z12, am_z16, am_z20, am_z99, am_z999, am_zm1, am_zo4, am_zo5, am_zo7] at *; omega)
  · replace h2 := Int32.not_lt.mp h2
    refine w10_5 rfl ?_
    refine w10_6 ?_
    refine w10_8 (fun h8 => ?_) (fun h8 => ?_)
    · refine w10_24 ?_
      refine w10_25 (by first | rfl | exact am_narrow_b _) ?_
      first | exact am_kt k (by simp only [Int32.lt_iff_toInt_lt, Int32.le_iff_toInt_le, ← Int32.toInt_inj, am_z0, am_z1, am_z2, am_z3, am_z4, am_z5, am_z6, am_z7, am_z8, am_z9, am_z10, am_z12, am_z16, am_z20, am_z99, am_z999, am_zm1, am_zo4, am_zo5, am_zo7] at *; omega) | exact am_kf k (by simp only [Int32.lt_iff_toInt_lt, Int32.le_iff_toInt_le, ← Int32.toInt_inj, am_z0, am_z1, am_z2, am_z3, am_z4, am_z5, am_z6, am_z7, am_z8, am_z9, am_z10, am_z12, am_z16, am_z20, am_z99, am_z999, am_zm1, am_zo4, am_zo5, am_zo7] at *; omega)
    · replace h8 := Int32.not_lt.mp h8
      refine w10_11 rfl ?_
      refine w10_12 (fun h12 => ?_) (fun h12 => ?_)
      · refine w10_24 ?_
        refine w10_25 (by first | rfl | exact am_narrow_b _) ?_
        first | exact am_kt k (by simp only [Int32.lt_iff_toInt_lt, Int32.le_iff_toInt_le, ← Int32.toInt_inj, am_z0, am_z1, am_z2, am_z3, am_z4, am_z5, am_z6, am_z7, am_z8, am_z9, am_z10, am_z12, am_z16, am_z20, am_z99, am_z999, am_zm1, am_zo4, am_zo5, am_zo7] at *; omega) | exact am_kf k (by simp only [Int32.lt_iff_toInt_lt, Int32.le_iff_toInt_le, ← Int32.toInt_inj, am_z0, am_z1, am_z2, am_z3, am_z4, am_z5, am_z6, am_z7, am_z8, am_z9, am_z10, am_z12, am_z16, am_z20, am_z99, am_z999, am_zm1, am_zo4, am_zo5, am_zo7] at *; omega)
      · replace h12 := Int32.not_lt.mp h12
        refine w10_15 rfl ?_
        refine w10_16 ?_
        refine w10_17 (fun h17 => ?_) (fun h17 => ?_)
        · refine w10_24 ?_
          refine w10_25 (by first | rfl | exact am_narrow_b _) ?_
          first | exact am_kt k (by simp only [Int32.lt_iff_toInt_lt, Int32.le_iff_toInt_le, ← Int32.toInt_inj, am_z0, am_z1, am_z2, am_z3, am_z4, am_z5, am_z6, am_z7, am_z8, am_z9, am_z10, am_z12, am_z16, am_z20, am_z99, am_z999, am_zm1, am_zo4, am_zo5, am_zo7] at *; omega) | exact am_kf k (by simp only [Int32.lt_iff_toInt_lt, Int32.le_iff_toInt_le, ← Int32.toInt_inj, am_z0, am_z1, am_z2, am_z3, am_z4, am_z5, am_z6, am_z7, am_z8, am_z9, am_z10, am_z12, am_z16, am_z20, am_z99, am_z999, am_zm1, am_zo4, am_zo5, am_zo7] at *; omega)
        · replace h17 := Int32.not_lt.mp h17
          refine w10_20 ?_
          refine w10_21 ?_
          refine w10_25 (by first | rfl | exact am_narrow_b _) ?_
          first | exact am_kt k (by simp only [Int32.lt_iff_toInt_lt, Int32.le_iff_toInt_le, ← Int32.toInt_inj, am_z0, am_z1, am_z2, am_z3, am_z4, am_z5, am_z6, am_z7, am_z8, am_z9, am_z10, am_z12, am_z16, am_z20, am_z99, am_z999, am_zm1, am_zo4, am_zo5, am_zo7] at *; omega) | exact am_kf k (by simp only [Int32.lt_iff_toInt_lt, Int32.le_iff_toInt_le, ← Int32.toInt_inj, am_z0, am_z1, am_z2, am_z3, am_z4, am_z5, am_z6, am_z7, am_z8, am_z9, am_z10, am_z12, am_z16, am_z20, am_z99, am_z999, am_zm1, am_zo4, am_zo5, am_zo7] at *; omega)
/-- hasSeat -/
theorem c39 {x : Int32} (k : Q (some (.int (am_b (0 ≤ x ∧ x < 7)))) (S, I, J, P)) : am_ev pr d 39 [.int x] (S, I, J, P) Q := by
  show am_wp pr d 39 0 [(0, .int x)] [] _ _
  refine w39_0 rfl ?_
  refine w39_1 (fun h1 => ?_) (fun h1 => ?_)
  · refine w39_14 ?_
    refine w39_15 (by first | rfl | exact am_narrow_b _) ?_
    first | exact am_kt k (by simp only [Int32.lt_iff_toInt_lt, Int32.le_iff_toInt_le, ← Int32.toInt_inj, am_z0, am_z1, am_z2, am_z3, am_z4, am_z5, am_z6, am_z7, am_z8, am_z9, am_z10, am_z12, am_z16, am_z20, am_z99, am_z999, am_zm1, am_zo4, am_zo5, am_zo7] at *; omega) | exact am_kf k (by simp only [Int32.lt_iff_toInt_lt, Int32.le_iff_toInt_le, ← Int32.toInt_inj, am_z0, am_z1, am_z2, am_z3, am_z4, am_z5, am_z6, am_z7, am_z8, am_z9, am_z10, am_z12, am_z16, am_z20, am_z99, am_z999, am_zm1, am_zo4, am_zo5, am_zo7] at *; omega)
  · replace h1 := Int32.not_lt.mp h1
    refine w39_4 rfl ?_
    refine w39_5 ?_
    refine w39_7 (fun h7 => ?_) (fun h7 => ?_)
    · refine w39_14 ?_
      refine w39_15 (by first | rfl | exact am_narrow_b _) ?_
      first | exact am_kt k (by simp only [Int32.lt_iff_toInt_lt, Int32.le_iff_toInt_le, ← Int32.toInt_inj, am_z0, am_z1, am_z2, am_z3, am_z4, am_z5, am_z6, am_z7, am_z8, am_z9, am_z10, am_z12, am_z16, am_z20, am_z99, am_z999, am_zm1, am_zo4, am_zo5, am_zo7] at *; omega) | exact am_kf k (by simp only [Int32.lt_iff_toInt_lt, Int32.le_iff_toInt_le, ← Int32.toInt_inj, am_z0, am_z1, am_z2, am_z3, am_z4, am_z5, am_z6, am_z7, am_z8, am_z9, am_z10, am_z12, am_z16, am_z20, am_z99, am_z999, am_zm1, am_zo4, am_zo5, am_zo7] at *; omega)
    · replace h7 := Int32.not_le.mp h7
      refine w39_10 ?_
      refine w39_11 ?_
      refine w39_15 (by first | rfl | exact am_narrow_b _) ?_
      first | exact am_kt k (by simp only [Int32.lt_iff_toInt_lt, Int32.le_iff_toInt_le, ← Int32.toInt_inj, am_z0, am_z1, am_z2, am_z3, am_z4, am_z5, am_z6, am_z7, am_z8, am_z9, am_z10, am_z12, am_z16, am_z20, am_z99, am_z999, am_zm1, am_zo4, am_zo5, am_zo7] at *; omega) | exact am_kf k (by simp only [Int32.lt_iff_toInt_lt, Int32.le_iff_toInt_le, ← Int32.toInt_inj, am_z0, am_z1, am_z2, am_z3, am_z4, am_z5, am_z6, am_z7, am_z8, am_z9, am_z10, am_z12, am_z16, am_z20, am_z99, am_z999, am_zm1, am_zo4, am_zo5, am_zo7] at *; omega)
/-- isLetter, isDigit -/
theorem c51 {x : Int32} (k : Q (some (.int (am_b (97 ≤ x ∧ x ≤ 122)))) (S, I, J, P)) : am_ev pr d 51 [.int x] (S, I, J, P) Q := by
  show am_wp pr d 51 0 [(0, .int x)] [] _ _
  refine w51_0 rfl ?_
  refine w51_1 ?_
  refine w51_3 (fun h3 => ?_) (fun h3 => ?_)
  · refine w51_16 ?_
    refine w51_17 (by first | rfl | exact am_narrow_b _) ?_
    first | exact am_kt k (by simp only [Int32.lt_iff_toInt_lt, Int32.le_iff_toInt_le, ← Int32.toInt_inj, am_z0, am_z1, am_z2, am_z3, am_z4, am_z5, am_z6, am_z7, am_z8, am_z9, am_z10, am_z12, am_z16, am_z20, am_z99, am_z999, am_zm1, am_zo4, am_zo5, am_zo7] at *; omega) | exact am_kf k (by simp only [Int32.lt_iff_toInt_lt, Int32.le_iff_toInt_le, ← Int32.toInt_inj, am_z0, am_z1, am_z2, am_z3, am_z4, am_z5, am_z6, am_z7, am_z8, am_z9, am_z10, am_z12, am_z16, am_z20, am_z99, am_z999, am_zm1, am_zo4, am_zo5, am_zo7] at *; omega)
  · replace h3 := Int32.not_lt.mp h3
    refine w51_6 rfl ?_
    refine w51_7 ?_
    refine w51_9 (fun h9 => ?_) (fun h9 => ?_)
    · refine w51_16 ?_
      refine w51_17 (by first | rfl | exact am_narrow_b _) ?_
      first | exact am_kt k (by simp only [Int32.lt_iff_toInt_lt, Int32.le_iff_toInt_le, ← Int32.toInt_inj, am_z0, am_z1, am_z2, am_z3, am_z4, am_z5, am_z6, am_z7, am_z8, am_z9, am_z10, am_z12, am_z16, am_z20, am_z99, am_z999, am_zm1, am_zo4, am_zo5, am_zo7] at *; omega) | exact am_kf k (by simp only [Int32.lt_iff_toInt_lt, Int32.le_iff_toInt_le, ← Int32.toInt_inj, am_z0, am_z1, am_z2, am_z3, am_z4, am_z5, am_z6, am_z7, am_z8, am_z9, am_z10, am_z12, am_z16, am_z20, am_z99, am_z999, am_zm1, am_zo4, am_zo5, am_zo7] at *; omega)
    · replace h9 := Int32.not_lt.mp h9
      refine w51_12 ?_
      refine w51_13 ?_
      refine w51_17 (by first | rfl | exact am_narrow_b _) ?_
      first | exact am_kt k (by simp only [Int32.lt_iff_toInt_lt, Int32.le_iff_toInt_le, ← Int32.toInt_inj, am_z0, am_z1, am_z2, am_z3, am_z4, am_z5, am_z6, am_z7, am_z8, am_z9, am_z10, am_z12, am_z16, am_z20, am_z99, am_z999, am_zm1, am_zo4, am_zo5, am_zo7] at *; omega) | exact am_kf k (by simp only [Int32.lt_iff_toInt_lt, Int32.le_iff_toInt_le, ← Int32.toInt_inj, am_z0, am_z1, am_z2, am_z3, am_z4, am_z5, am_z6, am_z7, am_z8, am_z9, am_z10, am_z12, am_z16, am_z20, am_z99, am_z999, am_zm1, am_zo4, am_zo5, am_zo7] at *; omega)
theorem c67 {x : Int32} (k : Q (some (.int (am_b (48 ≤ x ∧ x ≤ 57)))) (S, I, J, P)) : am_ev pr d 67 [.int x] (S, I, J, P) Q := by
  show am_wp pr d 67 0 [(0, .int x)] [] _ _
  refine w67_0 rfl ?_
  refine w67_1 ?_
  refine w67_3 (fun h3 => ?_) (fun h3 => ?_)
  · refine w67_16 ?_
    refine w67_17 (by first | rfl | exact am_narrow_b _) ?_
    first | exact am_kt k (by simp only [Int32.lt_iff_toInt_lt, Int32.le_iff_toInt_le, ← Int32.toInt_inj, am_z0, am_z1, am_z2, am_z3, am_z4, am_z5, am_z6, am_z7, am_z8, am_z9, am_z10, am_z12, am_z16, am_z20, am_z99, am_z999, am_zm1, am_zo4, am_zo5, am_zo7] at *; omega) | exact am_kf k (by simp only [Int32.lt_iff_toInt_lt, Int32.le_iff_toInt_le, ← Int32.toInt_inj, am_z0, am_z1, am_z2, am_z3, am_z4, am_z5, am_z6, am_z7, am_z8, am_z9, am_z10, am_z12, am_z16, am_z20, am_z99, am_z999, am_zm1, am_zo4, am_zo5, am_zo7] at *; omega)
  · replace h3 := Int32.not_lt.mp h3
    refine w67_6 rfl ?_
    refine w67_7 ?_
    refine w67_9 (fun h9 => ?_) (fun h9 => ?_)
    · refine w67_16 ?_
      refine w67_17 (by first | rfl | exact am_narrow_b _) ?_
      first | exact am_kt k (by simp only [Int32.lt_iff_toInt_lt, Int32.le_iff_toInt_le, ← Int32.toInt_inj, am_z0, am_z1, am_z2, am_z3, am_z4, am_z5, am_z6, am_z7, am_z8, am_z9, am_z10, am_z12, am_z16, am_z20, am_z99, am_z999, am_zm1, am_zo4, am_zo5, am_zo7] at *; omega) | exact am_kf k (by simp only [Int32.lt_iff_toInt_lt, Int32.le_iff_toInt_le, ← Int32.toInt_inj, am_z0, am_z1, am_z2, am_z3, am_z4, am_z5, am_z6, am_z7, am_z8, am_z9, am_z10, am_z12, am_z16, am_z20, am_z99, am_z999, am_zm1, am_zo4, am_zo5, am_zo7] at *; omega)
    · replace h9 := Int32.not_lt.mp h9
      refine w67_12 ?_
      refine w67_13 ?_
      refine w67_17 (by first | rfl | exact am_narrow_b _) ?_
      first | exact am_kt k (by simp only [Int32.lt_iff_toInt_lt, Int32.le_iff_toInt_le, ← Int32.toInt_inj, am_z0, am_z1, am_z2, am_z3, am_z4, am_z5, am_z6, am_z7, am_z8, am_z9, am_z10, am_z12, am_z16, am_z20, am_z99, am_z999, am_zm1, am_zo4, am_zo5, am_zo7] at *; omega) | exact am_kf k (by simp only [Int32.lt_iff_toInt_lt, Int32.le_iff_toInt_le, ← Int32.toInt_inj, am_z0, am_z1, am_z2, am_z3, am_z4, am_z5, am_z6, am_z7, am_z8, am_z9, am_z10, am_z12, am_z16, am_z20, am_z99, am_z999, am_zm1, am_zo4, am_zo5, am_zo7] at *; omega)
/-- areTwoBills -/
theorem c118 {x y : Int32} (k : Q (some (.int (am_b (0 ≤ x ∧ x < 5 ∧ 0 ≤ y ∧ y < 5 ∧ ¬ x = y)))) (S, I, J, P)) : am_ev pr (d + 1) 118 [.int x, .int y] (S, I, J, P) Q := by
  show am_wp pr (d + 1) 118 0 [(0, .int x), (1, .int y)] [] _ _
  refine w118_0 rfl ?_
  refine w118_1 (k := c18 ?_)
  refine w118_4 (fun h4 => ?_) (fun h4 => ?_)
  · refine w118_23 ?_
    refine w118_24 (by first | rfl | exact am_narrow_b _) ?_
    simp only [am_b_0, Decidable.not_not] at *
    first | exact am_kt k (by simp only [Int32.lt_iff_toInt_lt, Int32.le_iff_toInt_le, ← Int32.toInt_inj, am_z0, am_z1, am_z2, am_z3, am_z4, am_z5, am_z6, am_z7, am_z8, am_z9, am_z10, am_z12, am_z16, am_z20, am_z99, am_z999, am_zm1, am_zo4, am_zo5, am_zo7] at *; omega) | exact am_kf k (by simp only [Int32.lt_iff_toInt_lt, Int32.le_iff_toInt_le, ← Int32.toInt_inj, am_z0, am_z1, am_z2, am_z3, am_z4, am_z5, am_z6, am_z7, am_z8, am_z9, am_z10, am_z12, am_z16, am_z20, am_z99, am_z999, am_zm1, am_zo4, am_zo5, am_zo7] at *; omega)
  · refine w118_7 rfl ?_
    refine w118_8 (k := c18 ?_)
    refine w118_11 (fun h11 => ?_) (fun h11 => ?_)
    · refine w118_23 ?_
      refine w118_24 (by first | rfl | exact am_narrow_b _) ?_
      simp only [am_b_0, Decidable.not_not] at *
      first | exact am_kt k (by simp only [Int32.lt_iff_toInt_lt, Int32.le_iff_toInt_le, ← Int32.toInt_inj, am_z0, am_z1, am_z2, am_z3, am_z4, am_z5, am_z6, am_z7, am_z8, am_z9, am_z10, am_z12, am_z16, am_z20, am_z99, am_z999, am_zm1, am_zo4, am_zo5, am_zo7] at *; omega) | exact am_kf k (by simp only [Int32.lt_iff_toInt_lt, Int32.le_iff_toInt_le, ← Int32.toInt_inj, am_z0, am_z1, am_z2, am_z3, am_z4, am_z5, am_z6, am_z7, am_z8, am_z9, am_z10, am_z12, am_z16, am_z20, am_z99, am_z999, am_zm1, am_zo4, am_zo5, am_zo7] at *; omega)
    · refine w118_14 rfl ?_
      refine w118_15 rfl ?_
      refine w118_16 (fun h16 => ?_) (fun h16 => ?_)
      · refine w118_23 ?_
        refine w118_24 (by first | rfl | exact am_narrow_b _) ?_
        simp only [am_b_0, Decidable.not_not] at *
        first | exact am_kt k (by simp only [Int32.lt_iff_toInt_lt, Int32.le_iff_toInt_le, ← Int32.toInt_inj, am_z0, am_z1, am_z2, am_z3, am_z4, am_z5, am_z6, am_z7, am_z8, am_z9, am_z10, am_z12, am_z16, am_z20, am_z99, am_z999, am_zm1, am_zo4, am_zo5, am_zo7] at *; omega) | exact am_kf k (by simp only [Int32.lt_iff_toInt_lt, Int32.le_iff_toInt_le, ← Int32.toInt_inj, am_z0, am_z1, am_z2, am_z3, am_z4, am_z5, am_z6, am_z7, am_z8, am_z9, am_z10, am_z12, am_z16, am_z20, am_z99, am_z999, am_zm1, am_zo4, am_zo5, am_zo7] at *; omega)
      · refine w118_19 ?_
        refine w118_20 ?_
        refine w118_24 (by first | rfl | exact am_narrow_b _) ?_
        simp only [am_b_0, Decidable.not_not] at *
        first | exact am_kt k (by simp only [Int32.lt_iff_toInt_lt, Int32.le_iff_toInt_le, ← Int32.toInt_inj, am_z0, am_z1, am_z2, am_z3, am_z4, am_z5, am_z6, am_z7, am_z8, am_z9, am_z10, am_z12, am_z16, am_z20, am_z99, am_z999, am_zm1, am_zo4, am_zo5, am_zo7] at *; omega) | exact am_kf k (by simp only [Int32.lt_iff_toInt_lt, Int32.le_iff_toInt_le, ← Int32.toInt_inj, am_z0, am_z1, am_z2, am_z3, am_z4, am_z5, am_z6, am_z7, am_z8, am_z9, am_z10, am_z12, am_z16, am_z20, am_z99, am_z999, am_zm1, am_zo4, am_zo5, am_zo7] at *; omega)
/-- refused -/
theorem c11 (L : am_Lay S P) {x : Int32} (hx : 0 ≤ -x ∧ -x < 7) (k : Q (some (.int x)) (S, am_u (am_u I 64 16 x) 123 (-x).toNatClampNeg (am_u I 64 16 x 123 (-x).toNatClampNeg + 1), J, P)) : am_ev pr d 11 [.ref 64, .int x] (S, I, J, P) Q := by
  have hi : am_in (-x) 7 = true := am_in_int (by have := hx.1; rw [Int32.le_iff_toInt_le] at this; exact this) (by have := hx.2; rw [Int32.lt_iff_toInt_lt] at this; exact this)
  show am_wp pr d 11 0 [(0, .ref 64), (1, .int x)] [] _ _
  refine w11_0 rfl ?_
  refine w11_1 rfl ?_
  refine w11_2 ?_
  refine w11_5 rfl ?_
  refine w11_6 ?_
  refine w11_7 (fun h7 => ?_) (fun h7 => ?_)
  · refine w11_31 rfl ?_
    refine w11_32 ?_
    first | exact k | exact absurd hx (by simp only [Int32.lt_iff_toInt_lt, Int32.le_iff_toInt_le, ← Int32.toInt_inj, am_z0, am_z1, am_z2, am_z3, am_z4, am_z5, am_z6, am_z7, am_z8, am_z9, am_z10, am_z12, am_z16, am_z20, am_z99, am_z999, am_zm1, am_zo4, am_zo5, am_zo7] at *; omega)
  · replace h7 := Int32.not_lt.mp h7
    refine w11_10 rfl ?_
    refine w11_11 ?_
    refine w11_12 rfl ?_
    refine w11_13 (L.2 _ _ _ rfl) ?_
    refine w11_16 (L.sh rfl) (by decide) ?_
    refine w11_17 (fun h17 => ?_) (fun h17 => ?_)
    · refine w11_31 rfl ?_
      refine w11_32 ?_
      first | exact k | exact absurd hx (by simp only [Int32.lt_iff_toInt_lt, Int32.le_iff_toInt_le, ← Int32.toInt_inj, am_z0, am_z1, am_z2, am_z3, am_z4, am_z5, am_z6, am_z7, am_z8, am_z9, am_z10, am_z12, am_z16, am_z20, am_z99, am_z999, am_zm1, am_zo4, am_zo5, am_zo7] at *; omega)
    · replace h17 := Int32.not_le.mp h17
      refine w11_20 rfl ?_
      refine w11_21 (L.2 _ _ _ rfl) ?_
      refine w11_24 rfl ?_
      refine w11_25 ?_
      refine w11_26 ⟨rfl, rfl⟩ ?_
      refine w11_27 (L.sh rfl) hi ?_
      refine w11_28 ?_
      refine w11_29 ?_
      refine w11_30 (L.sh rfl) hi ?_
      refine w11_31 rfl ?_
      refine w11_32 ?_
      first | exact k | exact absurd hx (by simp only [Int32.lt_iff_toInt_lt, Int32.le_iff_toInt_le, ← Int32.toInt_inj, am_z0, am_z1, am_z2, am_z3, am_z4, am_z5, am_z6, am_z7, am_z8, am_z9, am_z10, am_z12, am_z16, am_z20, am_z99, am_z999, am_zm1, am_zo4, am_zo5, am_zo7] at *; omega)
/-- answered -/
theorem c111 (L : am_Lay S P) {x : Int32} (hx : -7 < x) (k1 : x < 0 → Q (some (.int x)) (S, am_u (am_u I 64 16 x) 123 (-x).toNatClampNeg (am_u I 64 16 x 123 (-x).toNatClampNeg + 1), J, P)) (k2 : ¬ x < 0 → Q (some (.int x)) (S, am_u I 64 16 0, J, P)) : am_ev pr (d + 1) 111 [.ref 64, .int x] (S, I, J, P) Q := by
  show am_wp pr (d + 1) 111 0 [(0, .ref 64), (1, .int x)] [] _ _
  refine w111_0 rfl ?_
  refine w111_1 (fun h1 => ?_) (fun h1 => ?_)
  · refine w111_12 rfl ?_
    refine w111_13 rfl ?_
    refine w111_14 (c14 L ?_)
    refine w111_17 ?_
    first | exact k1 h1 | exact k2 (Int32.not_lt.mpr h1)
  · replace h1 := Int32.not_le.mp h1
    refine w111_4 rfl ?_
    refine w111_5 rfl ?_
    refine w111_6 (c11 L (am_neg6 h1 hx) ?_)
    refine w111_9 ?_
    refine w111_17 ?_
    first | exact k1 h1 | exact k2 (Int32.not_lt.mpr h1)
theorem c17b {x : Int32} {m : Nat} (k : Q (some (.int (am_bit x m))) (S, I, J, P)) : am_ev pr d 17 [.int x, .int (nI m)] (S, I, J, P) Q := c17 k
end
