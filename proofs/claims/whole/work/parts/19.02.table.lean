/-! contracts: what the table reckons -/
theorem am_nx (k : Nat) : some (Value.int (nI k + 1)) = some (Value.int (nI (k + 1))) := by rw [nI_1]
theorem am_nlt {k n : Nat} (h : k < n) (hn : n < 2 ^ 31) : ¬ nI n ≤ nI k := nI_ge h hn
theorem am_n01 : ¬ (1 : Int32) = 0 := by decide
theorem am_b_1 {p : Prop} [Decidable p] (h : ¬ am_b p = 0) : p := Decidable.not_not.mp (fun z => h ((am_b_0 p).mpr z))
/-- voices of a set on a bill -/
def t_vo (sp : Nat → Int32) (set : Int32) (b : Nat) : Int32 := am_it (fun m acc => if am_bit set m = 1 then acc + sp (m * 5 + b) else acc) 7 0
/-- who of those on a bill value it by 5 at least -/
def t_fa (va : Nat → Int32) (on : Int32) (b : Nat) : Int32 := am_it (fun m acc => if am_bit on m = 1 ∧ 5 ≤ va (m * 5 + b) then acc ||| 1 <<< (nI m &&& 31) else acc) 7 0
/-- needed -/
def t_nd (need vo : Int32) : Int32 := if 0 < need then need else vo / 2 + 1
section
variable {pr : am_Pr} {d : Nat} {S : List (Nat × Nat)} {I : Nat → Nat → Int32} {J : Nat → Nat → Int64} {P : Nat → Nat → Option Nat} {Q : Option Value → am_H → Prop}
theorem c18b {b : Nat} (hb : b < 5) (k : Q (some (.int 1)) (S, I, J, P)) : am_ev pr d 18 [.int (nI b)] (S, I, J, P) Q := by
  refine c18 ?_
  rw [am_b_t ⟨nI_pos' (by omega), nI_lt hb (by decide)⟩]
  exact k
theorem c39b {m : Nat} (hm : m < 7) (k : Q (some (.int 1)) (S, I, J, P)) : am_ev pr d 39 [.int (nI m)] (S, I, J, P) Q := by
  refine c39 ?_
  rw [am_b_t ⟨nI_pos' (by omega), nI_lt hm (by decide)⟩]
  exact k
theorem am_inb {m b : Nat} (hm : m < 7) (hb : b < 5) : am_in (nI m * 5 + nI b) 35 = true := by
  rw [am_seat]
  exact am_in_nI (by omega) (by decide)
theorem am_clb {m b : Nat} (hm : m < 7) (hb : b < 5) : (nI m * 5 + nI b).toNatClampNeg = m * 5 + b := by
  rw [am_seat]
  exact am_cln (by omega)
theorem am_inB {b : Nat} (hb : b < 5) : am_in (nI b) 5 = true := am_in_nI hb (by decide)
theorem am_clB {b : Nat} (hb : b < 5) : (nI b).toNatClampNeg = b := am_cln (by omega)
/-- voices -/
theorem c31 (L : am_Lay S P) {b : Nat} (hb : b < 5) {set : Int32} (k : Q (some (.int (t_vo (I 110) set b))) (S, I, J, P)) : am_ev pr (d + 1) 31 [.ref 109, .int (nI b), .int set] (S, I, J, P) Q := by
  show am_wp pr (d + 1) 31 0 [(0, .ref 109), (1, .int (nI b)), (2, .int set)] [] _ _
  refine w31_0 ?_
  refine w31_1 ?_
  refine w31_2 ?_
  refine w31_3 ?_
  refine am_loop (fun m acc => if am_bit set m = 1 then acc + I 110 (m * 5 + b) else acc) (fun m acc => ∀ lv, am_ld1 lv 0 = some (.ref 109) → am_ld1 lv 1 = some (.int (nI b)) → am_ld1 lv 2 = some (.int set) → am_ld1 lv 3 = some (.int acc) → am_ld1 lv 4 = some (.int (nI m)) → am_wp pr (d + 1) 31 5 lv [] (S, I, J, P) Q) 7 ?_ 0 ?_ _ rfl rfl rfl rfl rfl
  · intro m acc hm ih lv l0 l1 l2 l3 l4
    refine w31_5 l4 ?_
    refine w31_7 ?_
    refine w31_9 (fun h => absurd h (am_nlt hm (by decide))) (fun _ => ?_)
    refine w31_12 l1 ?_
    refine w31_13 (c18b hb ?_)
    refine w31_16 (fun h => absurd h am_n01) (fun _ => ?_)
    refine w31_19 l2 ?_
    refine w31_20 l4 ?_
    refine w31_22 (c17b ?_)
    refine w31_25 ?_
    refine w31_26 (fun h26 => ?_) (fun h26 => ?_)
    · refine w31_43 l4 ?_
      refine w31_46 ?_
      first | (rw [if_neg h26] at ih; exact ih _ l0 l1 l2 l3 (am_nx m)) | (rw [if_pos h26] at ih; rw [am_clb hm hb]; exact ih _ l0 l1 l2 l3 (am_nx m))
    · replace h26 := Decidable.not_not.mp h26
      refine w31_29 l3 ?_
      refine w31_30 l0 ?_
      refine w31_31 (L.2 _ _ _ rfl) ?_
      refine w31_34 l4 ?_
      refine w31_36 ?_
      refine w31_37 ?_
      refine w31_38 l1 ?_
      refine w31_39 ?_
      refine w31_40 (L.sh rfl) (am_inb hm hb) ?_
      refine w31_41 ?_
      refine w31_42 ?_
      refine w31_43 l4 ?_
      refine w31_46 ?_
      first | (rw [if_neg h26] at ih; exact ih _ l0 l1 l2 rfl (am_nx m)) | (rw [if_pos h26] at ih; rw [am_clb hm hb]; exact ih _ l0 l1 l2 rfl (am_nx m))
  · intro lv l0 l1 l2 l3 l4
    refine w31_5 l4 ?_
    refine w31_7 ?_
    refine w31_9 (fun _ => ?_) (fun h => absurd (Int32.le_refl _) h)
    refine w31_49 l3 ?_
    refine w31_50 ?_
    exact k
/-- inFavour -/
theorem c28 (L : am_Lay S P) {b : Nat} (hb : b < 5) (k : Q (some (.int (t_fa (I 111) (I 113 b) b))) (S, I, J, P)) : am_ev pr (d + 1) 28 [.ref 109, .int (nI b)] (S, I, J, P) Q := by
  show am_wp pr (d + 1) 28 0 [(0, .ref 109), (1, .int (nI b))] [] _ _
  refine w28_0 ?_
  refine w28_1 ?_
  refine w28_2 ?_
  refine w28_3 ?_
  refine am_loop (fun m acc => if am_bit (I 113 b) m = 1 ∧ 5 ≤ I 111 (m * 5 + b) then acc ||| 1 <<< (nI m &&& 31) else acc) (fun m acc => ∀ lv, am_ld1 lv 0 = some (.ref 109) → am_ld1 lv 1 = some (.int (nI b)) → am_ld1 lv 2 = some (.int acc) → am_ld1 lv 3 = some (.int (nI m)) → am_wp pr (d + 1) 28 4 lv [] (S, I, J, P) Q) 7 ?_ 0 ?_ _ rfl rfl rfl rfl
  · intro m acc hm ih lv l0 l1 l2 l3
    refine w28_4 l3 ?_
    refine w28_5 ?_
    refine w28_7 (fun h => absurd h (am_nlt hm (by decide))) (fun _ => ?_)
    refine w28_10 l1 ?_
    refine w28_11 (c18b hb ?_)
    refine w28_14 (fun h => absurd h am_n01) (fun _ => ?_)
    refine w28_17 l0 ?_
    refine w28_18 (L.2 _ _ _ rfl) ?_
    refine w28_21 l1 ?_
    refine w28_22 (L.sh rfl) (am_inB hb) ?_
    rw [am_clB hb]
    refine w28_23 l3 ?_
    refine w28_24 (c17b ?_)
    refine w28_27 ?_
    refine w28_28 (fun h28 => ?_) (fun h28 => ?_)
    · refine w28_51 l3 ?_
      refine w28_54 ?_
      first | (rw [if_neg (fun z => h28 z.1)] at ih; exact ih _ l0 l1 l2 (am_nx m)) | (rw [if_neg (fun z => absurd z.2 (Int32.not_le.mpr h42))] at ih; exact ih _ l0 l1 l2 (am_nx m)) | (rw [if_pos ⟨h28, h42⟩] at ih; exact ih _ l0 l1 l2 (am_nx m))
    · replace h28 := Decidable.not_not.mp h28
      refine w28_31 l0 ?_
      refine w28_32 (L.2 _ _ _ rfl) ?_
      refine w28_35 l3 ?_
      refine w28_36 ?_
      refine w28_37 ?_
      refine w28_38 l1 ?_
      refine w28_39 ?_
      refine w28_40 (L.sh rfl) (am_inb hm hb) ?_
      rw [am_clb hm hb]
      refine w28_41 ?_
      refine w28_42 (fun h42 => ?_) (fun h42 => ?_)
      · refine w28_51 l3 ?_
        refine w28_54 ?_
        first | (rw [if_neg (fun z => h28 z.1)] at ih; exact ih _ l0 l1 l2 (am_nx m)) | (rw [if_neg (fun z => absurd z.2 (Int32.not_le.mpr h42))] at ih; exact ih _ l0 l1 l2 (am_nx m)) | (rw [if_pos ⟨h28, h42⟩] at ih; exact ih _ l0 l1 l2 (am_nx m))
      · replace h42 := Int32.not_lt.mp h42
        refine w28_45 l2 ?_
        refine w28_46 ?_
        refine w28_47 l3 ?_
        refine w28_48 ?_
        refine w28_49 ?_
        refine w28_50 ?_
        refine w28_51 l3 ?_
        refine w28_54 ?_
        first | (rw [if_neg (fun z => h28 z.1)] at ih; exact ih _ l0 l1 rfl (am_nx m)) | (rw [if_neg (fun z => absurd z.2 (Int32.not_le.mpr h42))] at ih; exact ih _ l0 l1 rfl (am_nx m)) | (rw [if_pos ⟨h28, h42⟩] at ih; exact ih _ l0 l1 rfl (am_nx m))
  · intro lv l0 l1 l2 l3
    refine w28_4 l3 ?_
    refine w28_5 ?_
    refine w28_7 (fun _ => ?_) (fun h => absurd (Int32.le_refl _) h)
    refine w28_57 l2 ?_
    refine w28_58 ?_
    exact k
/-- voicesFor -/
theorem c30 (L : am_Lay S P) {b : Nat} (hb : b < 5) (k : Q (some (.int (t_vo (I 110) (t_fa (I 111) (I 113 b) b) b))) (S, I, J, P)) : am_ev pr (d + 2) 30 [.ref 109, .int (nI b)] (S, I, J, P) Q := by
  show am_wp pr (d + 2) 30 0 [(0, .ref 109), (1, .int (nI b))] [] _ _
  refine w30_0 rfl ?_
  refine w30_1 rfl ?_
  refine w30_2 rfl ?_
  refine w30_3 rfl ?_
  refine w30_4 (c28 L hb ?_)
  refine w30_7 (c31 L hb ?_)
  refine w30_10 ?_
  exact k
/-- needed -/
theorem c32 (L : am_Lay S P) {b : Nat} (hb : b < 5) {set : Int32} (k : Q (some (.int (t_nd (I 109 2) (t_vo (I 110) set b)))) (S, I, J, P)) : am_ev pr (d + 2) 32 [.ref 109, .int (nI b), .int set] (S, I, J, P) Q := by
  show am_wp pr (d + 2) 32 0 [(0, .ref 109), (1, .int (nI b)), (2, .int set)] [] _ _
  unfold t_nd at k
  refine w32_0 rfl ?_
  refine w32_1 ?_
  refine w32_4 (fun h4 => ?_) (fun h4 => ?_)
  · refine w32_14 rfl ?_
    refine w32_15 rfl ?_
    refine w32_16 rfl ?_
    refine w32_17 (c31 L hb ?_)
    refine w32_20 ?_
    refine w32_21 (by decide) ?_
    refine w32_22 ?_
    refine w32_23 ?_
    refine w32_24 ?_
    first | (rw [if_pos h4] at k; exact k) | (rw [if_neg (Int32.not_lt.mpr h4)] at k; exact k)
  · replace h4 := Int32.not_le.mp h4
    refine w32_7 rfl ?_
    refine w32_8 ?_
    refine w32_11 ?_
    refine w32_24 ?_
    first | (rw [if_pos h4] at k; exact k) | (rw [if_neg (Int32.not_lt.mpr h4)] at k; exact k)
/-- carries -/
theorem c33 (L : am_Lay S P) {b : Nat} (hb : b < 5) (k : Q (some (.int (am_b (t_nd (I 109 2) (t_vo (I 110) (I 113 b) b) ≤ t_vo (I 110) (t_fa (I 111) (I 113 b) b) b)))) (S, I, J, P)) : am_ev pr (d + 3) 33 [.ref 109, .int (nI b)] (S, I, J, P) Q := by
  show am_wp pr (d + 3) 33 0 [(0, .ref 109), (1, .int (nI b))] [] _ _
  refine w33_0 rfl ?_
  refine w33_1 (c18b hb ?_)
  refine w33_4 (fun h => absurd h am_n01) (fun _ => ?_)
  refine w33_7 rfl ?_
  refine w33_8 rfl ?_
  refine w33_9 (c30 L hb ?_)
  refine w33_12 rfl ?_
  refine w33_13 rfl ?_
  refine w33_14 rfl ?_
  refine w33_15 (L.2 _ _ _ rfl) ?_
  refine w33_18 rfl ?_
  refine w33_19 (L.sh rfl) (am_inB hb) ?_
  rw [am_clB hb]
  refine w33_20 (c32 L hb ?_)
  refine w33_23 (fun h23 => ?_) (fun h23 => ?_)
  · refine w33_30 ?_
    refine w33_31 (by first | rfl | exact am_narrow_b _) ?_
    first | exact am_kt k h23 | exact am_kf k (Int32.not_le.mpr h23)
  · replace h23 := Int32.not_lt.mp h23
    refine w33_26 ?_
    refine w33_27 ?_
    refine w33_31 (by first | rfl | exact am_narrow_b _) ?_
    first | exact am_kt k h23 | exact am_kf k (Int32.not_le.mpr h23)
/-- valueOf, of a seat that is one -/
theorem c38 (L : am_Lay S P) {m b : Nat} (hm : m < 7) (hb : b < 5) (k : Q (some (.int (I 111 (m * 5 + b)))) (S, I, J, P)) : am_ev pr (d + 1) 38 [.ref 109, .int (nI m), .int (nI b)] (S, I, J, P) Q := by
  show am_wp pr (d + 1) 38 0 [(0, .ref 109), (1, .int (nI m)), (2, .int (nI b))] [] _ _
  refine w38_0 rfl ?_
  refine w38_1 (c39b hm ?_)
  refine w38_4 (fun h => absurd h am_n01) (fun _ => ?_)
  refine w38_7 rfl ?_
  refine w38_8 (c18b hb ?_)
  refine w38_11 (fun h => absurd h am_n01) (fun _ => ?_)
  refine w38_14 rfl ?_
  refine w38_15 (L.2 _ _ _ rfl) ?_
  refine w38_18 rfl ?_
  refine w38_19 ?_
  refine w38_20 ?_
  refine w38_21 rfl ?_
  refine w38_22 ?_
  refine w38_23 (L.sh rfl) (am_inb hm hb) ?_
  refine w38_24 ?_
  refine w38_28 ?_
  rw [am_clb hm hb]
  exact k
end
