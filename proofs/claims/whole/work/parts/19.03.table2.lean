/-! contracts: the table, further -/
/-- a member would vote for a against b -/
abbrev t_pf (va ba : Nat → Int32) (m a b : Nat) : Prop := am_bit (ba a ||| ba b) m = 0 ∧ va (m * 5 + b) < va (m * 5 + a)
/-- those who do -/
def t_vs (va ba : Nat → Int32) (here : Int32) (n a b : Nat) : Int32 := am_it (fun m acc => if am_bit here m = 1 ∧ t_pf va ba m a b then acc ||| 1 <<< (nI m &&& 31) else acc) n 0
/-- how many bills one values less -/
def t_rk (va : Nat → Int32) (m b : Nat) : Int32 := am_it (fun j acc => acc + (if va (m * 5 + j) < va (m * 5 + b) then 1 else 0)) 5 0
def t_pt (sp va : Nat → Int32) (on : Int32) (b : Nat) (w : Int32) : Int32 := am_it (fun m acc => if ¬ nI m = w ∧ am_bit on m = 1 then acc + t_rk va m b * sp (m * 5 + b) else acc) 7 0
/-- the greatest of five, the lowest -/
def t_mo (t : Nat → Int32) : Int32 × Int32 := am_it (fun b (q : Int32 × Int32) => if q.1 < t b then (t b, nI b) else q) 5 (-1, 0)
/-- how many votes -/
def t_va (sp va ba : Nat → Int32) (here : Int32) (n a b : Nat) : Int32 := t_vo sp (t_vs va ba here n a b) a
section
variable {pr : am_Pr} {d : Nat} {S : List (Nat × Nat)} {I : Nat → Nat → Int32} {J : Nat → Nat → Int64} {P : Nat → Nat → Option Nat} {Q : Option Value → am_H → Prop}
/-- prefers -/
theorem c120 (L : am_Lay S P) {m a b : Nat} (hm : m < 7) (ha : a < 5) (hb : b < 5) (k : Q (some (.int (am_b (t_pf (I 111) (I 112) m a b)))) (S, I, J, P)) : am_ev pr (d + 2) 120 [.ref 109, .int (nI m), .int (nI a), .int (nI b)] (S, I, J, P) Q := by
  show am_wp pr (d + 2) 120 0 [(0, .ref 109), (1, .int (nI m)), (2, .int (nI a)), (3, .int (nI b))] [] _ _
  refine w120_0 rfl ?_
  refine w120_1 (c39b hm ?_)
  refine w120_4 (fun h => absurd h am_n01) (fun _ => ?_)
  refine w120_7 rfl ?_
  refine w120_8 (c18b ha ?_)
  refine w120_11 (fun h => absurd h am_n01) (fun _ => ?_)
  refine w120_14 rfl ?_
  refine w120_15 (c18b hb ?_)
  refine w120_18 (fun _ => ?_) (fun h => absurd am_n01 h)
  refine w120_23 rfl ?_
  refine w120_24 (L.2 _ _ _ rfl) ?_
  refine w120_27 rfl ?_
  refine w120_28 (L.sh rfl) (am_inB ha) ?_
  rw [am_clB ha]
  refine w120_29 rfl ?_
  refine w120_30 (L.2 _ _ _ rfl) ?_
  refine w120_33 rfl ?_
  refine w120_34 (L.sh rfl) (am_inB hb) ?_
  rw [am_clB hb]
  refine w120_35 ?_
  refine w120_36 rfl ?_
  refine w120_37 (c17b ?_)
  refine w120_40 (fun h40 => ?_) (fun h40 => ?_)
  · refine w120_47 ?_
    refine w120_48 ?_
    refine w120_50 rfl ?_
    refine w120_52 (fun h52 => ?_) (fun h52 => ?_)
    · refine w120_74 ?_
      refine w120_75 (by first | rfl | exact am_narrow_b _) ?_
      first | exact absurd h52 (by decide) | exact am_kt k ⟨h40, h67⟩ | exact am_kf k (fun z => h40 z.1) | exact am_kf k (fun z => absurd z.2 (Int32.not_lt.mpr h67))
    · refine w120_55 rfl ?_
      refine w120_56 rfl ?_
      refine w120_57 rfl ?_
      refine w120_58 (c38 L hm ha ?_)
      refine w120_61 rfl ?_
      refine w120_62 rfl ?_
      refine w120_63 rfl ?_
      refine w120_64 (c38 L hm hb ?_)
      refine w120_67 (fun h67 => ?_) (fun h67 => ?_)
      · refine w120_74 ?_
        refine w120_75 (by first | rfl | exact am_narrow_b _) ?_
        first | exact absurd h52 (by decide) | exact am_kt k ⟨h40, h67⟩ | exact am_kf k (fun z => h40 z.1) | exact am_kf k (fun z => absurd z.2 (Int32.not_lt.mpr h67))
      · replace h67 := Int32.not_le.mp h67
        refine w120_70 ?_
        refine w120_71 ?_
        refine w120_75 (by first | rfl | exact am_narrow_b _) ?_
        first | exact absurd h52 (by decide) | exact am_kt k ⟨h40, h67⟩ | exact am_kf k (fun z => h40 z.1) | exact am_kf k (fun z => absurd z.2 (Int32.not_lt.mpr h67))
  · replace h40 := Decidable.not_not.mp h40
    refine w120_43 ?_
    refine w120_44 ?_
    refine w120_48 ?_
    refine w120_50 rfl ?_
    refine w120_52 (fun h52 => ?_) (fun h52 => ?_)
    · refine w120_74 ?_
      refine w120_75 (by first | rfl | exact am_narrow_b _) ?_
      first | exact absurd h52 (by decide) | exact am_kt k ⟨h40, h67⟩ | exact am_kf k (fun z => h40 z.1) | exact am_kf k (fun z => absurd z.2 (Int32.not_lt.mpr h67))
    · refine w120_55 rfl ?_
      refine w120_56 rfl ?_
      refine w120_57 rfl ?_
      refine w120_58 (c38 L hm ha ?_)
      refine w120_61 rfl ?_
      refine w120_62 rfl ?_
      refine w120_63 rfl ?_
      refine w120_64 (c38 L hm hb ?_)
      refine w120_67 (fun h67 => ?_) (fun h67 => ?_)
      · refine w120_74 ?_
        refine w120_75 (by first | rfl | exact am_narrow_b _) ?_
        first | exact absurd h52 (by decide) | exact am_kt k ⟨h40, h67⟩ | exact am_kf k (fun z => h40 z.1) | exact am_kf k (fun z => absurd z.2 (Int32.not_lt.mpr h67))
      · replace h67 := Int32.not_le.mp h67
        refine w120_70 ?_
        refine w120_71 ?_
        refine w120_75 (by first | rfl | exact am_narrow_b _) ?_
        first | exact absurd h52 (by decide) | exact am_kt k ⟨h40, h67⟩ | exact am_kf k (fun z => h40 z.1) | exact am_kf k (fun z => absurd z.2 (Int32.not_lt.mpr h67))
/-- votesAgainst -/
theorem c119 (L : am_Lay S P) {n a b : Nat} (hn : I 109 0 = nI n) (hn7 : n ≤ 7) (ha : a < 5) (hb : b < 5) (k : Q (some (.int (t_va (I 110) (I 111) (I 112) (I 109 1) n a b))) (S, I, J, P)) : am_ev pr (d + 3) 119 [.ref 109, .int (nI a), .int (nI b)] (S, I, J, P) Q := by
  show am_wp pr (d + 3) 119 0 [(0, .ref 109), (1, .int (nI a)), (2, .int (nI b))] [] _ _
  refine w119_0 ?_
  refine w119_1 ?_
  refine w119_2 ?_
  refine w119_3 ?_
  refine am_loop (fun m acc => if am_bit (I 109 1) m = 1 ∧ t_pf (I 111) (I 112) m a b then acc ||| 1 <<< (nI m &&& 31) else acc) (fun m acc => ∀ lv, am_ld1 lv 0 = some (.ref 109) → am_ld1 lv 1 = some (.int (nI a)) → am_ld1 lv 2 = some (.int (nI b)) → am_ld1 lv 3 = some (.int acc) → am_ld1 lv 4 = some (.int (nI m)) → am_wp pr (d + 3) 119 5 lv [] (S, I, J, P) Q) n ?_ 0 ?_ _ rfl rfl rfl rfl rfl
  · intro m acc hm ih lv l0 l1 l2 l3 l4
    refine w119_5 l4 ?_
    refine w119_7 l0 ?_
    refine w119_8 ?_
    rw [hn]
    refine w119_11 (fun h => absurd h (am_nlt hm (by omega))) (fun _ => ?_)
    refine w119_14 l0 ?_
    refine w119_15 ?_
    refine w119_18 l4 ?_
    refine w119_20 (c17b ?_)
    refine w119_23 ?_
    refine w119_24 (fun h24 => ?_) (fun h24 => ?_)
    · refine w119_45 l4 ?_
      refine w119_48 ?_
      first | (rw [if_neg (fun z => h24 z.1)] at ih; exact ih _ l0 l1 l2 l3 (am_nx m)) | (rw [if_neg (fun z => (am_b_0 _).mp h35 z.2)] at ih; exact ih _ l0 l1 l2 l3 (am_nx m)) | (rw [if_pos ⟨h24, Decidable.not_not.mp (fun z => h35 ((am_b_0 _).mpr z))⟩] at ih; exact ih _ l0 l1 l2 l3 (am_nx m))
    · replace h24 := Decidable.not_not.mp h24
      refine w119_27 l0 ?_
      refine w119_28 l4 ?_
      refine w119_30 l1 ?_
      refine w119_31 l2 ?_
      refine w119_32 (c120 L (by omega) ha hb ?_)
      refine w119_35 (fun h35 => ?_) (fun h35 => ?_)
      · refine w119_45 l4 ?_
        refine w119_48 ?_
        first | (rw [if_neg (fun z => h24 z.1)] at ih; exact ih _ l0 l1 l2 l3 (am_nx m)) | (rw [if_neg (fun z => (am_b_0 _).mp h35 z.2)] at ih; exact ih _ l0 l1 l2 l3 (am_nx m)) | (rw [if_pos ⟨h24, Decidable.not_not.mp (fun z => h35 ((am_b_0 _).mpr z))⟩] at ih; exact ih _ l0 l1 l2 l3 (am_nx m))
      · refine w119_38 l3 ?_
        refine w119_39 ?_
        refine w119_40 l4 ?_
        refine w119_42 ?_
        refine w119_43 ?_
        refine w119_44 ?_
        refine w119_45 l4 ?_
        refine w119_48 ?_
        first | (rw [if_neg (fun z => h24 z.1)] at ih; exact ih _ l0 l1 l2 rfl (am_nx m)) | (rw [if_neg (fun z => (am_b_0 _).mp h35 z.2)] at ih; exact ih _ l0 l1 l2 rfl (am_nx m)) | (rw [if_pos ⟨h24, Decidable.not_not.mp (fun z => h35 ((am_b_0 _).mpr z))⟩] at ih; exact ih _ l0 l1 l2 rfl (am_nx m))
  · intro lv l0 l1 l2 l3 l4
    refine w119_5 l4 ?_
    refine w119_7 l0 ?_
    refine w119_8 ?_
    rw [hn]
    refine w119_11 (fun _ => ?_) (fun h => absurd (Int32.le_refl _) h)
    refine w119_51 l0 ?_
    refine w119_52 l1 ?_
    refine w119_53 l3 ?_
    refine w119_54 (c31 L ha ?_)
    refine w119_57 ?_
    exact k
/-- rank -/
theorem c37 (L : am_Lay S P) {m b : Nat} (hm : m < 7) (hb : b < 5) (k : Q (some (.int (t_rk (I 111) m b))) (S, I, J, P)) : am_ev pr (d + 2) 37 [.ref 109, .int (nI m), .int (nI b)] (S, I, J, P) Q := by
  show am_wp pr (d + 2) 37 0 [(0, .ref 109), (1, .int (nI m)), (2, .int (nI b))] [] _ _
  refine w37_0 rfl ?_
  refine w37_1 rfl ?_
  refine w37_2 rfl ?_
  refine w37_3 (c38 L hm hb ?_)
  refine w37_6 ?_
  refine w37_7 ?_
  refine w37_8 ?_
  refine w37_10 ?_
  refine w37_11 ?_
  refine am_loop (fun j acc => acc + (if I 111 (m * 5 + j) < I 111 (m * 5 + b) then 1 else 0)) (fun j acc => ∀ lv, am_ld1 lv 0 = some (.ref 109) → am_ld1 lv 1 = some (.int (nI m)) → am_ld1 lv 3 = some (.int (I 111 (m * 5 + b))) → am_ld1 lv 4 = some (.int acc) → am_ld1 lv 5 = some (.int (nI j)) → am_wp pr (d + 2) 37 13 lv [] (S, I, J, P) Q) 5 ?_ 0 ?_ _ rfl rfl rfl rfl rfl
  · intro j acc hj ih lv l0 l1 l3 l4 l5
    refine w37_13 l5 ?_
    refine w37_15 ?_
    refine w37_16 (fun h => absurd h (am_nlt hj (by decide))) (fun _ => ?_)
    refine w37_19 l4 ?_
    refine w37_21 l0 ?_
    refine w37_22 l1 ?_
    refine w37_23 l5 ?_
    refine w37_25 (c38 L hm hj ?_)
    refine w37_28 l3 ?_
    refine w37_29 (fun h29 => ?_) (fun h29 => ?_)
    · refine w37_36 ?_
      refine w37_37 ?_
      refine w37_38 ?_
      refine w37_40 l5 ?_
      refine w37_43 ?_
      first | (rw [if_pos h29] at ih; exact ih _ l0 l1 l3 rfl (am_nx j)) | (rw [if_neg (Int32.not_lt.mpr h29)] at ih; exact ih _ l0 l1 l3 rfl (am_nx j))
    · replace h29 := Int32.not_le.mp h29
      refine w37_32 ?_
      refine w37_33 ?_
      refine w37_37 ?_
      refine w37_38 ?_
      refine w37_40 l5 ?_
      refine w37_43 ?_
      first | (rw [if_pos h29] at ih; exact ih _ l0 l1 l3 rfl (am_nx j)) | (rw [if_neg (Int32.not_lt.mpr h29)] at ih; exact ih _ l0 l1 l3 rfl (am_nx j))
  · intro lv l0 l1 l3 l4 l5
    refine w37_13 l5 ?_
    refine w37_15 ?_
    refine w37_16 (fun _ => ?_) (fun h => absurd (Int32.le_refl _) h)
    refine w37_46 l4 ?_
    refine w37_48 ?_
    exact k
/-- points -/
theorem c36 (L : am_Lay S P) {b : Nat} {w : Int32} (hb : b < 5) (k : Q (some (.int (t_pt (I 110) (I 111) (I 113 b) b w))) (S, I, J, P)) : am_ev pr (d + 3) 36 [.ref 109, .int (nI b), .int w] (S, I, J, P) Q := by
  show am_wp pr (d + 3) 36 0 [(0, .ref 109), (1, .int (nI b)), (2, .int w)] [] _ _
  refine w36_0 ?_
  refine w36_1 ?_
  refine w36_2 ?_
  refine w36_3 ?_
  refine am_loop (fun m acc => if ¬ nI m = w ∧ am_bit (I 113 b) m = 1 then acc + t_rk (I 111) m b * I 110 (m * 5 + b) else acc) (fun m acc => ∀ lv, am_ld1 lv 0 = some (.ref 109) → am_ld1 lv 1 = some (.int (nI b)) → am_ld1 lv 2 = some (.int w) → am_ld1 lv 3 = some (.int acc) → am_ld1 lv 4 = some (.int (nI m)) → am_wp pr (d + 3) 36 5 lv [] (S, I, J, P) Q) 7 ?_ 0 ?_ _ rfl rfl rfl rfl rfl
  · intro m acc hm ih lv l0 l1 l2 l3 l4
    refine w36_5 l4 ?_
    refine w36_7 ?_
    refine w36_9 (fun h => absurd h (am_nlt hm (by decide))) (fun _ => ?_)
    refine w36_12 l1 ?_
    refine w36_13 (c18b hb ?_)
    refine w36_16 (fun h => absurd h am_n01) (fun _ => ?_)
    refine w36_19 l4 ?_
    refine w36_21 l2 ?_
    refine w36_22 (fun h22 => ?_) (fun h22 => ?_)
    · refine w36_62 l4 ?_
      refine w36_65 ?_
      first | (rw [if_pos ⟨h22, h37⟩] at ih; exact ih _ l0 l1 l2 l3 (am_nx m)) | (rw [if_neg (fun z => h37 z.2)] at ih; exact ih _ l0 l1 l2 l3 (am_nx m)) | (rw [if_neg (fun z => z.1 h22)] at ih; exact ih _ l0 l1 l2 l3 (am_nx m))
    · refine w36_25 l0 ?_
      refine w36_26 (L.2 _ _ _ rfl) ?_
      refine w36_29 l1 ?_
      refine w36_30 (L.sh rfl) (am_inB hb) ?_
      rw [am_clB hb]
      refine w36_31 l4 ?_
      refine w36_33 (c17b ?_)
      refine w36_36 ?_
      refine w36_37 (fun h37 => ?_) (fun h37 => ?_)
      · refine w36_62 l4 ?_
        refine w36_65 ?_
        first | (rw [if_pos ⟨h22, h37⟩] at ih; exact ih _ l0 l1 l2 l3 (am_nx m)) | (rw [if_neg (fun z => h37 z.2)] at ih; exact ih _ l0 l1 l2 l3 (am_nx m)) | (rw [if_neg (fun z => z.1 h22)] at ih; exact ih _ l0 l1 l2 l3 (am_nx m))
      · replace h37 := Decidable.not_not.mp h37
        refine w36_40 l3 ?_
        refine w36_41 l0 ?_
        refine w36_42 l4 ?_
        refine w36_44 l1 ?_
        refine w36_45 (c37 L hm hb ?_)
        refine w36_48 l0 ?_
        refine w36_49 (L.2 _ _ _ rfl) ?_
        refine w36_52 l4 ?_
        refine w36_54 ?_
        refine w36_55 ?_
        refine w36_56 l1 ?_
        refine w36_57 ?_
        refine w36_58 (L.sh rfl) (am_inb hm hb) ?_
        rw [am_clb hm hb]
        refine w36_59 ?_
        refine w36_60 ?_
        refine w36_61 ?_
        refine w36_62 l4 ?_
        refine w36_65 ?_
        first | (rw [if_pos ⟨h22, h37⟩] at ih; exact ih _ l0 l1 l2 rfl (am_nx m)) | (rw [if_neg (fun z => h37 z.2)] at ih; exact ih _ l0 l1 l2 rfl (am_nx m)) | (rw [if_neg (fun z => z.1 h22)] at ih; exact ih _ l0 l1 l2 rfl (am_nx m))
  · intro lv l0 l1 l2 l3 l4
    refine w36_5 l4 ?_
    refine w36_7 ?_
    refine w36_9 (fun _ => ?_) (fun h => absurd (Int32.le_refl _) h)
    refine w36_68 l3 ?_
    refine w36_69 ?_
    exact k
/-- mostOf -/
theorem c141 {t : Nat} (ht : am_sh S t (20, 5)) (k : Q (some (.int (t_mo (I t)).2)) (S, I, J, P)) : am_ev pr d 141 [.ref t] (S, I, J, P) Q := by
  show am_wp pr d 141 0 [(0, .ref t)] [] _ _
  refine w141_0 ?_
  refine w141_1 ?_
  refine w141_2 ?_
  refine w141_3 ?_
  refine w141_4 ?_
  refine w141_5 ?_
  refine am_loop (fun b (q : Int32 × Int32) => if q.1 < I t b then (I t b, nI b) else q) (fun b q => ∀ lv, am_ld1 lv 0 = some (.ref t) → am_ld1 lv 1 = some (.int q.2) → am_ld1 lv 2 = some (.int q.1) → am_ld1 lv 3 = some (.int (nI b)) → am_wp pr (d) 141 6 lv [] (S, I, J, P) Q) 5 ?_ (-1, 0) ?_ _ rfl rfl rfl rfl
  · intro b q hb ih lv l0 l1 l2 l3
    refine w141_6 l3 ?_
    refine w141_7 l0 ?_
    refine w141_8 ht (by decide) ?_
    refine w141_9 (fun h => absurd h (am_nlt hb (by decide))) (fun _ => ?_)
    refine w141_12 l0 ?_
    refine w141_13 l3 ?_
    refine w141_14 ht (am_inB hb) ?_
    rw [am_clB hb]
    refine w141_15 l2 ?_
    refine w141_16 (fun h16 => ?_) (fun h16 => ?_)
    · refine w141_25 l3 ?_
      refine w141_28 ?_
      first | (rw [if_pos h16] at ih; exact ih _ l0 l1 l2 (am_nx b)) | (rw [if_neg (Int32.not_lt.mpr h16)] at ih; exact ih _ l0 l1 l2 (am_nx b))
    · replace h16 := Int32.not_le.mp h16
      refine w141_19 l0 ?_
      refine w141_20 l3 ?_
      refine w141_21 ht (am_inB hb) ?_
      rw [am_clB hb]
      refine w141_22 ?_
      refine w141_23 l3 ?_
      refine w141_24 ?_
      refine w141_25 l3 ?_
      refine w141_28 ?_
      first | (rw [if_pos h16] at ih; exact ih _ l0 rfl rfl (am_nx b)) | (rw [if_neg (Int32.not_lt.mpr h16)] at ih; exact ih _ l0 rfl rfl (am_nx b))
  · intro lv l0 l1 l2 l3
    refine w141_6 l3 ?_
    refine w141_7 l0 ?_
    refine w141_8 ht (by decide) ?_
    refine w141_9 (fun _ => ?_) (fun h => absurd (Int32.le_refl _) h)
    refine w141_31 l1 ?_
    refine w141_32 ?_
    exact k
/-- doesBeat -/
theorem c125 (L : am_Lay S P) {a b : Nat} (ha : a < 5) (hb : b < 5) (k : Q (some (.int (am_b (am_bit (I 114 a) b = 1)))) (S, I, J, P)) : am_ev pr (d + 1) 125 [.ref 109, .int (nI a), .int (nI b)] (S, I, J, P) Q := by
  show am_wp pr (d + 1) 125 0 [(0, .ref 109), (1, .int (nI a)), (2, .int (nI b))] [] _ _
  refine w125_0 rfl ?_
  refine w125_1 (c18b ha ?_)
  refine w125_4 (fun h => absurd h am_n01) (fun _ => ?_)
  refine w125_7 rfl ?_
  refine w125_8 (c18b hb ?_)
  refine w125_11 (fun h => absurd h am_n01) (fun _ => ?_)
  refine w125_14 rfl ?_
  refine w125_15 (L.2 _ _ _ rfl) ?_
  refine w125_18 rfl ?_
  refine w125_19 (L.sh rfl) (am_inB ha) ?_
  rw [am_clB ha]
  refine w125_20 rfl ?_
  refine w125_21 (c17b ?_)
  refine w125_24 ?_
  refine w125_25 (fun h25 => ?_) (fun h25 => ?_)
  · refine w125_32 ?_
    refine w125_33 (by first | rfl | exact am_narrow_b _) ?_
    first | exact am_kt k h25 | exact am_kf k h25
  · replace h25 := Decidable.not_not.mp h25
    refine w125_28 ?_
    refine w125_29 ?_
    refine w125_33 (by first | rfl | exact am_narrow_b _) ?_
    first | exact am_kt k h25 | exact am_kf k h25
/-- isRing -/
theorem c124 (L : am_Lay S P) {a b c : Nat} (ha : a < 5) (hb : b < 5) (hc : c < 5) (k : Q (some (.int (am_b (am_bit (I 114 a) b = 1 ∧ am_bit (I 114 b) c = 1 ∧ am_bit (I 114 c) a = 1)))) (S, I, J, P)) : am_ev pr (d + 2) 124 [.ref 109, .int (nI a), .int (nI b), .int (nI c)] (S, I, J, P) Q := by
  show am_wp pr (d + 2) 124 0 [(0, .ref 109), (1, .int (nI a)), (2, .int (nI b)), (3, .int (nI c))] [] _ _
  refine w124_0 rfl ?_
  refine w124_1 rfl ?_
  refine w124_2 rfl ?_
  refine w124_3 (c125 L ha hb ?_)
  refine w124_6 (fun h6 => ?_) (fun h6 => ?_)
  · refine w124_31 ?_
    refine w124_32 (by first | rfl | exact am_narrow_b _) ?_
    first | exact am_kf k (fun z => (am_b_0 _).mp h6 z.1) | exact am_kf k (fun z => (am_b_0 _).mp h15 z.2.1) | exact am_kf k (fun z => (am_b_0 _).mp h24 z.2.2) | exact am_kt k ⟨Decidable.not_not.mp (fun z => h6 ((am_b_0 _).mpr z)), Decidable.not_not.mp (fun z => h15 ((am_b_0 _).mpr z)), Decidable.not_not.mp (fun z => h24 ((am_b_0 _).mpr z))⟩
  · refine w124_9 rfl ?_
    refine w124_10 rfl ?_
    refine w124_11 rfl ?_
    refine w124_12 (c125 L hb hc ?_)
    refine w124_15 (fun h15 => ?_) (fun h15 => ?_)
    · refine w124_31 ?_
      refine w124_32 (by first | rfl | exact am_narrow_b _) ?_
      first | exact am_kf k (fun z => (am_b_0 _).mp h6 z.1) | exact am_kf k (fun z => (am_b_0 _).mp h15 z.2.1) | exact am_kf k (fun z => (am_b_0 _).mp h24 z.2.2) | exact am_kt k ⟨Decidable.not_not.mp (fun z => h6 ((am_b_0 _).mpr z)), Decidable.not_not.mp (fun z => h15 ((am_b_0 _).mpr z)), Decidable.not_not.mp (fun z => h24 ((am_b_0 _).mpr z))⟩
    · refine w124_18 rfl ?_
      refine w124_19 rfl ?_
      refine w124_20 rfl ?_
      refine w124_21 (c125 L hc ha ?_)
      refine w124_24 (fun h24 => ?_) (fun h24 => ?_)
      · refine w124_31 ?_
        refine w124_32 (by first | rfl | exact am_narrow_b _) ?_
        first | exact am_kf k (fun z => (am_b_0 _).mp h6 z.1) | exact am_kf k (fun z => (am_b_0 _).mp h15 z.2.1) | exact am_kf k (fun z => (am_b_0 _).mp h24 z.2.2) | exact am_kt k ⟨Decidable.not_not.mp (fun z => h6 ((am_b_0 _).mpr z)), Decidable.not_not.mp (fun z => h15 ((am_b_0 _).mpr z)), Decidable.not_not.mp (fun z => h24 ((am_b_0 _).mpr z))⟩
      · refine w124_27 ?_
        refine w124_28 ?_
        refine w124_32 (by first | rfl | exact am_narrow_b _) ?_
        first | exact am_kf k (fun z => (am_b_0 _).mp h6 z.1) | exact am_kf k (fun z => (am_b_0 _).mp h15 z.2.1) | exact am_kf k (fun z => (am_b_0 _).mp h24 z.2.2) | exact am_kt k ⟨Decidable.not_not.mp (fun z => h6 ((am_b_0 _).mpr z)), Decidable.not_not.mp (fun z => h15 ((am_b_0 _).mpr z)), Decidable.not_not.mp (fun z => h24 ((am_b_0 _).mpr z))⟩
/-- leader: the bills' points are laid into the tally -/
theorem t_mo_congr {f g : Nat → Int32} (h : ∀ b, b < 5 → f b = g b) : t_mo f = t_mo g := am_it_congr (fun k a hk => by rw [h k hk]) _
theorem c140 (L : am_Lay S P) (k : ∀ I' : Nat → Nat → Int32, (∀ a, a ≠ 115 → I' a = I a) → (∀ b, b < 5 → I' 115 b = t_pt (I 110) (I 111) (I 113 b) b (-1)) → Q (some (.int (t_mo (fun b => t_pt (I 110) (I 111) (I 113 b) b (-1))).2)) (S, I', J, P)) : am_ev pr (d + 4) 140 [.ref 109] (S, I, J, P) Q := by
  show am_wp pr (d + 4) 140 0 [(0, .ref 109)] [] _ _
  refine w140_0 ?_
  refine w140_1 ?_
  refine am_loop (α := Nat → Nat → Int32) (fun b I' => am_u I' 115 b (t_pt (I 110) (I 111) (I 113 b) b (-1))) (fun b I' => (∀ a, a ≠ 115 → I' a = I a) → (∀ j, j < b → I' 115 j = t_pt (I 110) (I 111) (I 113 j) j (-1)) → ∀ lv, am_ld1 lv 0 = some (.ref 109) → am_ld1 lv 1 = some (.int (nI b)) → am_wp pr (d + 4) 140 2 lv [] (S, I', J, P) Q) 5 ?_ I ?_ (fun _ _ => rfl) (fun j hj => absurd hj (Nat.not_lt_zero j)) _ rfl rfl
  · intro b I' hb ih h1 h2 lv l0 l1
    have e : t_pt (I' 110) (I' 111) (I' 113 b) b (-1) = t_pt (I 110) (I 111) (I 113 b) b (-1) := by rw [h1 110 (by decide), h1 111 (by decide), h1 113 (by decide)]
    have h3 : ∀ a, a ≠ 115 → am_u I' 115 b (t_pt (I 110) (I 111) (I 113 b) b (-1)) a = I a := fun a ha => (am_u_ne ha).trans (h1 a ha)
    have h4 : ∀ j, j < b + 1 → am_u I' 115 b (t_pt (I 110) (I 111) (I 113 b) b (-1)) 115 j = t_pt (I 110) (I 111) (I 113 j) j (-1) := by
      intro j hj
      by_cases hjb : j = b
      · subst hjb
        exact am_u_self
      · rw [am_u_at hjb]
        exact h2 j (by omega)
    refine w140_2 l1 ?_
    refine w140_3 ?_
    refine w140_4 (fun h => absurd h (am_nlt hb (by decide))) (fun _ => ?_)
    refine w140_7 l0 ?_
    refine w140_8 (L.2 _ _ _ rfl) ?_
    refine w140_11 l1 ?_
    refine w140_12 l0 ?_
    refine w140_13 l1 ?_
    refine w140_14 ?_
    refine w140_15 (c36 L hb ?_)
    refine w140_18 (L.sh rfl) (am_inB hb) ?_
    rw [am_clB hb, e]
    refine w140_19 l1 ?_
    refine w140_22 ?_
    exact ih h3 h4 _ l0 (am_nx b)
  · intro h1 h2 lv l0 l1
    refine w140_2 l1 ?_
    refine w140_3 ?_
    refine w140_4 (fun _ => ?_) (fun h => absurd (Int32.le_refl _) h)
    refine w140_25 l0 ?_
    refine w140_26 (L.2 _ _ _ rfl) ?_
    refine w140_29 (k := c141 (L.sh rfl) ?_)
    refine w140_32 ?_
    rw [t_mo_congr h2]
    exact k _ h1 h2
end
