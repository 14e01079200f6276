/-! contracts: how steps are reckoned -/
theorem am_u_same {α : Type} {f : Nat → Nat → α} {a k : Nat} {v : α} (h : f a k = v) : am_u f a k v = f := by
  funext b j
  rw [am_u_get]
  split
  · rename_i z
    rw [z.1, z.2, h]
  · rfl
theorem e_bd_n {v : Int64} (h : 1000000000 < v ∨ v < -1000000000) : e_bd v = none := if_pos h
theorem e_bd_s {v : Int64} (h : ¬ (1000000000 < v ∨ v < -1000000000)) : e_bd v = some v := if_neg h
section
variable {pr : am_Pr} {d : Nat} {S : List (Nat × Nat)} {I : Nat → Nat → Int32} {J : Nat → Nat → Int64} {P : Nat → Nat → Option Nat} {Q : Option Value → am_H → Prop}
/-- wordAt -/
theorem c26 {a n j : Nat} (hs : am_sh S a (20, n)) (hn : n < 1000) (hj : j < n) (k : Q (some (.int (I a j))) (S, I, J, P)) : am_ev pr d 26 [.ref a, .int (nI j)] (S, I, J, P) Q := by
  show am_wp pr d 26 0 [(0, .ref a), (1, .int (nI j))] [] _ _
  refine w26_0 rfl ?_
  refine w26_1 (fun h => absurd h (nI_pos (by omega))) (fun _ => ?_)
  refine w26_4 rfl ?_
  refine w26_5 rfl ?_
  refine w26_6 hs (by decide) ?_
  refine w26_7 (fun h => absurd h (am_nlt (n := n) (by omega) (by omega))) (fun _ => ?_)
  refine w26_10 rfl ?_
  refine w26_11 rfl ?_
  refine w26_12 hs (am_in_nI hj (by omega)) ?_
  rw [am_clN (by omega)]
  refine w26_13 ?_
  refine w26_17 ?_
  exact k
theorem c27t (L : am_Lay S P) {v : Int64} (hb : I 119 0 = 0) (k1 : e_bd v = some v → Q (some (.long v)) (S, I, J, P)) (k2 : e_bd v = none → Q (some (.long v)) (S, am_u I 119 0 1, J, P)) {lv : List (Nat × Value)} (l0 : am_ld1 lv 0 = some (.ref 119)) (l6 : am_ld2 lv 6 = some (.long v)) : am_wp pr d 27 153 lv [] (S, I, J, P) Q := by
  refine w27_153 l0 ?_
  refine w27_154 rfl ?_
  refine w27_155 ?_
  rw [hb]
  refine w27_158 l6 ?_
  refine w27_160 ?_
  refine w27_163 ?_
  refine w27_164 (fun h164 => ?_) (fun h164 => ?_)
  · refine w27_176 ?_
    refine w27_177 ?_
    refine w27_181 ?_
    refine w27_182 (by decide) ?_
    refine w27_185 l6 ?_
    refine w27_187 ?_
    first | (rw [show (0 : Int32) ||| 1 = 1 from rfl]; with_reducible exact k2 (e_bd_n (Or.inl ((lg_cmp_gt _ _).mp h164)))) | (rw [show (0 : Int32) ||| 1 = 1 from rfl]; with_reducible exact k2 (e_bd_n (Or.inr ((lg_cmp_lt _ _).mp h173)))) | (rw [show (0 : Int32) ||| 0 = 0 from rfl, am_u_same hb]; exact k1 (e_bd_s (fun z => z.elim (fun q => absurd ((lg_cmp_le _ _).mp h164) (Int64.not_le.mpr q)) (fun q => absurd ((lg_cmp_ge _ _).mp h173) (Int64.not_le.mpr q)))))
  · replace h164 := Int32.not_lt.mp h164
    refine w27_167 l6 ?_
    refine w27_169 ?_
    refine w27_172 ?_
    refine w27_173 (fun h173 => ?_) (fun h173 => ?_)
    · refine w27_180 ?_
      refine w27_181 ?_
      refine w27_182 (by decide) ?_
      refine w27_185 l6 ?_
      refine w27_187 ?_
      first | (rw [show (0 : Int32) ||| 1 = 1 from rfl]; with_reducible exact k2 (e_bd_n (Or.inl ((lg_cmp_gt _ _).mp h164)))) | (rw [show (0 : Int32) ||| 1 = 1 from rfl]; with_reducible exact k2 (e_bd_n (Or.inr ((lg_cmp_lt _ _).mp h173)))) | (rw [show (0 : Int32) ||| 0 = 0 from rfl, am_u_same hb]; exact k1 (e_bd_s (fun z => z.elim (fun q => absurd ((lg_cmp_le _ _).mp h164) (Int64.not_le.mpr q)) (fun q => absurd ((lg_cmp_ge _ _).mp h173) (Int64.not_le.mpr q)))))
    · replace h173 := Int32.not_le.mp h173
      refine w27_176 ?_
      refine w27_177 ?_
      refine w27_181 ?_
      refine w27_182 (by decide) ?_
      refine w27_185 l6 ?_
      refine w27_187 ?_
      first | (rw [show (0 : Int32) ||| 1 = 1 from rfl]; with_reducible exact k2 (e_bd_n (Or.inl ((lg_cmp_gt _ _).mp h164)))) | (rw [show (0 : Int32) ||| 1 = 1 from rfl]; with_reducible exact k2 (e_bd_n (Or.inr ((lg_cmp_lt _ _).mp h173)))) | (rw [show (0 : Int32) ||| 0 = 0 from rfl, am_u_same hb]; exact k1 (e_bd_s (fun z => z.elim (fun q => absurd ((lg_cmp_le _ _).mp h164) (Int64.not_le.mpr q)) (fun q => absurd ((lg_cmp_ge _ _).mp h173) (Int64.not_le.mpr q)))))
/-- joined -/
theorem c27 (L : am_Lay S P) {op : Nat} {a b : Int64} (hop : op < 5) (hb : I 119 0 = 0) (k1 : ∀ x, e_op op a b = some x → Q (some (.long x)) (S, I, J, P)) (k2 : ∀ x, e_op op a b = none → Q (some (.long x)) (S, am_u I 119 0 1, J, P)) : am_ev pr d 27 [.ref 119, .int (nI (3 + op)), .long a, .long b] (S, I, J, P) Q := by
  rcases (show op = 0 ∨ op = 1 ∨ op = 2 ∨ op = 3 ∨ op = 4 by omega) with rfl | rfl | rfl | rfl | rfl
  · show am_wp pr d 27 0 [(0, .ref 119), (1, .int (nI 3)), (2, .long a), (4, .long b)] [] _ _
    refine w27_0 ?_
    refine w27_1 ?_
    refine w27_3 rfl ?_
    refine w27_4 ?_
    refine w27_6 (fun h => absurd h (by decide)) (fun _ => ?_)
    refine w27_9 rfl ?_
    refine w27_10 ?_
    refine w27_12 (fun _ => ?_) (fun h => absurd (by decide) h)
    refine w27_51 rfl ?_
    refine w27_52 ?_
    refine w27_53 (fun h => absurd h (by decide)) (fun _ => ?_)
    refine w27_56 rfl ?_
    refine w27_57 rfl ?_
    refine w27_59 ?_
    refine w27_60 ?_
    refine w27_62 ?_
    exact c27t L hb (k1 _) (k2 _) rfl rfl
  · show am_wp pr d 27 0 [(0, .ref 119), (1, .int (nI 4)), (2, .long a), (4, .long b)] [] _ _
    refine w27_0 ?_
    refine w27_1 ?_
    refine w27_3 rfl ?_
    refine w27_4 ?_
    refine w27_6 (fun h => absurd h (by decide)) (fun _ => ?_)
    refine w27_9 rfl ?_
    refine w27_10 ?_
    refine w27_12 (fun _ => ?_) (fun h => absurd (by decide) h)
    refine w27_51 rfl ?_
    refine w27_52 ?_
    refine w27_53 (fun _ => ?_) (fun h => absurd (by decide) h)
    refine w27_65 rfl ?_
    refine w27_66 ?_
    refine w27_67 (fun h => absurd h (by decide)) (fun _ => ?_)
    refine w27_70 rfl ?_
    refine w27_71 rfl ?_
    refine w27_73 ?_
    refine w27_74 ?_
    refine w27_76 ?_
    exact c27t L hb (k1 _) (k2 _) rfl rfl
  · show am_wp pr d 27 0 [(0, .ref 119), (1, .int (nI 5)), (2, .long a), (4, .long b)] [] _ _
    refine w27_0 ?_
    refine w27_1 ?_
    refine w27_3 rfl ?_
    refine w27_4 ?_
    refine w27_6 (fun h => absurd h (by decide)) (fun _ => ?_)
    refine w27_9 rfl ?_
    refine w27_10 ?_
    refine w27_12 (fun _ => ?_) (fun h => absurd (by decide) h)
    refine w27_51 rfl ?_
    refine w27_52 ?_
    refine w27_53 (fun _ => ?_) (fun h => absurd (by decide) h)
    refine w27_65 rfl ?_
    refine w27_66 ?_
    refine w27_67 (fun _ => ?_) (fun h => absurd (by decide) h)
    refine w27_79 rfl ?_
    refine w27_80 ?_
    refine w27_81 (fun h => absurd h (by decide)) (fun _ => ?_)
    refine w27_84 rfl ?_
    refine w27_85 rfl ?_
    refine w27_87 ?_
    refine w27_88 ?_
    refine w27_90 ?_
    exact c27t L hb (k1 _) (k2 _) rfl rfl
  · show am_wp pr d 27 0 [(0, .ref 119), (1, .int (nI 6)), (2, .long a), (4, .long b)] [] _ _
    unfold e_op at k1 k2
    simp only [show ¬ (3 = 0) by decide, show ¬ (3 = 1) by decide, show ¬ (3 = 2) by decide, if_false, if_true] at k1 k2
    refine w27_0 ?_
    refine w27_1 ?_
    refine w27_3 rfl ?_
    refine w27_4 ?_
    refine w27_6 (fun _ => ?_) (fun h => absurd (by decide) h)
    refine w27_15 rfl ?_
    refine w27_17 ?_
    refine w27_18 ?_
    refine w27_19 (fun h19 => ?_) (fun h19 => ?_)
    · refine w27_29 rfl ?_
      refine w27_30 ?_
      refine w27_32 (fun h => absurd h (by decide)) (fun _ => ?_)
      refine w27_35 rfl ?_
      refine w27_36 rfl ?_
      refine w27_38 (fun z => h19 ((lg_cmp_eq _ _).mpr z)) ?_
      refine w27_39 ?_
      refine w27_46 ?_
      refine w27_48 ?_
      rw [if_neg (fun z => h19 ((lg_cmp_eq _ _).mpr z))] at k1 k2
      exact c27t L hb (k1 _) (k2 _) rfl rfl
    · replace h19 := Decidable.not_not.mp h19
      refine w27_22 rfl ?_
      refine w27_23 ?_
      refine w27_24 (by decide) ?_
      refine w27_27 ?_
      refine w27_28 ?_
      rw [if_pos ((lg_cmp_eq _ _).mp h19)] at k2
      exact k2 _ rfl
  · show am_wp pr d 27 0 [(0, .ref 119), (1, .int (nI 7)), (2, .long a), (4, .long b)] [] _ _
    unfold e_op at k1 k2
    simp only [show ¬ (4 = 0) by decide, show ¬ (4 = 1) by decide, show ¬ (4 = 2) by decide, show ¬ (4 = 3) by decide, if_false] at k1 k2
    refine w27_0 ?_
    refine w27_1 ?_
    refine w27_3 rfl ?_
    refine w27_4 ?_
    refine w27_6 (fun h => absurd h (by decide)) (fun _ => ?_)
    refine w27_9 rfl ?_
    refine w27_10 ?_
    refine w27_12 (fun h => absurd h (by decide)) (fun _ => ?_)
    refine w27_15 rfl ?_
    refine w27_17 ?_
    refine w27_18 ?_
    refine w27_19 (fun h19 => ?_) (fun h19 => ?_)
    · refine w27_29 rfl ?_
      refine w27_30 ?_
      refine w27_32 (fun _ => ?_) (fun h => absurd (by decide) h)
      refine w27_42 rfl ?_
      refine w27_43 rfl ?_
      refine w27_45 (fun z => h19 ((lg_cmp_eq _ _).mpr z)) ?_
      refine w27_46 ?_
      refine w27_48 ?_
      rw [if_neg (fun z => h19 ((lg_cmp_eq _ _).mpr z))] at k1 k2
      exact c27t L hb (k1 _) (k2 _) rfl rfl
    · replace h19 := Decidable.not_not.mp h19
      refine w27_22 rfl ?_
      refine w27_23 ?_
      refine w27_24 (by decide) ?_
      refine w27_27 ?_
      refine w27_28 ?_
      rw [if_pos ((lg_cmp_eq _ _).mp h19)] at k2
      exact k2 _ rfl
theorem c27c (L : am_Lay S P) {op : Nat} {a b : Int64} (hop : op < 3) (hb : I 119 0 = 0) (k : Q (some (.long (if e_cm op a b then 1 else 0))) (S, I, J, P)) : am_ev pr d 27 [.ref 119, .int (nI (8 + op)), .long a, .long b] (S, I, J, P) Q := by
  have t1 : Q (some (.long 1)) (S, I, J, P) → ∀ lv : List (Nat × Value), am_ld1 lv 0 = some (.ref 119) → am_ld2 lv 6 = some (.long 1) → am_wp pr d 27 153 lv [] (S, I, J, P) Q := fun z lv l0 l6 => c27t L hb (fun _ => z) (fun h => absurd h (by decide)) l0 l6
  have t0 : Q (some (.long 0)) (S, I, J, P) → ∀ lv : List (Nat × Value), am_ld1 lv 0 = some (.ref 119) → am_ld2 lv 6 = some (.long 0) → am_wp pr d 27 153 lv [] (S, I, J, P) Q := fun z lv l0 l6 => c27t L hb (fun _ => z) (fun h => absurd h (by decide)) l0 l6
  unfold e_cm at k
  rcases (show op = 0 ∨ op = 1 ∨ op = 2 by omega) with rfl | rfl | rfl
  · show am_wp pr d 27 0 [(0, .ref 119), (1, .int (nI 8)), (2, .long a), (4, .long b)] [] _ _
    simp only [if_true, decide_eq_true_eq] at k
    refine w27_0 ?_
    refine w27_1 ?_
    refine w27_3 rfl ?_
    refine w27_4 ?_
    refine w27_6 (fun h => absurd h (by decide)) (fun _ => ?_)
    refine w27_9 rfl ?_
    refine w27_10 ?_
    refine w27_12 (fun _ => ?_) (fun h => absurd (by decide) h)
    refine w27_51 rfl ?_
    refine w27_52 ?_
    refine w27_53 (fun _ => ?_) (fun h => absurd (by decide) h)
    refine w27_65 rfl ?_
    refine w27_66 ?_
    refine w27_67 (fun _ => ?_) (fun h => absurd (by decide) h)
    refine w27_79 rfl ?_
    refine w27_80 ?_
    refine w27_81 (fun _ => ?_) (fun h => absurd (by decide) h)
    refine w27_93 rfl ?_
    refine w27_94 ?_
    refine w27_96 (fun h => absurd h (by decide)) (fun _ => ?_)
    refine w27_99 rfl ?_
    refine w27_100 rfl ?_
    refine w27_102 ?_
    refine w27_103 (fun h103 => ?_) (fun h103 => ?_)
    · rw [if_neg (Int64.not_lt.mpr ((lg_cmp_ge _ _).mp h103))] at k
      replace k := t0 k
      refine w27_110 ?_
      refine w27_111 ?_
      refine w27_113 ?_
      exact k _ rfl rfl
    · replace h103 := Int32.not_le.mp h103
      rw [if_pos ((lg_cmp_lt _ _).mp h103)] at k
      replace k := t1 k
      refine w27_106 ?_
      refine w27_107 ?_
      refine w27_111 ?_
      refine w27_113 ?_
      exact k _ rfl rfl
  · show am_wp pr d 27 0 [(0, .ref 119), (1, .int (nI 9)), (2, .long a), (4, .long b)] [] _ _
    simp only [show ¬ (1 = 0) by decide, if_true, if_false, decide_eq_true_eq] at k
    refine w27_0 ?_
    refine w27_1 ?_
    refine w27_3 rfl ?_
    refine w27_4 ?_
    refine w27_6 (fun h => absurd h (by decide)) (fun _ => ?_)
    refine w27_9 rfl ?_
    refine w27_10 ?_
    refine w27_12 (fun _ => ?_) (fun h => absurd (by decide) h)
    refine w27_51 rfl ?_
    refine w27_52 ?_
    refine w27_53 (fun _ => ?_) (fun h => absurd (by decide) h)
    refine w27_65 rfl ?_
    refine w27_66 ?_
    refine w27_67 (fun _ => ?_) (fun h => absurd (by decide) h)
    refine w27_79 rfl ?_
    refine w27_80 ?_
    refine w27_81 (fun _ => ?_) (fun h => absurd (by decide) h)
    refine w27_93 rfl ?_
    refine w27_94 ?_
    refine w27_96 (fun _ => ?_) (fun h => absurd (by decide) h)
    refine w27_116 rfl ?_
    refine w27_117 ?_
    refine w27_119 (fun h => absurd h (by decide)) (fun _ => ?_)
    refine w27_122 rfl ?_
    refine w27_123 rfl ?_
    refine w27_125 ?_
    refine w27_126 (fun h126 => ?_) (fun h126 => ?_)
    · rw [if_neg (Int64.not_lt.mpr ((lg_cmp_le _ _).mp h126))] at k
      replace k := t0 k
      refine w27_133 ?_
      refine w27_134 ?_
      refine w27_136 ?_
      exact k _ rfl rfl
    · replace h126 := Int32.not_le.mp h126
      rw [if_pos ((lg_cmp_gt _ _).mp h126)] at k
      replace k := t1 k
      refine w27_129 ?_
      refine w27_130 ?_
      refine w27_134 ?_
      refine w27_136 ?_
      exact k _ rfl rfl
  · show am_wp pr d 27 0 [(0, .ref 119), (1, .int (nI 10)), (2, .long a), (4, .long b)] [] _ _
    simp only [show ¬ (2 = 0) by decide, show ¬ (2 = 1) by decide, if_false, decide_eq_true_eq] at k
    refine w27_0 ?_
    refine w27_1 ?_
    refine w27_3 rfl ?_
    refine w27_4 ?_
    refine w27_6 (fun h => absurd h (by decide)) (fun _ => ?_)
    refine w27_9 rfl ?_
    refine w27_10 ?_
    refine w27_12 (fun _ => ?_) (fun h => absurd (by decide) h)
    refine w27_51 rfl ?_
    refine w27_52 ?_
    refine w27_53 (fun _ => ?_) (fun h => absurd (by decide) h)
    refine w27_65 rfl ?_
    refine w27_66 ?_
    refine w27_67 (fun _ => ?_) (fun h => absurd (by decide) h)
    refine w27_79 rfl ?_
    refine w27_80 ?_
    refine w27_81 (fun _ => ?_) (fun h => absurd (by decide) h)
    refine w27_93 rfl ?_
    refine w27_94 ?_
    refine w27_96 (fun _ => ?_) (fun h => absurd (by decide) h)
    refine w27_116 rfl ?_
    refine w27_117 ?_
    refine w27_119 (fun _ => ?_) (fun h => absurd (by decide) h)
    refine w27_139 rfl ?_
    refine w27_140 rfl ?_
    refine w27_142 ?_
    refine w27_143 (fun h143 => ?_) (fun h143 => ?_)
    · rw [if_neg (fun z => h143 ((lg_cmp_eq _ _).mpr z))] at k
      replace k := t0 k
      refine w27_150 ?_
      refine w27_151 ?_
      exact k _ rfl rfl
    · replace h143 := Decidable.not_not.mp h143
      rw [if_pos ((lg_cmp_eq _ _).mp h143)] at k
      replace k := t1 k
      refine w27_146 ?_
      refine w27_147 ?_
      refine w27_151 ?_
      exact k _ rfl rfl
end
