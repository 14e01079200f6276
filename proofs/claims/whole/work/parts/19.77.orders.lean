/-! both sides' calls: how likely so few doze; bytes come behind the tape -/
/-- the same answer, a long -/
def am_opL (pr : am_Pr) (d : Nat) (S : List (Nat × Nat)) (I : Nat → Nat → Int32) (J : Nat → Nat → Int64) (P : Nat → Nat → Option Nat) (mc : Nat) (ac : List Value) (mm : Nat) (am : List Value) : Prop := am_ev pr d mc ac (S, I, J, P) (fun r τ => ∃ v, r = some (.long v) ∧ am_ev pr d mm am τ (am_oi S (.long v)))
/-- chances, member by member -/
def cw (z : Int32) : Nat → Nat → Int64
  | 0, j => if j = 0 then 1000000000000 else 0
  | t + 1, j => cw z t j * (10 - z).toInt64 / 10 + (if j = 0 then 0 else cw z t (j - 1) * z.toInt64 / 10)
def s_few (z : Int32) (k t : Nat) : Int64 := am_it (fun j acc => acc + cw z t j) k 0
theorem cw_0 (z : Int32) (t : Nat) : cw z t 0 * (10 - z).toInt64 / 10 = cw z (t + 1) 0 := by
  show _ = _ + (if 0 = 0 then 0 else _)
  rw [if_pos rfl, Int64.add_zero]
theorem cw_s (z : Int32) (t j : Nat) : cw z t (j + 1) * (10 - z).toInt64 / 10 + cw z t j * z.toInt64 / 10 = cw z (t + 1) (j + 1) := by
  show _ = _ + (if j + 1 = 0 then 0 else _)
  rw [if_neg (by omega)]
  rfl
theorem am_b255 (y : Int32) : y.toInt8.toInt32 &&& 255 = y &&& 255 := by
  apply Int32.toBitVec_inj.mp
  apply BitVec.eq_of_getLsbD_eq
  intro i hi
  have e : ((255 : Int32).toBitVec).getLsbD i = decide (i < 8) := by
    have : ∀ i : Fin 32, ((255 : Int32).toBitVec).getLsbD i.1 = decide (i.1 < 8) := by decide
    exact this ⟨i, hi⟩
  rw [Int32.toBitVec_and, Int32.toBitVec_and, BitVec.getLsbD_and, BitVec.getLsbD_and, e]
  by_cases h8 : i < 8
  · rw [decide_eq_true h8, Bool.and_true, Bool.and_true, Int8.toBitVec_toInt32, Int32.toBitVec_toInt8, BitVec.getLsbD_signExtend, if_pos h8, decide_eq_true hi, Bool.true_and, BitVec.getLsbD_signExtend, decide_eq_true h8, Bool.true_and, if_pos hi]
  · rw [decide_eq_false h8, Bool.and_false, Bool.and_false]
section
variable {pr : am_Pr} {d : Nat} {S : List (Nat × Nat)} {I I' : Nat → Nat → Int32} {J : Nat → Nat → Int64} {P : Nat → Nat → Option Nat} {Q : Option Value → am_H → Prop} {n l s u tp n' s' u' tp' : Nat} {kp kp' : Nat → Int32}
theorem c151 (L : am_Lay S P) {k0 t0 : Nat} {z : Int32} (hk1 : 1 ≤ k0) (hk : k0 ≤ 20) (ht : t0 ≤ 99) (hz : I 69 1 = z) (k : ∀ J', Q (some (.long (s_few z k0 t0))) (S, I, J', P)) : am_ev pr d 151 [.ref 64, .int (nI k0), .int (nI t0)] (S, I, J, P) Q := by
  show am_wp pr d 151 0 [(0, .ref 64), (1, .int (nI k0)), (2, .int (nI t0))] [] _ _
  refine w151_0 rfl ?_
  refine w151_1 ?_
  refine w151_2 (fun hQ => absurd hQ (fun q => absurd ((nI_ltI (b := 1) (by omega) (by decide)).mp q) (by omega))) (fun _ => ?_)
  refine w151_5 rfl ?_
  refine w151_6 ?_
  refine w151_8 (fun hQ => absurd hQ (nI_nlt (b := k0) (a := 20) (by omega) (by decide))) (fun _ => ?_)
  refine w151_11 rfl ?_
  refine w151_12 (fun hQ => absurd hQ (nI_pos (by omega))) (fun _ => ?_)
  refine w151_15 rfl ?_
  refine w151_16 ?_
  refine w151_18 (fun _ => ?_) (fun hQ => absurd (nI_le (b := 99) ht (by decide)) hQ)
  refine w151_25 rfl ?_
  refine w151_26 (L.2 _ _ _ rfl) ?_
  refine w151_29 (L.2 _ _ _ rfl) ?_
  refine w151_32 ?_
  refine w151_33 (L.sh rfl) (by decide) ?_
  rw [tl_1, hz]
  refine w151_34 ?_
  refine w151_35 ?_
  refine w151_36 ?_
  refine am_for (fun j => ∀ J' : Nat → Nat → Int64, (∀ i, i < j → J' 122 i = cw z 0 i) → ∀ lv, am_ld1 lv 0 = some (.ref 64) → am_ld1 lv 1 = some (.int (nI k0)) → am_ld1 lv 2 = some (.int (nI t0)) → am_ld1 lv 3 = some (.int z) → am_ld1 lv 4 = some (.int (nI j)) → am_wp pr (d) 151 38 lv [] (S, I, J', P) Q) 20 ?_ ?_ J (fun i hi => absurd hi (Nat.not_lt_zero i)) _ rfl rfl rfl rfl rfl
  · intro j hj ih J' h1 lv l0 l1 l2 l3 l4
    have nx : ∀ v, v = cw z 0 j → ∀ i, i < j + 1 → am_u J' 122 j v 122 i = cw z 0 i := by
      intro v hv i hi
      by_cases y : i = j
      · subst y
        rw [am_u_self]
        exact hv
      · rw [am_u_at y]
        exact h1 i (by omega)
    by_cases hj0 : j = 0
    · refine w151_38 l4 ?_
      refine w151_40 ?_
      refine w151_42 (fun hQ => absurd hQ (am_nlt hj (by decide))) (fun _ => ?_)
      refine w151_45 l0 ?_
      refine w151_46 (L.2 _ _ _ rfl) ?_
      refine w151_49 l4 ?_
      refine w151_51 l4 ?_
      refine w151_53 (fun hQ => absurd hQ (fun q => q (by rw [hj0]; rfl))) (fun _ => ?_)
      refine w151_56 ?_
      refine w151_59 ?_
      refine w151_63 (L.sh rfl) (am_in_nI hj (by decide)) ?_
      rw [am_clN (by omega)]
      refine w151_64 l4 ?_
      refine w151_67 ?_
      exact ih _ (nx _ (by rw [hj0]; rfl)) _ l0 l1 l2 l3 (am_nx j)
    · refine w151_38 l4 ?_
      refine w151_40 ?_
      refine w151_42 (fun hQ => absurd hQ (am_nlt hj (by decide))) (fun _ => ?_)
      refine w151_45 l0 ?_
      refine w151_46 (L.2 _ _ _ rfl) ?_
      refine w151_49 l4 ?_
      refine w151_51 l4 ?_
      refine w151_53 (fun _ => ?_) (fun hQ => absurd (nI_ne0 (by omega) (by omega)) hQ)
      refine w151_62 ?_
      refine w151_63 (L.sh rfl) (am_in_nI hj (by decide)) ?_
      rw [am_clN (by omega)]
      refine w151_64 l4 ?_
      refine w151_67 ?_
      exact ih _ (nx _ (if_neg hj0).symm) _ l0 l1 l2 l3 (am_nx j)
  · intro J0 h0 lv l0 l1 l2 l3 l4
    refine w151_38 l4 ?_
    refine w151_40 ?_
    refine w151_42 (fun _ => ?_) (fun hQ => absurd (Int32.le_refl _) hQ)
    refine w151_70 ?_
    refine w151_71 ?_
    refine am_for (fun t => ∀ J' : Nat → Nat → Int64, (∀ i, i < k0 → J' 122 i = cw z t i) → ∀ lv, am_ld1 lv 0 = some (.ref 64) → am_ld1 lv 1 = some (.int (nI k0)) → am_ld1 lv 2 = some (.int (nI t0)) → am_ld1 lv 3 = some (.int z) → am_ld1 lv 4 = some (.int (nI t)) → am_wp pr (d) 151 73 lv [] (S, I, J', P) Q) t0 ?_ ?_ J0 (fun i hi => h0 i (by omega)) _ l0 l1 l2 l3 rfl
    · clear l0 l1 l2 l3 l4 lv h0 J0
      intro t ht2 ih J0 h0 lv l0 l1 l2 l3 l4
      have ek : nI k0 - 1 = nI (k0 - 1) := nI_sub1 (by omega)
      refine w151_73 l4 ?_
      refine w151_75 l2 ?_
      refine w151_76 (fun hQ => absurd hQ (am_nlt ht2 (by omega))) (fun _ => ?_)
      refine w151_79 l1 ?_
      refine w151_80 ?_
      refine w151_81 ?_
      rw [ek]
      refine w151_82 ?_
      refine am_for (fun p => ∀ J' : Nat → Nat → Int64, (∀ i, i < k0 - p → J' 122 i = cw z t i) → (∀ i, k0 - p ≤ i → i < k0 → J' 122 i = cw z (t + 1) i) → ∀ lv, am_ld1 lv 0 = some (.ref 64) → am_ld1 lv 1 = some (.int (nI k0)) → am_ld1 lv 2 = some (.int (nI t0)) → am_ld1 lv 3 = some (.int z) → am_ld1 lv 4 = some (.int (nI t)) → am_ld1 lv 5 = some (.int (o_tm (k0 - p))) → am_wp pr (d) 151 84 lv [] (S, I, J', P) Q) k0 ?_ ?_ J0 h0 (fun i h1 h2 => absurd h1 (by omega)) _ l0 l1 l2 l3 l4 (by rw [show k0 - 0 = (k0 - 1) + 1 by omega]; rfl)
      · clear l0 l1 l2 l3 l4 lv h0 J0
        intro p hp ih J' h1 h2 lv l0 l1 l2 l3 l4 l5
        obtain ⟨j, hj⟩ : ∃ j, k0 - p = j + 1 := ⟨k0 - p - 1, by omega⟩
        have hj2 : k0 - (p + 1) = j := by omega
        rw [hj] at h1 h2 l5
        change am_ld1 lv 5 = some (.int (nI j)) at l5
        rw [hj2] at ih
        have nx : ∀ v, v = cw z (t + 1) j → (∀ i, i < j → am_u J' 122 j v 122 i = cw z t i) ∧ (∀ i, j ≤ i → i < k0 → am_u J' 122 j v 122 i = cw z (t + 1) i) := by
          intro v hv
          refine ⟨fun i hi => by rw [am_u_at (by omega)]; exact h1 i (by omega), fun i hi hi2 => ?_⟩
          by_cases y : i = j
          · subst y
            rw [am_u_self]
            exact hv
          · rw [am_u_at y]
            exact h2 i (by omega) hi2
        by_cases hj0 : j = 0
        · subst hj0
          refine w151_84 l5 ?_
          refine w151_86 (fun hQ => absurd hQ (by decide)) (fun _ => ?_)
          refine w151_89 l5 ?_
          refine w151_91 (fun hQ => absurd hQ (fun q => q rfl)) (fun _ => ?_)
          refine w151_94 ?_
          refine w151_95 ?_
          refine w151_114 ?_
          refine w151_116 l0 ?_
          refine w151_117 (L.2 _ _ _ rfl) ?_
          refine w151_120 l5 ?_
          refine w151_122 l0 ?_
          refine w151_123 (L.2 _ _ _ rfl) ?_
          refine w151_126 l5 ?_
          refine w151_128 (L.sh rfl) (am_in_nI (by omega) (by decide)) ?_
          rw [am_clN (by omega), h1 0 (by omega)]
          refine w151_129 ?_
          refine w151_131 l3 ?_
          refine w151_132 ?_
          refine w151_133 ?_
          refine w151_134 ?_
          refine w151_135 ?_
          refine w151_138 (by decide) ?_
          refine w151_139 rfl ?_
          refine w151_141 ?_
          refine w151_142 (L.sh rfl) (am_in_nI (by omega) (by decide)) ?_
          rw [am_clN (by omega)]
          refine w151_143 l5 ?_
          refine w151_146 ?_
          have e := nx _ ((Int64.add_zero _).trans (cw_0 z t))
          exact ih _ e.1 e.2 _ l0 l1 l2 l3 l4 (o_tmE 0)
        · obtain ⟨i, rfl⟩ : ∃ i, j = i + 1 := ⟨j - 1, by omega⟩
          have ei : nI (i + 1) - 1 = nI i := nI_pred i
          refine w151_84 l5 ?_
          refine w151_86 (fun hQ => absurd hQ (nI_pos (by omega))) (fun _ => ?_)
          refine w151_89 l5 ?_
          refine w151_91 (fun _ => ?_) (fun hQ => absurd (nI_ne0 (by omega) (by omega)) hQ)
          refine w151_98 l0 ?_
          refine w151_99 (L.2 _ _ _ rfl) ?_
          refine w151_102 l5 ?_
          refine w151_104 ?_
          refine w151_105 ?_
          rw [ei]
          refine w151_106 (L.sh rfl) (am_in_nI (by omega) (by decide)) ?_
          rw [am_clN (by omega), h1 i (by omega)]
          refine w151_107 l3 ?_
          refine w151_108 ?_
          refine w151_109 ?_
          refine w151_110 ?_
          refine w151_113 (by decide) ?_
          refine w151_114 ?_
          refine w151_116 l0 ?_
          refine w151_117 (L.2 _ _ _ rfl) ?_
          refine w151_120 l5 ?_
          refine w151_122 l0 ?_
          refine w151_123 (L.2 _ _ _ rfl) ?_
          refine w151_126 l5 ?_
          refine w151_128 (L.sh rfl) (am_in_nI (by omega) (by decide)) ?_
          rw [am_clN (by omega), h1 (i + 1) (by omega)]
          refine w151_129 ?_
          refine w151_131 l3 ?_
          refine w151_132 ?_
          refine w151_133 ?_
          refine w151_134 ?_
          refine w151_135 ?_
          refine w151_138 (by decide) ?_
          refine w151_139 rfl ?_
          refine w151_141 ?_
          refine w151_142 (L.sh rfl) (am_in_nI (by omega) (by decide)) ?_
          rw [am_clN (by omega)]
          refine w151_143 l5 ?_
          refine w151_146 ?_
          have e := nx _ (cw_s z t i)
          exact ih _ e.1 e.2 _ l0 l1 l2 l3 l4 (o_tmE (i + 1))
      · clear l0 l1 l2 l3 l4 lv h0 J0
        intro J' h1 h2 lv l0 l1 l2 l3 l4 l5
        rw [Nat.sub_self] at h2 l5
        refine w151_84 l5 ?_
        refine w151_86 (fun _ => ?_) (fun hQ => absurd (by decide) hQ)
        refine w151_149 l4 ?_
        refine w151_152 ?_
        exact ih J' (fun i hi => h2 i (by omega) hi) _ l0 l1 l2 l3 (am_nx t)
    · clear l0 l1 l2 l3 l4 lv h0 J0
      intro J0 h0 lv l0 l1 l2 l3 l4
      refine w151_73 l4 ?_
      refine w151_75 l2 ?_
      refine w151_76 (fun _ => ?_) (fun hQ => absurd (Int32.le_refl _) hQ)
      refine w151_155 ?_
      refine w151_156 ?_
      refine w151_158 ?_
      refine w151_159 ?_
      refine am_for (fun j => ∀ acc, acc = am_it (fun j acc => acc + cw z t0 j) j 0 → ∀ lv, am_ld1 lv 0 = some (.ref 64) → am_ld1 lv 1 = some (.int (nI k0)) → am_ld2 lv 4 = some (.long acc) → am_ld1 lv 6 = some (.int (nI j)) → am_wp pr (d) 151 161 lv [] (S, I, J0, P) Q) k0 ?_ ?_ 0 rfl _ l0 l1 rfl rfl
      · clear l0 l1 l2 l3 l4 lv
        intro j hj ih acc ha lv l0 l1 l4 l6
        refine w151_161 l6 ?_
        refine w151_163 l1 ?_
        refine w151_164 (fun hQ => absurd hQ (am_nlt hj (by omega))) (fun _ => ?_)
        refine w151_167 l4 ?_
        refine w151_169 l0 ?_
        refine w151_170 (L.2 _ _ _ rfl) ?_
        refine w151_173 l6 ?_
        refine w151_175 (L.sh rfl) (am_in_nI (by omega) (by decide)) ?_
        rw [am_clN (by omega), h0 j hj]
        refine w151_176 ?_
        refine w151_177 ?_
        refine w151_179 l6 ?_
        refine w151_182 ?_
        exact ih _ (by rw [ha]; rfl) _ l0 l1 rfl (am_nx j)
      · clear l0 l1 l2 l3 l4 lv
        intro acc ha lv l0 l1 l4 l6
        refine w151_161 l6 ?_
        refine w151_163 l1 ?_
        refine w151_164 (fun _ => ?_) (fun hQ => absurd (Int32.le_refl _) hQ)
        refine w151_185 l4 ?_
        refine w151_187 ?_
        rw [ha]
        exact k J0
theorem c288 (L : am_Lay S P) {k0 t0 : Nat} {z : Int32} (hk1 : 1 ≤ k0) (hk : k0 ≤ 20) (ht : t0 ≤ 99) (hz : I 126 70 = z) (k : ∀ J', Q (some (.long (s_few z k0 t0))) (S, I, J', P)) : am_ev pr (d + 1) 288 [.ref 124, .int (nI k0), .int (nI t0)] (S, I, J, P) Q := by
  show am_wp pr (d + 1) 288 0 [(0, .ref 124), (1, .int (nI k0)), (2, .int (nI t0))] [] _ _
  have b1 : (1 ≤ nI k0 ∧ nI k0 ≤ 20) := ⟨nI_le (a := 1) hk1 (by omega), nI_le (b := 20) hk (by decide)⟩
  have b2 : (0 ≤ nI t0 ∧ nI t0 ≤ 99) := ⟨nI_pos' (by omega), nI_le (b := 99) ht (by decide)⟩
  refine w288_0 rfl ?_
  refine w288_1 ?_
  refine w288_2 ?_
  refine w288_4 (k := c164 ?_)
  rw [am_b_t b1]
  refine w288_7 (fun hQ => absurd hQ am_n01) (fun _ => ?_)
  refine w288_10 rfl ?_
  refine w288_11 ?_
  refine w288_12 ?_
  refine w288_14 (k := c164 ?_)
  rw [am_b_t b2]
  refine w288_17 (fun _ => ?_) (fun hQ => absurd am_n01 hQ)
  refine w288_24 ?_
  refine w288_25 ?_
  refine am_for (fun j => ∀ J' : Nat → Nat → Int64, (∀ i, i < j → J' 146 i = cw z 0 i) → ∀ lv, am_ld1 lv 0 = some (.ref 124) → am_ld1 lv 1 = some (.int (nI k0)) → am_ld1 lv 2 = some (.int (nI t0)) → am_ld1 lv 3 = some (.int (nI j)) → am_wp pr (d + 1) 288 26 lv [] (S, I, J', P) Q) 21 ?_ ?_ J (fun i hi => absurd hi (Nat.not_lt_zero i)) _ rfl rfl rfl rfl
  · intro j hj ih J' h1 lv l0 l1 l2 l3
    have nx : ∀ v, v = cw z 0 j → ∀ i, i < j + 1 → am_u J' 146 j v 146 i = cw z 0 i := by
      intro v hv i hi
      by_cases y : i = j
      · subst y
        rw [am_u_self]
        exact hv
      · rw [am_u_at y]
        exact h1 i (by omega)
    by_cases hj0 : j = 0
    · refine w288_26 l3 ?_
      refine w288_27 ?_
      refine w288_29 (fun hQ => absurd hQ (nI_nlt (a := 20) (b := j) (by omega) (by decide))) (fun _ => ?_)
      refine w288_32 l0 ?_
      refine w288_33 (L.2 _ _ _ rfl) ?_
      refine w288_36 l3 ?_
      refine w288_37 l3 ?_
      refine w288_38 (fun hQ => absurd hQ (fun q => q (by rw [hj0]; rfl))) (fun _ => ?_)
      refine w288_41 ?_
      refine w288_44 ?_
      refine w288_48 (L.sh rfl) (am_in_nI hj (by decide)) ?_
      rw [am_clN (by omega)]
      refine w288_49 l3 ?_
      refine w288_52 ?_
      exact ih _ (nx _ (by rw [hj0]; rfl)) _ l0 l1 l2 (am_nx j)
    · refine w288_26 l3 ?_
      refine w288_27 ?_
      refine w288_29 (fun hQ => absurd hQ (nI_nlt (a := 20) (b := j) (by omega) (by decide))) (fun _ => ?_)
      refine w288_32 l0 ?_
      refine w288_33 (L.2 _ _ _ rfl) ?_
      refine w288_36 l3 ?_
      refine w288_37 l3 ?_
      refine w288_38 (fun _ => ?_) (fun hQ => absurd (nI_ne0 (by omega) (by omega)) hQ)
      refine w288_47 ?_
      refine w288_48 (L.sh rfl) (am_in_nI hj (by decide)) ?_
      rw [am_clN (by omega)]
      refine w288_49 l3 ?_
      refine w288_52 ?_
      exact ih _ (nx _ (if_neg hj0).symm) _ l0 l1 l2 (am_nx j)
  · intro J0 h0 lv l0 l1 l2 l3
    refine w288_26 l3 ?_
    refine w288_27 ?_
    refine w288_29 (fun _ => ?_) (fun hQ => absurd (by decide) hQ)
    refine w288_55 ?_
    refine w288_56 ?_
    refine am_for (fun t => ∀ J' : Nat → Nat → Int64, (∀ i, i < k0 → J' 146 i = cw z t i) → ∀ lv, am_ld1 lv 0 = some (.ref 124) → am_ld1 lv 1 = some (.int (nI k0)) → am_ld1 lv 2 = some (.int (nI t0)) → am_ld1 lv 3 = some (.int (nI t)) → am_wp pr (d + 1) 288 57 lv [] (S, I, J', P) Q) t0 ?_ ?_ J0 (fun i hi => h0 i (by omega)) _ l0 l1 l2 rfl
    · clear l0 l1 l2 l3 lv h0 J0
      intro t ht2 ih J0 h0 lv l0 l1 l2 l3
      have ek : nI k0 - 1 = nI (k0 - 1) := nI_sub1 (by omega)
      refine w288_57 l3 ?_
      refine w288_58 l2 ?_
      refine w288_59 (fun hQ => absurd hQ (am_nlt ht2 (by omega))) (fun _ => ?_)
      refine w288_62 l1 ?_
      refine w288_63 ?_
      refine w288_64 ?_
      rw [ek]
      refine w288_65 ?_
      refine am_for (fun p => ∀ J' : Nat → Nat → Int64, (∀ i, i < k0 - p → J' 146 i = cw z t i) → (k0 - p < k0 → J' 146 (k0 - p) = cw z t (k0 - p) * (10 - z).toInt64 / 10) → (∀ i, k0 - p < i → i < k0 → J' 146 i = cw z (t + 1) i) → ∀ lv, am_ld1 lv 0 = some (.ref 124) → am_ld1 lv 1 = some (.int (nI k0)) → am_ld1 lv 2 = some (.int (nI t0)) → am_ld1 lv 3 = some (.int (nI t)) → am_ld1 lv 4 = some (.int (o_tm (k0 - p))) → am_wp pr (d + 1) 288 67 lv [] (S, I, J', P) Q) k0 ?_ ?_ J0 h0 (fun q => absurd q (by omega)) (fun i h1 h2 => absurd h1 (by omega)) _ l0 l1 l2 l3 (by rw [show k0 - 0 = (k0 - 1) + 1 by omega]; rfl)
      · clear l0 l1 l2 l3 lv h0 J0
        intro p hp ih J' h1 h2 h3 lv l0 l1 l2 l3 l4
        obtain ⟨j, hj⟩ : ∃ j, k0 - p = j + 1 := ⟨k0 - p - 1, by omega⟩
        have hj2 : k0 - (p + 1) = j := by omega
        rw [hj] at h1 h2 h3 l4
        change am_ld1 lv 4 = some (.int (nI j)) at l4
        rw [hj2] at ih
        have e1 := h1 j (by omega)
        have u1 : ∀ v : Int64, am_u J' 146 (j + 1) v 146 j = cw z t j := fun v => by rw [am_u_at (by omega)]; exact e1
        refine w288_67 l4 ?_
        refine w288_69 (fun hQ => absurd hQ (nI_pos (by omega))) (fun _ => ?_)
        refine w288_72 l0 ?_
        refine w288_73 (L.2 _ _ _ rfl) ?_
        refine w288_76 l4 ?_
        refine w288_78 ?_
        refine w288_79 ?_
        rw [nI_1]
        refine w288_80 ⟨rfl, rfl⟩ ?_
        refine w288_81 (L.sh rfl) (am_in_nI (by omega) (by decide)) ?_
        rw [am_clN (by omega)]
        refine w288_82 l0 ?_
        refine w288_83 (L.2 _ _ _ rfl) ?_
        refine w288_86 l4 ?_
        refine w288_88 (L.sh rfl) (am_in_nI (by omega) (by decide)) ?_
        rw [am_clN (by omega), e1]
        refine w288_89 l0 ?_
        refine w288_90 (L.2 _ _ _ rfl) ?_
        refine w288_93 ?_
        refine w288_95 (L.sh rfl) (by decide) ?_
        rw [tl_70, hz]
        refine w288_96 ?_
        refine w288_97 ?_
        refine w288_98 ?_
        refine w288_101 (by decide) ?_
        refine w288_102 ?_
        refine w288_103 (L.sh rfl) (am_in_nI (by omega) (by decide)) ?_
        rw [am_clN (by omega)]
        refine w288_104 l0 ?_
        refine w288_105 (L.2 _ _ _ rfl) ?_
        refine w288_108 l4 ?_
        refine w288_110 l0 ?_
        refine w288_111 (L.2 _ _ _ rfl) ?_
        refine w288_114 l4 ?_
        refine w288_116 (L.sh rfl) (am_in_nI (by omega) (by decide)) ?_
        rw [am_clN (by omega), u1]
        refine w288_117 ?_
        refine w288_119 l0 ?_
        refine w288_120 (L.2 _ _ _ rfl) ?_
        refine w288_123 ?_
        refine w288_125 (L.sh rfl) (by decide) ?_
        rw [tl_70, hz]
        refine w288_126 ?_
        refine w288_127 ?_
        refine w288_128 ?_
        refine w288_129 ?_
        refine w288_132 (by decide) ?_
        refine w288_133 (L.sh rfl) (am_in_nI (by omega) (by decide)) ?_
        rw [am_clN (by omega)]
        refine w288_134 l4 ?_
        refine w288_137 ?_
        refine ih _ (fun i hi => ?_) (fun _ => ?_) (fun i hi hi2 => ?_) _ l0 l1 l2 l3 (o_tmE j)
        · rw [am_u_at (by omega), am_u_at (by omega)]
          exact h1 i (by omega)
        · exact am_u_self
        · rw [am_u_at (by omega)]
          by_cases y : i = j + 1
          · subst y
            rw [am_u_self, h2 hi2]
            exact cw_s z t j
          · rw [am_u_at y]
            exact h3 i (by omega) hi2
      · clear l0 l1 l2 l3 lv h0 J0
        intro J' h1 h2 h3 lv l0 l1 l2 l3 l4
        rw [Nat.sub_self] at h2 h3 l4
        refine w288_67 l4 ?_
        refine w288_69 (fun _ => ?_) (fun hQ => absurd (by decide) hQ)
        refine w288_140 l3 ?_
        refine w288_143 ?_
        refine ih J' (fun i hi => ?_) _ l0 l1 l2 (am_nx t)
        by_cases y : i = 0
        · subst y
          rw [h2 (by omega)]
          exact cw_0 z t
        · exact h3 i (by omega) hi
    · clear l0 l1 l2 l3 lv h0 J0
      intro J0 h0 lv l0 l1 l2 l3
      refine w288_57 l3 ?_
      refine w288_58 l2 ?_
      refine w288_59 (fun _ => ?_) (fun hQ => absurd (Int32.le_refl _) hQ)
      refine w288_146 ?_
      refine w288_147 ?_
      refine w288_148 ?_
      refine w288_149 ?_
      refine am_for (fun j => ∀ acc, acc = am_it (fun j acc => acc + cw z t0 j) j 0 → ∀ lv, am_ld1 lv 0 = some (.ref 124) → am_ld1 lv 1 = some (.int (nI k0)) → am_ld2 lv 3 = some (.long acc) → am_ld1 lv 5 = some (.int (nI j)) → am_wp pr (d + 1) 288 151 lv [] (S, I, J0, P) Q) k0 ?_ ?_ 0 rfl _ l0 l1 rfl rfl
      · clear l0 l1 l2 l3 lv
        intro j hj ih acc ha lv l0 l1 l3 l5
        refine w288_151 l5 ?_
        refine w288_153 l1 ?_
        refine w288_154 (fun hQ => absurd hQ (am_nlt hj (by omega))) (fun _ => ?_)
        refine w288_157 l3 ?_
        refine w288_158 l0 ?_
        refine w288_159 (L.2 _ _ _ rfl) ?_
        refine w288_162 l5 ?_
        refine w288_164 (L.sh rfl) (am_in_nI (by omega) (by decide)) ?_
        rw [am_clN (by omega), h0 j hj]
        refine w288_165 ?_
        refine w288_166 ?_
        refine w288_167 l5 ?_
        refine w288_170 ?_
        exact ih _ (by rw [ha]; rfl) _ l0 l1 rfl (am_nx j)
      · clear l0 l1 l2 l3 lv
        intro acc ha lv l0 l1 l3 l5
        refine w288_151 l5 ?_
        refine w288_153 l1 ?_
        refine w288_154 (fun _ => ?_) (fun hQ => absurd (Int32.le_refl _) hQ)
        refine w288_173 l3 ?_
        refine w288_174 ?_
        rw [ha]
        exact k J0
/-- few -/
theorem op_33 (r : am_R S I P n l s u tp) {x y : Int32} : am_opL pr (d + 60) S I J P 151 [.ref 64, .int x, .int y] 288 [.ref 124, .int x, .int y] := by
  have hr := r.hr
  have L := r.L
  by_cases hx : 1 ≤ x ∧ x ≤ 20
  · by_cases hy : 0 ≤ y ∧ y ≤ 99
    · obtain ⟨k0, hk0, rfl⟩ := nI_of2 (M := 20) (n := 20) (by decide) (Int32.not_lt.mpr (Int32.le_trans (by decide) hx.1)) hx.2
      obtain ⟨t0, ht0, rfl⟩ := nI_of2 (M := 99) (n := 99) (by decide) (Int32.not_lt.mpr hy.1) hy.2
      have hk1 : 1 ≤ k0 := (nI_leI (a := 1) (by decide) (by omega)).mp hx.1
      exact c151 L hk1 hk0 ht0 hr.tz (fun J1 => ⟨_, rfl, c288 L hk1 hk0 ht0 rfl (fun J2 => ⟨rfl, am_gr_0 S, n, l, s, u, tp, r⟩)⟩)
    · show am_wp pr (d + 60) 151 0 [(0, .ref 64), (1, .int x), (2, .int y)] [] _ _
      have kk : ∃ v, (some (Value.long (-1)) : Option Value) = some (.long v) ∧ am_ev pr (d + 60) 288 [.ref 124, .int x, .int y] (S, I, J, P) (am_oi S (.long v)) := by
        refine ⟨-1, rfl, ?_⟩
        show am_wp pr (d + 60) 288 0 [(0, .ref 124), (1, .int x), (2, .int y)] [] _ _
        refine w288_0 rfl ?_
        refine w288_1 ?_
        refine w288_2 ?_
        refine w288_4 (k := c164 ?_)
        rw [am_b_t hx]
        refine w288_7 (fun hQ => absurd hQ am_n01) (fun _ => ?_)
        refine w288_10 rfl ?_
        refine w288_11 ?_
        refine w288_12 ?_
        refine w288_14 (k := c164 ?_)
        rw [am_b_f hy]
        refine w288_17 (fun hQ => absurd hQ (by decide)) (fun _ => ?_)
        refine w288_20 ?_
        refine w288_23 ?_
        exact ⟨rfl, am_gr_0 S, n, l, s, u, tp, r⟩
      refine w151_0 rfl ?_
      refine w151_1 ?_
      refine w151_2 (fun h2 => ?_) (fun h2 => ?_)
      · refine w151_21 ?_
        refine w151_24 ?_
        exact kk
      · replace h2 := Int32.not_lt.mp h2
        refine w151_5 rfl ?_
        refine w151_6 ?_
        refine w151_8 (fun h8 => ?_) (fun h8 => ?_)
        · refine w151_21 ?_
          refine w151_24 ?_
          exact kk
        · replace h8 := Int32.not_lt.mp h8
          refine w151_11 rfl ?_
          refine w151_12 (fun h12 => ?_) (fun h12 => ?_)
          · refine w151_21 ?_
            refine w151_24 ?_
            exact kk
          · replace h12 := Int32.not_lt.mp h12
            refine w151_15 rfl ?_
            refine w151_16 ?_
            refine w151_18 (fun h18 => ?_) (fun h18 => ?_)
            · exact absurd ⟨h12, h18⟩ hy
            · replace h18 := Int32.not_le.mp h18
              refine w151_21 ?_
              refine w151_24 ?_
              exact kk
  · show am_wp pr (d + 60) 151 0 [(0, .ref 64), (1, .int x), (2, .int y)] [] _ _
    have kk : ∃ v, (some (Value.long (-1)) : Option Value) = some (.long v) ∧ am_ev pr (d + 60) 288 [.ref 124, .int x, .int y] (S, I, J, P) (am_oi S (.long v)) := by
      refine ⟨-1, rfl, ?_⟩
      show am_wp pr (d + 60) 288 0 [(0, .ref 124), (1, .int x), (2, .int y)] [] _ _
      refine w288_0 rfl ?_
      refine w288_1 ?_
      refine w288_2 ?_
      refine w288_4 (k := c164 ?_)
      rw [am_b_f hx]
      refine w288_7 (fun _ => ?_) (fun hQ => absurd rfl hQ)
      refine w288_20 ?_
      refine w288_23 ?_
      exact ⟨rfl, am_gr_0 S, n, l, s, u, tp, r⟩
    refine w151_0 rfl ?_
    refine w151_1 ?_
    refine w151_2 (fun h2 => ?_) (fun h2 => ?_)
    · refine w151_21 ?_
      refine w151_24 ?_
      exact kk
    · replace h2 := Int32.not_lt.mp h2
      refine w151_5 rfl ?_
      refine w151_6 ?_
      refine w151_8 (fun h8 => ?_) (fun h8 => ?_)
      · refine w151_21 ?_
        refine w151_24 ?_
        exact kk
      · replace h8 := Int32.not_lt.mp h8
        exact absurd ⟨h2, h8⟩ hx
end
