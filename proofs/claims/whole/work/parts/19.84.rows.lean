/-! rows of the tape -/
section
variable {pr : am_Pr} {d : Nat} {S : List (Nat × Nat)} {I : Nat → Nat → Int32} {J : Nat → Nat → Int64} {P : Nat → Nat → Option Nat} {Q : Option Value → am_H → Prop} {n l s u tp : Nat} {kp lf kp' : Nat → Int32}
def r_ok (T : Nat → Int32) (r c : Nat) : Prop := c < 7 ∧ (1 ≤ T (7 * r) ∧ T (7 * r) ≤ 9 ∧ 0 ≤ T (7 * r + 1) ∧ T (7 * r + 1) ≤ 3) ∧ ∀ b, b < 5 → 0 ≤ T (7 * r + 2 + b) ∧ T (7 * r + 2 + b) ≤ 9
def r_ad (T : Nat → Int32) (r c : Nat) (kp : Nat → Int32) : Nat → Int32 := fun j => if j = 73 then nI (c + 1) else if c * 5 ≤ j ∧ j < c * 5 + 5 then T (7 * r + 2 + (j - c * 5)) else if j = 35 + c then 1 else if j = 51 + c then T (7 * r + 1) else if j = 44 + c then T (7 * r) else kp j
noncomputable def r_st (T : Nat → Int32) (kp : Nat → Int32) (n : Nat) : Nat → Nat × (Nat → Int32)
  | 0 => (n, kp)
  | r + 1 => @ite _ (r_ok T r (r_st T kp n r).1) (Classical.propDecidable _) ((r_st T kp n r).1 + 1, r_ad T r (r_st T kp n r).1 (r_st T kp n r).2) (r_st T kp n r)
theorem r_st_y {T : Nat → Int32} {r : Nat} (h : r_ok T r (r_st T kp n r).1) : r_st T kp n (r + 1) = ((r_st T kp n r).1 + 1, r_ad T r (r_st T kp n r).1 (r_st T kp n r).2) := if_pos h
theorem r_st_n {T : Nat → Int32} {r : Nat} (h : ¬ r_ok T r (r_st T kp n r).1) : r_st T kp n (r + 1) = r_st T kp n r := if_neg h
theorem r_st_b {T : Nat → Int32} (n7 : n ≤ 7) : ∀ r, n ≤ (r_st T kp n r).1 ∧ (r_st T kp n r).1 ≤ n + r ∧ (r_st T kp n r).1 ≤ 7
  | 0 => ⟨Nat.le_refl _, Nat.le_refl _, n7⟩
  | r + 1 => by
    obtain ⟨h1, h2, h3⟩ := r_st_b (T := T) n7 r
    by_cases z : r_ok T r (r_st T kp n r).1
    · rw [r_st_y z]
      have := z.1
      exact ⟨by show n ≤ _ + 1; omega, by show _ + 1 ≤ _; omega, by show _ + 1 ≤ _; omega⟩
    · rw [r_st_n z]
      exact ⟨h1, by omega, h3⟩
theorem r_by {b : Int32} (h : b.toInt8.toInt32 = b) : (0 ≤ b ∧ b ≤ 9 → b &&& 255 = b) ∧ (0 ≤ b &&& 255 ∧ b &&& 255 ≤ 9 → b &&& 255 = b) := by
  have q : (List.range 256).all (fun k => decide ((0 ≤ (Int8.ofBitVec (BitVec.ofNat 8 k)).toInt32 ∧ (Int8.ofBitVec (BitVec.ofNat 8 k)).toInt32 ≤ 9 → (Int8.ofBitVec (BitVec.ofNat 8 k)).toInt32 &&& 255 = (Int8.ofBitVec (BitVec.ofNat 8 k)).toInt32) ∧ (0 ≤ (Int8.ofBitVec (BitVec.ofNat 8 k)).toInt32 &&& 255 ∧ (Int8.ofBitVec (BitVec.ofNat 8 k)).toInt32 &&& 255 ≤ 9 → (Int8.ofBitVec (BitVec.ofNat 8 k)).toInt32 &&& 255 = (Int8.ofBitVec (BitVec.ofNat 8 k)).toInt32))) = true := by decide +kernel
  have e : Int8.ofBitVec (BitVec.ofNat 8 b.toInt8.toBitVec.toNat) = b.toInt8 := by
    rw [BitVec.ofNat_toNat, BitVec.setWidth_eq]
    rfl
  have z := of_decide_eq_true (List.all_eq_true.mp q b.toInt8.toBitVec.toNat (List.mem_range.mpr (BitVec.isLt _)))
  rw [e, h] at z
  exact z
theorem r_ok_i {A B : Nat → Int32} {r c t : Nat} (ht : 7 * r + 7 ≤ t) (h : ∀ k, k < t → A k = B k &&& 255 ∧ (B k).toInt8.toInt32 = B k) : (r_ok A r c ↔ r_ok B r c) ∧ (r_ok B r c → ∀ q, q < 7 → A (7 * r + q) = B (7 * r + q)) := by
  have y : ∀ q, q < 7 → (0 ≤ B (7 * r + q) ∧ B (7 * r + q) ≤ 9 → A (7 * r + q) = B (7 * r + q)) ∧ (0 ≤ A (7 * r + q) ∧ A (7 * r + q) ≤ 9 → A (7 * r + q) = B (7 * r + q)) := fun q hq => by
    obtain ⟨h1, h2⟩ := h (7 * r + q) (by omega)
    rw [h1]
    exact r_by h2
  have t1 : ∀ {x : Int32}, 1 ≤ x → 0 ≤ x := fun h => Int32.le_trans (by decide) h
  have t3 : ∀ {x : Int32}, x ≤ 3 → x ≤ 9 := fun h => Int32.le_trans h (by decide)
  have w : r_ok B r c → ∀ q, q < 7 → A (7 * r + q) = B (7 * r + q) := by
    rintro ⟨z0, ⟨z1, z2, z3, z4⟩, z5⟩ q hq
    refine (y q hq).1 ?_
    by_cases e0 : q = 0
    · subst e0; exact ⟨t1 z1, z2⟩
    · by_cases e1 : q = 1
      · subst e1; exact ⟨z3, t3 z4⟩
      · have := z5 (q - 2) (by omega)
        rw [show 7 * r + 2 + (q - 2) = 7 * r + q by omega] at this
        exact this
  have w2 : r_ok A r c → ∀ q, q < 7 → A (7 * r + q) = B (7 * r + q) := by
    rintro ⟨z0, ⟨z1, z2, z3, z4⟩, z5⟩ q hq
    refine (y q hq).2 ?_
    by_cases e0 : q = 0
    · subst e0; exact ⟨t1 z1, z2⟩
    · by_cases e1 : q = 1
      · subst e1; exact ⟨z3, t3 z4⟩
      · have := z5 (q - 2) (by omega)
        rw [show 7 * r + 2 + (q - 2) = 7 * r + q by omega] at this
        exact this
  refine ⟨⟨fun g => ?_, fun g => ?_⟩, w⟩
  · have v := w2 g
    obtain ⟨z0, z1, z5⟩ := g
    refine ⟨z0, ?_, fun b hb => ?_⟩
    · rw [← v 1 (by omega), show 7 * r = 7 * r + 0 from rfl, ← v 0 (by omega)]; exact z1
    · have := v (2 + b) (by omega)
      rw [← Nat.add_assoc] at this
      rw [← this]; exact z5 b hb
  · have v := w g
    obtain ⟨z0, z1, z5⟩ := g
    refine ⟨z0, ?_, fun b hb => ?_⟩
    · rw [v 1 (by omega), show 7 * r = 7 * r + 0 from rfl, v 0 (by omega)]; exact z1
    · have := v (2 + b) (by omega)
      rw [← Nat.add_assoc] at this
      rw [this]; exact z5 b hb
theorem r_st_i {A B : Nat → Int32} {t : Nat} (h : ∀ k, k < t → A k = B k &&& 255 ∧ (B k).toInt8.toInt32 = B k) : ∀ r, 7 * r ≤ t → r_st A kp n r = r_st B kp n r
  | 0, _ => rfl
  | r + 1, hr => by
    have ih := r_st_i h r (by omega)
    obtain ⟨h1, h2⟩ := r_ok_i (r := r) (c := (r_st B kp n r).1) (by omega) h
    by_cases z : r_ok B r (r_st B kp n r).1
    · rw [r_st_y z, r_st_y (by rw [ih]; exact h1.mpr z), ih]
      congr 1
      funext j
      unfold r_ad
      have v := h2 z
      rw [v 1 (by omega), show A (7 * r) = B (7 * r) from v 0 (by omega)]
      by_cases e : (r_st B kp n r).1 * 5 ≤ j ∧ j < (r_st B kp n r).1 * 5 + 5
      · rw [Nat.add_assoc, v _ (by omega)]
      · rw [if_neg e, if_neg e]
    · rw [r_st_n z, r_st_n (by rw [ih]; exact fun q => z (h1.mp q)), ih]
/-- memberFromTape -/
theorem c45 (L : am_Lay S P) {c r t : Nat} (hr : am_HR I 65 kp c l s) (ht : I 94 0 = nI t) (t4 : t ≤ 400) (h7 : 7 * r + 7 ≤ t) (k1 : r_ok (I 95) r c → ∀ I', (∀ a, a ≠ 65 → a ≠ 66 → a ≠ 67 → a ≠ 68 → I' a = I a) → am_HR I' 65 (r_ad (I 95) r c kp) (c + 1) l s → Q (some (.int 1)) (S, I', J, P)) (k2 : ¬ r_ok (I 95) r c → Q (some (.int 0)) (S, I, J, P)) : am_ev pr (d + 1) 45 [.ref 64, .int (nI (7 * r))] (S, I, J, P) Q := by
  have hh := L.h65
  have c7 := hr.n7
  show am_wp pr (d + 1) 45 0 [(0, .ref 64), (1, .int (nI (7 * r)))] [] _ _
  by_cases hc : c < 7
  · by_cases hm : 1 ≤ I 95 (7 * r) ∧ I 95 (7 * r) ≤ 9 ∧ 0 ≤ I 95 (7 * r + 1) ∧ I 95 (7 * r + 1) ≤ 3
    · refine w45_0 rfl ?_
      refine w45_1 (L.2 _ _ _ rfl) ?_
      refine w45_4 ?_
      rw [hr.hn]
      refine w45_7 ?_
      refine w45_9 (fun hQ => absurd hQ (am_nlt hc (by decide))) (fun _ => ?_)
      refine w45_12 rfl ?_
      refine w45_13 (fun hQ => absurd hQ (nI_pos (by omega))) (fun _ => ?_)
      refine w45_16 rfl ?_
      refine w45_17 ?_
      refine w45_18 ?_
      refine w45_19 ?_
      refine w45_20 ?_
      rw [show nI (7 * r) + 2 + 5 = nI (7 * r + 7) by rw [show (2 : Int32) = nI 2 from rfl, show (5 : Int32) = nI 5 from rfl, nI_add, nI_add]]
      refine w45_21 rfl ?_
      refine w45_22 (L.2 _ _ _ rfl) ?_
      refine w45_25 ?_
      rw [ht]
      refine w45_28 (fun _ => ?_) (fun hQ => absurd (nI_le h7 (by omega)) hQ)
      refine w45_33 rfl ?_
      refine w45_34 (L.2 _ _ _ rfl) ?_
      refine w45_37 (L.2 _ _ _ rfl) ?_
      refine w45_40 rfl ?_
      refine w45_41 (L.sh rfl) (am_in_nI (by omega) (by decide)) ?_
      rw [am_clN (by omega)]
      refine w45_42 ?_
      refine w45_43 rfl ?_
      refine w45_44 (L.2 _ _ _ rfl) ?_
      refine w45_47 (L.2 _ _ _ rfl) ?_
      refine w45_50 rfl ?_
      refine w45_51 ?_
      refine w45_52 ?_
      rw [nI_1]
      refine w45_53 (L.sh rfl) (am_in_nI (by omega) (by decide)) ?_
      rw [am_clN (by omega)]
      refine w45_54 ?_
      refine w45_55 rfl ?_
      refine w45_56 rfl ?_
      refine w45_57 (k := c10 ?_)
      rw [am_b_t hm]
      refine w45_60 (fun _ => ?_) (fun hQ => absurd am_n01 hQ)
      refine w45_65 ?_
      refine w45_66 ?_
      refine am_for (fun b => (∀ q, q < b → 0 ≤ I 95 (7 * r + 2 + q) ∧ I 95 (7 * r + 2 + q) ≤ 9) → ∀ lv, am_ld1 lv 0 = some (.ref 64) → am_ld1 lv 1 = some (.int (nI (7 * r))) → am_ld1 lv 2 = some (.int (I 95 (7 * r))) → am_ld1 lv 3 = some (.int (I 95 (7 * r + 1))) → am_ld1 lv 4 = some (.int (nI b)) → am_wp pr (d + 1) 45 68 lv [] (S, I, J, P) Q) 5 ?_ ?_ (fun q hq => absurd hq (Nat.not_lt_zero q)) _ rfl rfl rfl rfl rfl
      · intro b hb ih f lv l0 l1 l2 l3 l4
        by_cases z : 0 ≤ I 95 (7 * r + 2 + b) ∧ I 95 (7 * r + 2 + b) ≤ 9
        · refine w45_68 l4 ?_
          refine w45_70 ?_
          refine w45_71 (fun hQ => absurd hQ (am_nlt hb (by decide))) (fun _ => ?_)
          refine w45_74 l0 ?_
          refine w45_75 (L.2 _ _ _ rfl) ?_
          refine w45_78 (L.2 _ _ _ rfl) ?_
          refine w45_81 l1 ?_
          refine w45_82 ?_
          refine w45_83 ?_
          rw [show (2 : Int32) = nI 2 from rfl, nI_add]
          refine w45_84 l4 ?_
          refine w45_86 ?_
          rw [nI_add]
          refine w45_87 (L.sh rfl) (am_in_nI (by omega) (by decide)) ?_
          rw [am_clN (by omega)]
          refine w45_88 (k := c46 ?_)
          rw [am_b_t z]
          refine w45_91 (fun _ => ?_) (fun hQ => absurd am_n01 hQ)
          refine w45_96 l4 ?_
          refine w45_99 ?_
          refine ih (fun q hq => ?_) _ l0 l1 l2 l3 (am_nx b)
          by_cases e : q = b
          · rw [e]; exact z
          · exact f q (by omega)
        · refine w45_68 l4 ?_
          refine w45_70 ?_
          refine w45_71 (fun hQ => absurd hQ (am_nlt hb (by decide))) (fun _ => ?_)
          refine w45_74 l0 ?_
          refine w45_75 (L.2 _ _ _ rfl) ?_
          refine w45_78 (L.2 _ _ _ rfl) ?_
          refine w45_81 l1 ?_
          refine w45_82 ?_
          refine w45_83 ?_
          rw [show (2 : Int32) = nI 2 from rfl, nI_add]
          refine w45_84 l4 ?_
          refine w45_86 ?_
          rw [nI_add]
          refine w45_87 (L.sh rfl) (am_in_nI (by omega) (by decide)) ?_
          rw [am_clN (by omega)]
          refine w45_88 (k := c46 ?_)
          rw [am_b_f z]
          refine w45_91 (fun hQ => absurd hQ (fun q => q rfl)) (fun _ => ?_)
          refine w45_94 ?_
          refine w45_95 (by first | rfl | exact am_narrow_b _) ?_
          exact k2 (fun q => z (q.2.2 b hb))
      · intro f lv l0 l1 l2 l3 l4
        have ok : r_ok (I 95) r c := ⟨hc, hm, f⟩
        refine w45_68 l4 ?_
        refine w45_70 ?_
        refine w45_71 (fun _ => ?_) (fun hQ => absurd (Int32.le_refl _) hQ)
        refine w45_102 l0 ?_
        refine w45_103 (L.2 _ _ _ rfl) ?_
        refine w45_106 l2 ?_
        refine w45_107 l3 ?_
        refine w45_108 (k := c13b hh hr.hn hc (fun I1 g1 hA => ?_))
        refine w45_111 ?_
        refine w45_113 ?_
        refine w45_114 ?_
        obtain ⟨a0, a1, a2, a3, a4, a5⟩ := hA
        have e95 : I1 95 = I 95 := g1 95 (by decide) (by decide) (by decide) (by decide)
        refine am_for (fun b => ∀ I' : Nat → Nat → Int32, (∀ a, a ≠ 68 → I' a = I1 a) → (∀ j, I' 68 j = if c * 5 ≤ j ∧ j < c * 5 + b then I 95 (7 * r + 2 + (j - c * 5)) else I1 68 j) → ∀ lv, am_ld1 lv 0 = some (.ref 64) → am_ld1 lv 1 = some (.int (nI (7 * r))) → am_ld1 lv 4 = some (.int (nI c)) → am_ld1 lv 5 = some (.int (nI b)) → am_wp pr (d + 1) 45 116 lv [] (S, I', J, P) Q) 5 ?_ ?_ I1 (fun _ _ => rfl) (fun j => by rw [if_neg (by omega)]) _ l0 l1 rfl rfl
        · clear l0 l1 l2 l3 l4 lv
          intro b hb ih I' p1 p2 lv l0 l1 l4 l5
          have e65 : I' 65 0 = nI (c + 1) := by rw [p1 65 (by decide)]; exact a0
          have q95 : I' 95 (7 * r + 2 + b) = I 95 (7 * r + 2 + b) := by rw [p1 95 (by decide), e95]
          refine w45_116 l5 ?_
          refine w45_118 ?_
          refine w45_119 (fun hQ => absurd hQ (am_nlt hb (by decide))) (fun _ => ?_)
          refine w45_122 l0 ?_
          refine w45_123 (L.2 _ _ _ rfl) ?_
          refine w45_126 l4 ?_
          refine w45_128 (k := c16 hh ?_)
          rw [e65, am_mem7 (by omega) (by omega)]
          refine w45_131 (fun hQ => absurd hQ (by decide)) (fun _ => ?_)
          refine w45_134 l0 ?_
          refine w45_135 (L.2 _ _ _ rfl) ?_
          refine w45_138 (L.2 _ _ _ rfl) ?_
          refine w45_141 l4 ?_
          refine w45_143 ?_
          refine w45_144 ?_
          rw [show nI c * 5 = nI (c * 5) from pk_mul c 5]
          refine w45_145 l5 ?_
          refine w45_147 ?_
          rw [nI_add]
          refine w45_148 l0 ?_
          refine w45_149 (L.2 _ _ _ rfl) ?_
          refine w45_152 (L.2 _ _ _ rfl) ?_
          refine w45_155 l1 ?_
          refine w45_156 ?_
          refine w45_157 ?_
          rw [show (2 : Int32) = nI 2 from rfl, nI_add]
          refine w45_158 l5 ?_
          refine w45_160 ?_
          rw [nI_add]
          refine w45_161 (L.sh rfl) (am_in_nI (by omega) (by decide)) ?_
          rw [am_clN (by omega), q95]
          refine w45_162 (L.sh rfl) (am_in_nI (by omega) (by decide)) ?_
          rw [am_clN (by omega)]
          refine w45_163 l5 ?_
          refine w45_166 ?_
          refine ih _ (fun a ha => by rw [am_u_ne ha]; exact p1 a ha) (fun j => ?_) _ l0 l1 l4 (am_nx b)
          rw [am_u_get, p2]
          by_cases z : j = c * 5 + b
          · rw [if_pos ⟨rfl, z⟩, if_pos (by omega), show j - c * 5 = b by omega]
          · rw [if_neg (fun q => z q.2)]
            by_cases y : c * 5 ≤ j ∧ j < c * 5 + b
            · rw [if_pos y, if_pos (by omega)]
            · rw [if_neg y, if_neg (by omega)]
        · clear l0 l1 l2 l3 l4 lv
          intro I' p1 p2 lv l0 l1 l4 l5
          have w : ∀ b, b < 5 → ∃ v, v ≤ 9 ∧ I 95 (7 * r + 2 + b) = nI v := fun b hb => by
            obtain ⟨v, v1, v2⟩ := nI_of2 (M := 9) (n := 9) (by decide) (Int32.not_lt.mpr (f b hb).1) (f b hb).2
            exact ⟨v, v1, v2⟩
          have w2 : ∀ b, b < 5 → (I 95 (7 * r + 2 + b)).toNatClampNeg ≤ 9 ∧ I 95 (7 * r + 2 + b) = nI (I 95 (7 * r + 2 + b)).toNatClampNeg := fun b hb => by
            obtain ⟨v, v1, v2⟩ := w b hb
            rw [v2, am_clN (by omega)]
            exact ⟨v1, rfl⟩
          refine w45_116 l5 ?_
          refine w45_118 ?_
          refine w45_119 (fun _ => ?_) (fun hQ => absurd (Int32.le_refl _) hQ)
          refine w45_169 ?_
          refine w45_170 (by first | rfl | exact am_narrow_b _) ?_
          refine k1 ok I' (fun a h1 h2 h3 h4 => by rw [p1 a h4, g1 a h1 h2 h3 h4]) (am_HR_add (x := I 95 (7 * r)) (y := I 95 (7 * r + 1)) (w := fun b => (I 95 (7 * r + 2 + b)).toNatClampNeg) hr hc (am_v9 ⟨hm.1, hm.2.1⟩) ?_ ?_ ?_ ?_ ?_ ?_ ?_ ?_ ?_ ?_ ?_ ?_ ?_ ?_ ?_)
          · rw [p1 65 (by decide)]; exact a0
          · rw [p1 65 (by decide)]; exact a1
          · intro q hq; rw [p1 65 (by decide)]; exact a2 q hq
          · intro j; rw [p1 _ (by decide)]; exact a3 j
          · intro j; rw [p1 _ (by decide)]; exact a4 j
          · intro j hj
            show I' 68 j = I 68 j
            rw [p2, if_neg (by omega)]
            exact (a5 j).trans (if_neg (by omega))
          · intro b hb
            refine ⟨(w2 b hb).1, ?_, ?_⟩
            · show I' 68 (c * 5 + b) = _
              rw [p2, if_pos (by omega), Nat.add_sub_cancel_left]
              exact (w2 b hb).2
            · unfold r_ad
              rw [if_neg (by omega), if_pos (by omega), Nat.add_sub_cancel_left]
              exact (w2 b hb).2
          · rw [p1 _ (by decide)]; exact g1 _ (by decide) (by decide) (by decide) (by decide)
          · rw [p1 _ (by decide)]; exact g1 _ (by decide) (by decide) (by decide) (by decide)
          · rw [p1 _ (by decide)]; exact g1 _ (by decide) (by decide) (by decide) (by decide)
          · unfold r_ad; rw [if_pos rfl]
          · unfold r_ad; rw [if_neg (by omega), if_neg (by omega), if_pos rfl]
          · unfold r_ad; rw [if_neg (by omega), if_neg (by omega), if_neg (by omega), if_neg (by omega), if_pos rfl]
          · unfold r_ad; rw [if_neg (by omega), if_neg (by omega), if_neg (by omega), if_pos rfl]
          · intro j b1 b2 b3 b4 b5
            unfold r_ad
            rw [if_neg b1, if_neg b5, if_neg b2, if_neg b4, if_neg b3]
    · refine w45_0 rfl ?_
      refine w45_1 (L.2 _ _ _ rfl) ?_
      refine w45_4 ?_
      rw [hr.hn]
      refine w45_7 ?_
      refine w45_9 (fun hQ => absurd hQ (am_nlt hc (by decide))) (fun _ => ?_)
      refine w45_12 rfl ?_
      refine w45_13 (fun hQ => absurd hQ (nI_pos (by omega))) (fun _ => ?_)
      refine w45_16 rfl ?_
      refine w45_17 ?_
      refine w45_18 ?_
      refine w45_19 ?_
      refine w45_20 ?_
      rw [show nI (7 * r) + 2 + 5 = nI (7 * r + 7) by rw [show (2 : Int32) = nI 2 from rfl, show (5 : Int32) = nI 5 from rfl, nI_add, nI_add]]
      refine w45_21 rfl ?_
      refine w45_22 (L.2 _ _ _ rfl) ?_
      refine w45_25 ?_
      rw [ht]
      refine w45_28 (fun _ => ?_) (fun hQ => absurd (nI_le h7 (by omega)) hQ)
      refine w45_33 rfl ?_
      refine w45_34 (L.2 _ _ _ rfl) ?_
      refine w45_37 (L.2 _ _ _ rfl) ?_
      refine w45_40 rfl ?_
      refine w45_41 (L.sh rfl) (am_in_nI (by omega) (by decide)) ?_
      rw [am_clN (by omega)]
      refine w45_42 ?_
      refine w45_43 rfl ?_
      refine w45_44 (L.2 _ _ _ rfl) ?_
      refine w45_47 (L.2 _ _ _ rfl) ?_
      refine w45_50 rfl ?_
      refine w45_51 ?_
      refine w45_52 ?_
      rw [nI_1]
      refine w45_53 (L.sh rfl) (am_in_nI (by omega) (by decide)) ?_
      rw [am_clN (by omega)]
      refine w45_54 ?_
      refine w45_55 rfl ?_
      refine w45_56 rfl ?_
      refine w45_57 (k := c10 ?_)
      rw [am_b_f hm]
      refine w45_60 (fun hQ => absurd hQ (fun q => q rfl)) (fun _ => ?_)
      refine w45_63 ?_
      refine w45_64 (by first | rfl | exact am_narrow_b _) ?_
      exact k2 (fun q => hm q.2.1)
  · refine w45_0 rfl ?_
    refine w45_1 (L.2 _ _ _ rfl) ?_
    refine w45_4 ?_
    rw [hr.hn]
    refine w45_7 ?_
    refine w45_9 (fun _ => ?_) (fun hQ => absurd (nI_le (a := 7) (by omega) (by omega)) hQ)
    refine w45_31 ?_
    refine w45_32 (by first | rfl | exact am_narrow_b _) ?_
    exact k2 (fun q => hc q.1)
theorem c45n (L : am_Lay S P) {c r t : Nat} (hr : am_HR I 65 kp c l s) (ht : I 94 0 = nI t) (t4 : t ≤ 400) (hr4 : 7 * r ≤ 400) (h7 : ¬ 7 * r + 7 ≤ t) (k : Q (some (.int 0)) (S, I, J, P)) : am_ev pr (d + 1) 45 [.ref 64, .int (nI (7 * r))] (S, I, J, P) Q := by
  have c7 := hr.n7
  show am_wp pr (d + 1) 45 0 [(0, .ref 64), (1, .int (nI (7 * r)))] [] _ _
  by_cases hc : c < 7
  · refine w45_0 rfl ?_
    refine w45_1 (L.2 _ _ _ rfl) ?_
    refine w45_4 ?_
    rw [hr.hn]
    refine w45_7 ?_
    refine w45_9 (fun hQ => absurd hQ (am_nlt hc (by decide))) (fun _ => ?_)
    refine w45_12 rfl ?_
    refine w45_13 (fun hQ => absurd hQ (nI_pos (by omega))) (fun _ => ?_)
    refine w45_16 rfl ?_
    refine w45_17 ?_
    refine w45_18 ?_
    refine w45_19 ?_
    refine w45_20 ?_
    rw [show nI (7 * r) + 2 + 5 = nI (7 * r + 7) by rw [show (2 : Int32) = nI 2 from rfl, show (5 : Int32) = nI 5 from rfl, nI_add, nI_add]]
    refine w45_21 rfl ?_
    refine w45_22 (L.2 _ _ _ rfl) ?_
    refine w45_25 ?_
    rw [ht]
    refine w45_28 (fun hQ => absurd hQ (am_nlt (by omega) (by omega))) (fun _ => ?_)
    refine w45_31 ?_
    refine w45_32 (by first | rfl | exact am_narrow_b _) ?_
    exact k
  · refine w45_0 rfl ?_
    refine w45_1 (L.2 _ _ _ rfl) ?_
    refine w45_4 ?_
    rw [hr.hn]
    refine w45_7 ?_
    refine w45_9 (fun _ => ?_) (fun hQ => absurd (nI_le (a := 7) (by omega) (by omega)) hQ)
    refine w45_31 ?_
    refine w45_32 (by first | rfl | exact am_narrow_b _) ?_
    exact k
/-- row -/
theorem c44 (L : am_Lay S P) {t : Nat} (hr : am_HR I 65 kp n l s) (ht : I 94 0 = nI t) (t4 : t ≤ 400) (t0 : 0 < t) (k : ∀ I', (∀ a, a ≠ 64 → a ≠ 65 → a ≠ 66 → a ≠ 67 → a ≠ 68 → a ≠ 90 → a ≠ 94 → I' a = I a) → (∀ q, q ≠ 14 → q ≠ 16 → I' 64 q = I 64 q) → I' 64 14 = nI ((t + 6) / 7 - ((r_st (I 95) kp n (t / 7)).1 - n)) → I' 64 16 = 0 → I' 94 0 = 0 → I' 90 0 = 0 → am_HR I' 65 (r_st (I 95) kp n (t / 7)).2 (r_st (I 95) kp n (t / 7)).1 l s → Q (some (.int (nI ((r_st (I 95) kp n (t / 7)).1 - n)))) (S, I', J, P)) : am_ev pr (d + 2) 44 [.ref 64] (S, I, J, P) Q := by
  have n7 := hr.n7
  have hp := L.p90
  have hb := r_st_b (T := I 95) (kp := kp) n7
  have fin : ∀ (I' : Nat → Nat → Int32) (x : Nat), x = (t + 6) / 7 - ((r_st (I 95) kp n (t / 7)).1 - n) → (∀ a, a ≠ 65 → a ≠ 66 → a ≠ 67 → a ≠ 68 → I' a = I a) → am_HR I' 65 (r_st (I 95) kp n (t / 7)).2 (r_st (I 95) kp n (t / 7)).1 l s → ∀ lv, am_ld1 lv 0 = some (.ref 64) → am_ld1 lv 1 = some (.int (nI ((r_st (I 95) kp n (t / 7)).1 - n))) → am_ld1 lv 2 = some (.int (nI x)) → am_wp pr (d + 2) 44 57 lv [] (S, I', J, P) Q := by
    intro I' x hx f1 f2 lv l0 l1 l2
    subst hx
    refine w44_57 l0 ?_
    refine w44_58 l2 ?_
    refine w44_59 ?_
    refine w44_62 l0 ?_
    refine w44_63 (L.2 _ _ _ rfl) ?_
    refine w44_66 ?_
    refine w44_67 ?_
    refine w44_70 l0 ?_
    refine w44_71 (L.2 _ _ _ rfl) ?_
    refine w44_74 (k := c12 hp ?_)
    refine w44_77 l0 ?_
    refine w44_78 l1 ?_
    refine w44_79 (k := c14 L ?_)
    refine w44_82 ?_
    refine k _ (fun a a1 a2 a3 a4 a5 a6 a7 => by rw [am_u_ne a1, am_u_ne a6, am_u_ne a7, am_u_ne a1, f1 a a2 a3 a4 a5]) (fun q q1 q2 => by rw [am_u_at q2, am_u_ne (by decide), am_u_ne (by decide), am_u_at q1, f1 64 (by decide) (by decide) (by decide) (by decide)]) ?_ am_u_self ?_ ?_ ?_
    · rw [am_u_at (by decide), am_u_ne (by decide), am_u_ne (by decide), am_u_self]
    · rw [am_u_ne (by decide), am_u_ne (by decide), am_u_self]
    · rw [am_u_ne (by decide), am_u_self]
    · exact am_HR_cg 65 (fun a b1 b2 => by rw [am_u_ne (by omega), am_u_ne (by omega), am_u_ne (by omega), am_u_ne (by omega)]) rfl f2
  show am_wp pr (d + 2) 44 0 [(0, .ref 64)] [] _ _
  refine w44_0 rfl ?_
  refine w44_1 (L.2 _ _ _ rfl) ?_
  refine w44_4 ?_
  rw [ht]
  refine w44_7 (fun _ => ?_) (fun hQ => absurd (fun q => absurd ((nI_eq (a := t) (b := 0) (by omega) (by omega)).mp q) (by omega)) hQ)
  refine w44_17 ?_
  refine w44_18 ?_
  refine w44_19 ?_
  refine w44_20 ?_
  refine w44_21 ?_
  refine w44_22 ?_
  refine am_for (fun r => ∀ I' : Nat → Nat → Int32, (∀ a, a ≠ 65 → a ≠ 66 → a ≠ 67 → a ≠ 68 → I' a = I a) → am_HR I' 65 (r_st (I 95) kp n r).2 (r_st (I 95) kp n r).1 l s → ∀ lv, am_ld1 lv 0 = some (.ref 64) → am_ld1 lv 1 = some (.int (nI ((r_st (I 95) kp n r).1 - n))) → am_ld1 lv 2 = some (.int (nI (r - ((r_st (I 95) kp n r).1 - n)))) → am_ld1 lv 3 = some (.int (nI (7 * r))) → am_wp pr (d + 2) 44 23 lv [] (S, I', J, P) Q) (t / 7) ?_ ?_ I (fun _ _ _ _ _ => rfl) hr _ rfl ?_ ?_ rfl
  · intro r hrt ih I' f1 f2 lv l0 l1 l2 l3
    have e94 : I' 94 0 = nI t := by rw [f1 94 (by decide) (by decide) (by decide) (by decide)]; exact ht
    have e95 : I' 95 = I 95 := f1 95 (by decide) (by decide) (by decide) (by decide)
    obtain ⟨b1, b2, b3⟩ := hb r
    have e7 : nI (7 * r) + 7 = nI (7 * (r + 1)) := by rw [show (7 : Int32) = nI 7 from rfl, nI_add]; rfl
    refine w44_23 l3 ?_
    refine w44_24 l0 ?_
    refine w44_25 (L.2 _ _ _ rfl) ?_
    refine w44_28 ?_
    rw [e94]
    refine w44_31 (fun hQ => absurd hQ (am_nlt (by omega) (by omega))) (fun _ => ?_)
    refine w44_34 l0 ?_
    refine w44_35 l3 ?_
    refine w44_36 (k := c45 L f2 e94 t4 (by omega) (fun ok I2 g hr2 => ?_) (fun nok => ?_))
    · rw [e95] at ok hr2
      have y := r_st_y ok
      have w1 : (r_st (I 95) kp n (r + 1)).1 - n = (r_st (I 95) kp n r).1 - n + 1 := by rw [y]; show _ + 1 - n = _; omega
      have w2 : r + 1 - ((r_st (I 95) kp n (r + 1)).1 - n) = r - ((r_st (I 95) kp n r).1 - n) := by rw [w1]; omega
      refine w44_39 (fun hQ => absurd hQ (by decide)) (fun _ => ?_)
      refine w44_42 l1 ?_
      refine w44_45 ?_
      refine w44_51 l3 ?_
      refine w44_54 ?_
      refine ih I2 (fun a a1 a2 a3 a4 => by rw [g a a1 a2 a3 a4, f1 a a1 a2 a3 a4]) (by rw [y]; exact hr2) _ l0 (by rw [w1]; exact am_nx _) (by rw [w2]; exact l2) (by rw [← e7]; rfl)
    · rw [e95] at nok
      have y := r_st_n nok
      have w1 : (r_st (I 95) kp n (r + 1)).1 - n = (r_st (I 95) kp n r).1 - n := by rw [y]
      have w2 : r + 1 - ((r_st (I 95) kp n (r + 1)).1 - n) = r - ((r_st (I 95) kp n r).1 - n) + 1 := by rw [w1]; omega
      refine w44_39 (fun _ => ?_) (fun hQ => absurd rfl hQ)
      refine w44_48 l2 ?_
      refine w44_51 l3 ?_
      refine w44_54 ?_
      refine ih I' f1 (by rw [y]; exact f2) _ l0 (by rw [w1]; exact l1) (by rw [w2]; exact am_nx _) (by rw [← e7]; rfl)
  · intro I' f1 f2 lv l0 l1 l2 l3
    have e94 : I' 94 0 = nI t := by rw [f1 94 (by decide) (by decide) (by decide) (by decide)]; exact ht
    obtain ⟨b1, b2, b3⟩ := hb (t / 7)
    by_cases z : t % 7 = 0
    · refine w44_23 l3 ?_
      refine w44_24 l0 ?_
      refine w44_25 (L.2 _ _ _ rfl) ?_
      refine w44_28 ?_
      rw [e94]
      refine w44_31 (fun _ => ?_) (fun hQ => absurd (nI_le (by omega) (by omega)) hQ)
      exact fin I' _ (by omega) f1 f2 _ l0 l1 l2
    · have e7 : nI (7 * (t / 7)) + 7 = nI (7 * (t / 7 + 1)) := by rw [show (7 : Int32) = nI 7 from rfl, nI_add]; rfl
      refine w44_23 l3 ?_
      refine w44_24 l0 ?_
      refine w44_25 (L.2 _ _ _ rfl) ?_
      refine w44_28 ?_
      rw [e94]
      refine w44_31 (fun hQ => absurd hQ (am_nlt (by omega) (by omega))) (fun _ => ?_)
      refine w44_34 l0 ?_
      refine w44_35 l3 ?_
      refine w44_36 (k := c45n L f2 e94 t4 (by omega) (by omega) ?_)
      refine w44_39 (fun _ => ?_) (fun hQ => absurd rfl hQ)
      refine w44_48 l2 ?_
      refine w44_51 l3 ?_
      rw [e7]
      refine w44_54 ?_
      refine w44_23 rfl ?_
      refine w44_24 l0 ?_
      refine w44_25 (L.2 _ _ _ rfl) ?_
      refine w44_28 ?_
      rw [e94]
      refine w44_31 (fun _ => ?_) (fun hQ => absurd (nI_le (by omega) (by omega)) hQ)
      exact fin I' (t / 7 - ((r_st (I 95) kp n (t / 7)).1 - n) + 1) (by omega) f1 f2 _ l0 l1 (am_nx _)
  · show some (Value.int 0) = some (.int (nI (n - n)))
    rw [Nat.sub_self]; rfl
  · show some (Value.int 0) = some (.int (nI (0 - (n - n))))
    rw [Nat.zero_sub]; rfl
/-- canRow -/
theorem c214 (L : am_Lay S P) {c r : Nat} (hn : I 126 73 = nI c) (c7 : c ≤ 7) (h7 : 7 * r + 7 ≤ 400) (k1 : r_ok (I 131) r c → Q (some (.int 1)) (S, I, J, P)) (k2 : ¬ r_ok (I 131) r c → Q (some (.int 0)) (S, I, J, P)) : am_ev pr (d + 2) 214 [.ref 124, .int (nI (7 * r))] (S, I, J, P) Q := by
  have lp : ∀ fl : Int32, (fl = 1 ∧ c < 7 ∧ (1 ≤ I 131 (7 * r) ∧ I 131 (7 * r) ≤ 9 ∧ 0 ≤ I 131 (7 * r + 1) ∧ I 131 (7 * r + 1) ≤ 3)) ∨ (fl = 0 ∧ ¬ r_ok (I 131) r c) → ∀ lv, am_ld1 lv 0 = some (.ref 124) → am_ld1 lv 1 = some (.int (nI (7 * r))) → am_wp pr (d + 2) 214 34 lv [.int fl] (S, I, J, P) Q := by
    intro fl hfl lv l0 l1
    refine w214_34 ?_
    refine w214_35 ?_
    refine w214_36 ?_
    refine am_for (fun b => ∀ fl : Int32, (fl = 1 ∧ (c < 7 ∧ (1 ≤ I 131 (7 * r) ∧ I 131 (7 * r) ≤ 9 ∧ 0 ≤ I 131 (7 * r + 1) ∧ I 131 (7 * r + 1) ≤ 3)) ∧ ∀ q, q < b → 0 ≤ I 131 (7 * r + 2 + q) ∧ I 131 (7 * r + 2 + q) ≤ 9) ∨ (fl = 0 ∧ ¬ r_ok (I 131) r c) → ∀ lv, am_ld1 lv 0 = some (.ref 124) → am_ld1 lv 1 = some (.int (nI (7 * r))) → am_ld1 lv 2 = some (.int fl) → am_ld1 lv 3 = some (.int (nI b)) → am_wp pr (d + 2) 214 37 lv [] (S, I, J, P) Q) 5 ?_ ?_ fl (hfl.elim (fun q => Or.inl ⟨q.1, q.2, fun b hb => absurd hb (Nat.not_lt_zero b)⟩) Or.inr) _ l0 l1 rfl rfl
    · clear l0 l1 lv hfl fl
      intro b hb ih fl hfl lv l0 l1 l2 l3
      rcases hfl with ⟨rfl, g1, g2⟩ | ⟨rfl, g1⟩
      · by_cases z : 0 ≤ I 131 (7 * r + 2 + b) ∧ I 131 (7 * r + 2 + b) ≤ 9
        · refine w214_37 l3 ?_
          refine w214_38 ?_
          refine w214_39 (fun hQ => absurd hQ (am_nlt hb (by decide))) (fun _ => ?_)
          refine w214_42 l2 ?_
          refine w214_43 (fun hQ => absurd hQ (by decide)) (fun _ => ?_)
          refine w214_46 l0 ?_
          refine w214_47 (L.2 _ _ _ rfl) ?_
          refine w214_50 l1 ?_
          refine w214_51 ?_
          refine w214_52 ?_
          rw [show (2 : Int32) = nI 2 from rfl, nI_add]
          refine w214_53 l3 ?_
          refine w214_54 ?_
          rw [nI_add]
          refine w214_55 (L.sh rfl) (am_in_nI (by omega) (by decide)) ?_
          rw [am_clN (by omega)]
          refine w214_56 (k := c215 ?_)
          rw [am_b_t z]
          refine w214_59 (fun hQ => absurd hQ (by decide)) (fun _ => ?_)
          refine w214_62 ?_
          refine w214_63 ?_
          refine w214_67 ?_
          refine w214_68 l3 ?_
          refine w214_71 ?_
          refine ih 1 (Or.inl ⟨rfl, g1, fun q hq => ?_⟩) _ l0 l1 rfl (am_nx b)
          by_cases e : q = b
          · rw [e]; exact z
          · exact g2 q (by omega)
        · refine w214_37 l3 ?_
          refine w214_38 ?_
          refine w214_39 (fun hQ => absurd hQ (am_nlt hb (by decide))) (fun _ => ?_)
          refine w214_42 l2 ?_
          refine w214_43 (fun hQ => absurd hQ (by decide)) (fun _ => ?_)
          refine w214_46 l0 ?_
          refine w214_47 (L.2 _ _ _ rfl) ?_
          refine w214_50 l1 ?_
          refine w214_51 ?_
          refine w214_52 ?_
          rw [show (2 : Int32) = nI 2 from rfl, nI_add]
          refine w214_53 l3 ?_
          refine w214_54 ?_
          rw [nI_add]
          refine w214_55 (L.sh rfl) (am_in_nI (by omega) (by decide)) ?_
          rw [am_clN (by omega)]
          refine w214_56 (k := c215 ?_)
          rw [am_b_f z]
          refine w214_59 (fun _ => ?_) (fun hQ => absurd rfl hQ)
          refine w214_66 ?_
          refine w214_67 ?_
          refine w214_68 l3 ?_
          refine w214_71 ?_
          exact ih 0 (Or.inr ⟨rfl, fun q => z (q.2.2 b hb)⟩) _ l0 l1 rfl (am_nx b)
      · refine w214_37 l3 ?_
        refine w214_38 ?_
        refine w214_39 (fun hQ => absurd hQ (am_nlt hb (by decide))) (fun _ => ?_)
        refine w214_42 l2 ?_
        refine w214_43 (fun _ => ?_) (fun hQ => absurd rfl hQ)
        refine w214_66 ?_
        refine w214_67 ?_
        refine w214_68 l3 ?_
        refine w214_71 ?_
        exact ih 0 (Or.inr ⟨rfl, g1⟩) _ l0 l1 rfl (am_nx b)
    · clear l0 l1 lv hfl fl
      intro fl hfl lv l0 l1 l2 l3
      rcases hfl with ⟨rfl, g1, g2⟩ | ⟨rfl, g1⟩
      · refine w214_37 l3 ?_
        refine w214_38 ?_
        refine w214_39 (fun _ => ?_) (fun hQ => absurd (Int32.le_refl _) hQ)
        refine w214_74 l2 ?_
        refine w214_75 (by first | rfl | exact am_narrow_b _) ?_
        exact k1 ⟨g1.1, g1.2, g2⟩
      · refine w214_37 l3 ?_
        refine w214_38 ?_
        refine w214_39 (fun _ => ?_) (fun hQ => absurd (Int32.le_refl _) hQ)
        refine w214_74 l2 ?_
        refine w214_75 (by first | rfl | exact am_narrow_b _) ?_
        exact k2 g1
  show am_wp pr (d + 2) 214 0 [(0, .ref 124), (1, .int (nI (7 * r)))] [] _ _
  by_cases hc : c < 7
  · by_cases hm : 1 ≤ I 131 (7 * r) ∧ I 131 (7 * r) ≤ 9 ∧ 0 ≤ I 131 (7 * r + 1) ∧ I 131 (7 * r + 1) ≤ 3
    · refine w214_0 rfl ?_
      refine w214_1 (k := c171 L ?_)
      rw [hn]
      refine w214_4 ?_
      refine w214_6 (fun hQ => absurd hQ (am_nlt (show c < 7 by omega) (by decide))) (fun _ => ?_)
      refine w214_9 rfl ?_
      refine w214_10 (L.2 _ _ _ rfl) ?_
      refine w214_13 rfl ?_
      refine w214_14 (L.sh rfl) (am_in_nI (by omega) (by decide)) ?_
      rw [am_clN (by omega)]
      refine w214_15 rfl ?_
      refine w214_16 (L.2 _ _ _ rfl) ?_
      refine w214_19 rfl ?_
      refine w214_20 ?_
      refine w214_21 ?_
      rw [nI_1]
      refine w214_22 (L.sh rfl) (am_in_nI (by omega) (by decide)) ?_
      rw [am_clN (by omega)]
      refine w214_23 (k := c170 ?_)
      rw [am_b_t hm]
      refine w214_26 (fun hQ => absurd hQ (by decide)) (fun _ => ?_)
      refine w214_29 ?_
      refine w214_30 ?_
      exact lp 1 (Or.inl ⟨rfl, hc, hm⟩) _ rfl rfl
    · refine w214_0 rfl ?_
      refine w214_1 (k := c171 L ?_)
      rw [hn]
      refine w214_4 ?_
      refine w214_6 (fun hQ => absurd hQ (am_nlt (show c < 7 by omega) (by decide))) (fun _ => ?_)
      refine w214_9 rfl ?_
      refine w214_10 (L.2 _ _ _ rfl) ?_
      refine w214_13 rfl ?_
      refine w214_14 (L.sh rfl) (am_in_nI (by omega) (by decide)) ?_
      rw [am_clN (by omega)]
      refine w214_15 rfl ?_
      refine w214_16 (L.2 _ _ _ rfl) ?_
      refine w214_19 rfl ?_
      refine w214_20 ?_
      refine w214_21 ?_
      rw [nI_1]
      refine w214_22 (L.sh rfl) (am_in_nI (by omega) (by decide)) ?_
      rw [am_clN (by omega)]
      refine w214_23 (k := c170 ?_)
      rw [am_b_f hm]
      refine w214_26 (fun _ => ?_) (fun hQ => absurd rfl hQ)
      refine w214_33 ?_
      exact lp 0 (Or.inr ⟨rfl, fun q => hm q.2.1⟩) _ rfl rfl
  · refine w214_0 rfl ?_
    refine w214_1 (k := c171 L ?_)
    rw [hn]
    refine w214_4 ?_
    refine w214_6 (fun _ => ?_) (fun hQ => absurd (nI_le (a := 7) (by omega) (by omega)) hQ)
    refine w214_33 ?_
    exact lp 0 (Or.inr ⟨rfl, fun q => hc q.1⟩) _ rfl rfl
end
