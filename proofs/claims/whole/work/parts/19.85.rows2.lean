/-! rows of the tape: the reference, and both -/
section
variable {pr : am_Pr} {d : Nat} {S : List (Nat × Nat)} {I : Nat → Nat → Int32} {J : Nat → Nat → Int64} {P : Nat → Nat → Option Nat} {Q : Option Value → am_H → Prop} {n l s u tp : Nat} {kp lf kp' : Nat → Int32}
theorem r_st_73 {T : Nat → Int32} (h : kp 73 = nI n) : ∀ r, (r_st T kp n r).2 73 = nI (r_st T kp n r).1
  | 0 => h
  | r + 1 => by
    by_cases z : r_ok T r (r_st T kp n r).1
    · rw [r_st_y z]
      show r_ad T r (r_st T kp n r).1 (r_st T kp n r).2 73 = nI ((r_st T kp n r).1 + 1)
      unfold r_ad
      exact if_pos rfl
    · rw [r_st_n z]
      exact r_st_73 h r
theorem r_st_77 {T : Nat → Int32} (n7 : n ≤ 7) {j : Nat} (hj : 77 ≤ j) : ∀ r, (r_st T kp n r).2 j = kp j
  | 0 => rfl
  | r + 1 => by
    have b := r_st_b (T := T) (kp := kp) n7 r
    by_cases z : r_ok T r (r_st T kp n r).1
    · rw [r_st_y z]
      have c := z.1
      show r_ad T r (r_st T kp n r).1 (r_st T kp n r).2 j = kp j
      unfold r_ad
      rw [if_neg (by omega), if_neg (by omega), if_neg (by omega), if_neg (by omega), if_neg (by omega)]
      exact r_st_77 n7 hj r
    · rw [r_st_n z]
      exact r_st_77 n7 hj r
theorem r_rem : ∀ t, t ≤ 400 → (nI t - nI t / 7 * 7 = 0 ↔ t % 7 = 0) := by
  have h : (List.range 401).all (fun t => decide (nI t - nI t / 7 * 7 = 0 ↔ t % 7 = 0)) = true := by decide +kernel
  intro t ht
  exact of_decide_eq_true (List.all_eq_true.mp h t (List.mem_range.mpr (by omega)))
/-- the reference's: row -/
theorem c213 (L : am_Lay S P) {t : Nat} (hk : I 126 = kp) (hn : kp 73 = nI n) (n7 : n ≤ 7) (ht : I 124 13 = nI t) (t4 : t ≤ 400) (t0 : 0 < t) (k : ∀ I', (∀ a, a ≠ 124 → a ≠ 126 → I' a = I a) → (∀ q, q ≠ 13 → q ≠ 6 → q ≠ 35 → q ≠ 0 → I' 124 q = I 124 q) → I' 124 13 = 0 → I' 124 6 = nI ((t + 6) / 7 - ((r_st (I 131) kp n (t / 7)).1 - n)) → I' 124 35 = 0 → I' 124 0 = 0 → I' 126 = (r_st (I 131) kp n (t / 7)).2 → Q (some (.int (nI ((r_st (I 131) kp n (t / 7)).1 - n)))) (S, I', J, P)) : am_ev pr (d + 3) 213 [.ref 124] (S, I, J, P) Q := by
  have hb := r_st_b (T := I 131) (kp := kp) n7
  have h73 := r_st_73 (T := I 131) hn
  generalize hst : r_st (I 131) kp n = st at *
  have lp : ∀ b0 : Nat, b0 = (t + 6) / 7 - t / 7 → ∀ I1 : Nat → Nat → Int32, (∀ a, a ≠ 124 → I1 a = I a) → (∀ q, q ≠ 13 → q ≠ 6 → I1 124 q = I 124 q) → I1 124 13 = 0 → I1 124 6 = nI b0 → ∀ lv, am_ld1 lv 0 = some (.ref 124) → am_ld1 lv 1 = some (.int (nI t)) → am_ld1 lv 2 = some (.int 0) → am_ld1 lv 3 = some (.int 0) → am_wp pr (d + 3) 213 41 lv [] (S, I1, J, P) Q := by
    intro b0 hb0 I1 f1 f2 f3 f4 lv l0 l1 l2 l3
    refine am_for (fun r => ∀ I' : Nat → Nat → Int32, (∀ a, a ≠ 124 → a ≠ 126 → I' a = I a) → (∀ q, q ≠ 13 → q ≠ 6 → I' 124 q = I 124 q) → I' 124 13 = 0 → I' 124 6 = nI (b0 + (r - ((st r).1 - n))) → I' 126 = (st r).2 → ∀ lv, am_ld1 lv 0 = some (.ref 124) → am_ld1 lv 1 = some (.int (nI t)) → am_ld1 lv 2 = some (.int (nI ((st r).1 - n))) → am_ld1 lv 3 = some (.int (nI (7 * r))) → am_wp pr (d + 3) 213 41 lv [] (S, I', J, P) Q) (t / 7) ?_ ?_ I1 (fun a a1 _ => f1 a a1) f2 f3 ?_ ?_ lv l0 l1 ?_ l3
    · clear l0 l1 l2 l3 lv f1 f2 f3 f4 I1
      intro r hrt ih I' f1 f2 f3 f4 f5 lv l0 l1 l2 l3
      obtain ⟨b1, b2, b3⟩ := hb r
      have e73 : I' 126 73 = nI (st r).1 := by rw [f5]; exact h73 r
      have e131 : I' 131 = I 131 := f1 131 (by decide) (by decide)
      have e7 : nI (7 * r) + 7 = nI (7 * (r + 1)) := by rw [show (7 : Int32) = nI 7 from rfl, nI_add]; rfl
      refine w213_41 l3 ?_
      refine w213_42 ?_
      refine w213_44 ?_
      rw [e7]
      refine w213_45 l1 ?_
      refine w213_46 (fun hQ => absurd hQ (Int32.not_lt.mpr (nI_le (by omega) (by omega)))) (fun _ => ?_)
      refine w213_49 l0 ?_
      refine w213_50 l3 ?_
      refine w213_51 (k := c214 L e73 b3 (by omega) (fun ok => ?_) (fun nok => ?_))
      · rw [e131] at ok
        have hc := ok.1
        have y : st (r + 1) = ((st r).1 + 1, r_ad (I 131) r (st r).1 (st r).2) := by rw [← hst] at ok ⊢; exact r_st_y ok
        have w1 : (st (r + 1)).1 - n = (st r).1 - n + 1 := by rw [y]; show _ + 1 - n = _; omega
        have w2 : r + 1 - ((st (r + 1)).1 - n) = r - ((st r).1 - n) := by rw [w1]; omega
        refine w213_54 ?_
        refine w213_56 rfl ?_
        refine w213_58 (fun hQ => absurd hQ (by decide)) (fun _ => ?_)
        refine w213_61 l0 ?_
        refine w213_62 l0 ?_
        refine w213_63 (L.2 _ _ _ rfl) ?_
        refine w213_66 l3 ?_
        refine w213_67 (L.sh rfl) (am_in_nI (by omega) (by decide)) ?_
        rw [am_clN (by omega), e131]
        refine w213_68 l0 ?_
        refine w213_69 (L.2 _ _ _ rfl) ?_
        refine w213_72 l3 ?_
        refine w213_73 ?_
        refine w213_74 ?_
        rw [nI_1]
        refine w213_75 (L.sh rfl) (am_in_nI (by omega) (by decide)) ?_
        rw [am_clN (by omega), e131]
        refine w213_76 (k := c172 L e73 hc (fun I2 g1 kA => ?_))
        rw [f5] at kA
        refine w213_79 ?_
        refine w213_83 ?_
        refine w213_85 ?_
        refine w213_86 ?_
        refine am_for (fun b => ∀ I3 : Nat → Nat → Int32, (∀ a, a ≠ 126 → I3 a = I2 a) → (∀ j, I3 126 j = if (st r).1 * 5 ≤ j ∧ j < (st r).1 * 5 + b then I 131 (7 * r + 2 + (j - (st r).1 * 5)) else I2 126 j) → ∀ lv, am_ld1 lv 0 = some (.ref 124) → am_ld1 lv 1 = some (.int (nI t)) → am_ld1 lv 2 = some (.int (nI ((st r).1 - n))) → am_ld1 lv 3 = some (.int (nI (7 * r))) → am_ld1 lv 4 = some (.int 1) → am_ld1 lv 5 = some (.int (nI (st r).1)) → am_ld1 lv 6 = some (.int (nI b)) → am_wp pr (d + 3) 213 88 lv [] (S, I3, J, P) Q) 5 ?_ ?_ I2 (fun _ _ => rfl) (fun j => by rw [if_neg (by omega)]) _ l0 l1 l2 l3 rfl rfl rfl
        · clear l0 l1 l2 l3 lv
          intro b hb5 ih2 I3 p1 p2 lv l0 l1 l2 l3 l4 l5 l6
          have q131 : I3 131 (7 * r + 2 + b) = I 131 (7 * r + 2 + b) := by rw [p1 131 (by decide), g1 131 (by decide), e131]
          have eb : (0 : Int32) + 5 * nI (st r).1 + nI b = nI ((st r).1 * 5 + b) := by rw [am_0n, am_seat', Nat.mul_comm]
          refine w213_88 l6 ?_
          refine w213_90 ?_
          refine w213_91 (fun hQ => absurd hQ (am_nlt hb5 (by decide))) (fun _ => ?_)
          refine w213_94 l4 ?_
          refine w213_96 (fun hQ => absurd hQ (by decide)) (fun _ => ?_)
          refine w213_99 l0 ?_
          refine w213_100 (L.2 _ _ _ rfl) ?_
          refine w213_103 ?_
          refine w213_104 ?_
          refine w213_105 l5 ?_
          refine w213_107 ?_
          refine w213_108 ?_
          refine w213_109 l6 ?_
          refine w213_111 ?_
          rw [eb]
          refine w213_112 l0 ?_
          refine w213_113 (L.2 _ _ _ rfl) ?_
          refine w213_116 l3 ?_
          refine w213_117 ?_
          refine w213_118 ?_
          rw [show (2 : Int32) = nI 2 from rfl, nI_add]
          refine w213_119 l6 ?_
          refine w213_121 ?_
          rw [nI_add]
          refine w213_122 (L.sh rfl) (am_in_nI (by omega) (by decide)) ?_
          rw [am_clN (by omega), q131]
          refine w213_123 (L.sh rfl) (am_in_nI (by omega) (by decide)) ?_
          rw [am_clN (by omega)]
          refine w213_124 l6 ?_
          refine w213_127 ?_
          refine ih2 _ (fun a ha => by rw [am_u_ne ha]; exact p1 a ha) (fun j => ?_) _ l0 l1 l2 l3 l4 l5 (am_nx b)
          rw [am_u_get, p2]
          by_cases z : j = (st r).1 * 5 + b
          · rw [if_pos ⟨rfl, z⟩, if_pos (by omega), show j - (st r).1 * 5 = b by omega]
          · rw [if_neg (fun q => z q.2)]
            by_cases y : (st r).1 * 5 ≤ j ∧ j < (st r).1 * 5 + b
            · rw [if_pos y, if_pos (by omega)]
            · rw [if_neg y, if_neg (by omega)]
        · clear l0 l1 l2 l3 lv
          intro I3 p1 p2 lv l0 l1 l2 l3 l4 l5 l6
          have e6 : I3 124 6 = nI (b0 + (r - ((st r).1 - n))) := by rw [p1 124 (by decide), g1 124 (by decide)]; exact f4
          refine w213_88 l6 ?_
          refine w213_90 ?_
          refine w213_91 (fun _ => ?_) (fun hQ => absurd (Int32.le_refl _) hQ)
          refine w213_130 l2 ?_
          refine w213_131 l4 ?_
          refine w213_133 (fun hQ => absurd hQ (by decide)) (fun _ => ?_)
          refine w213_136 ?_
          refine w213_137 ?_
          refine w213_141 ?_
          refine w213_142 ?_
          refine w213_143 l0 ?_
          refine w213_144 rfl ?_
          refine w213_145 ?_
          rw [e6]
          refine w213_148 l4 ?_
          refine w213_150 (fun hQ => absurd hQ (by decide)) (fun _ => ?_)
          refine w213_153 ?_
          refine w213_154 ?_
          refine w213_158 ?_
          rw [Int32.add_zero]
          refine w213_159 ?_
          refine w213_162 l3 ?_
          refine w213_165 ?_
          refine ih _ (fun a a1 a2 => by rw [am_u_ne a1, p1 a a2, g1 a a2, f1 a a1 a2]) (fun q q1 q2 => by rw [am_u_at q2, p1 124 (by decide), g1 124 (by decide), f2 q q1 q2]) (by rw [am_u_at (by decide), p1 124 (by decide), g1 124 (by decide)]; exact f3) (by rw [am_u_self, w2]) ?_ _ l0 l1 (by rw [w1]; exact am_nx _) (by rw [← e7]; rfl)
          rw [y]
          funext j
          rw [am_u_ne (by decide), p2, kA j]
          show _ = r_ad (I 131) r (st r).1 (st r).2 j
          unfold r_ad
          by_cases z : (st r).1 * 5 ≤ j ∧ j < (st r).1 * 5 + 5
          · rw [if_pos z, if_neg (show ¬ j = 73 by omega), if_pos z]
          · rw [if_neg z, if_neg z, if_neg z]
      · rw [e131] at nok
        have y : st (r + 1) = st r := by rw [← hst] at nok ⊢; exact r_st_n nok
        have w1 : (st (r + 1)).1 - n = (st r).1 - n := by rw [y]
        have w2 : b0 + (r + 1 - ((st (r + 1)).1 - n)) = b0 + (r - ((st r).1 - n)) + 1 := by rw [w1]; omega
        refine w213_54 ?_
        refine w213_56 rfl ?_
        refine w213_58 (fun _ => ?_) (fun hQ => absurd rfl hQ)
        refine w213_82 ?_
        refine w213_83 ?_
        refine w213_85 ?_
        refine w213_86 ?_
        refine w213_88 rfl ?_
        refine w213_90 ?_
        refine w213_91 (fun hQ => absurd hQ (by decide)) (fun _ => ?_)
        refine w213_94 rfl ?_
        refine w213_96 (fun _ => ?_) (fun hQ => absurd rfl hQ)
        refine w213_130 l2 ?_
        refine w213_131 rfl ?_
        refine w213_133 (fun _ => ?_) (fun hQ => absurd rfl hQ)
        refine w213_140 ?_
        refine w213_141 ?_
        rw [Int32.add_zero]
        refine w213_142 ?_
        refine w213_143 l0 ?_
        refine w213_144 rfl ?_
        refine w213_145 ?_
        rw [f4]
        refine w213_148 rfl ?_
        refine w213_150 (fun _ => ?_) (fun hQ => absurd rfl hQ)
        refine w213_157 ?_
        refine w213_158 ?_
        rw [nI_1]
        refine w213_159 ?_
        refine w213_162 l3 ?_
        refine w213_165 ?_
        refine ih _ (fun a a1 a2 => by rw [am_u_ne a1, f1 a a1 a2]) (fun q q1 q2 => by rw [am_u_at q2, f2 q q1 q2]) (by rw [am_u_at (by decide)]; exact f3) (by rw [am_u_self, w2]) (by rw [am_u_ne (by decide), f5, y]) _ l0 l1 (by rw [w1]; rfl) (by rw [← e7]; rfl)
    · clear l0 l1 l2 l3 lv f1 f2 f3 f4 I1
      intro I' f1 f2 f3 f4 f5 lv l0 l1 l2 l3
      obtain ⟨b1, b2, b3⟩ := hb (t / 7)
      have e7 : nI (7 * (t / 7)) + 7 = nI (7 * (t / 7 + 1)) := by rw [show (7 : Int32) = nI 7 from rfl, nI_add]; rfl
      refine w213_41 l3 ?_
      refine w213_42 ?_
      refine w213_44 ?_
      rw [e7]
      refine w213_45 l1 ?_
      refine w213_46 (fun _ => ?_) (fun hQ => absurd (nI_lt (by omega) (by omega)) hQ)
      refine w213_168 l0 ?_
      refine w213_169 l2 ?_
      refine w213_170 (k := c168 L ?_)
      refine w213_173 ?_
      refine k _ (fun a a1 a2 => by rw [am_u_ne a1, am_u_ne a1, f1 a a1 a2]) (fun q q1 q2 q3 q4 => by rw [am_u_at q4, am_u_at q3, f2 q q1 q2]) ?_ ?_ ?_ am_u_self ?_
      · rw [am_u_at (by decide), am_u_at (by decide)]; exact f3
      · rw [am_u_at (by decide), am_u_at (by decide), f4]; congr 1; omega
      · rw [am_u_at (by decide), am_u_self]
      · rw [am_u_ne (by decide), am_u_ne (by decide)]; exact f5
    · rw [f4, ← hst]
      show nI b0 = nI (b0 + (0 - (n - n)))
      congr 1
      omega
    · rw [f1 126 (by decide), hk, ← hst]; rfl
    · rw [l2, ← hst]
      show some (Value.int 0) = some (.int (nI (n - n)))
      rw [Nat.sub_self]; rfl
  show am_wp pr (d + 3) 213 0 [(0, .ref 124)] [] _ _
  by_cases z : t % 7 = 0
  · refine w213_0 rfl ?_
    refine w213_1 ?_
    rw [ht]
    refine w213_4 ?_
    refine w213_5 rfl ?_
    refine w213_6 ?_
    refine w213_7 ?_
    refine w213_10 rfl ?_
    refine w213_11 (fun _ => ?_) (fun hQ => absurd (fun q => absurd ((nI_eq (a := t) (b := 0) (by omega) (by omega)).mp q) (by omega)) hQ)
    refine w213_21 ?_
    refine w213_22 ?_
    refine w213_23 rfl ?_
    refine w213_24 rfl ?_
    refine w213_25 ?_
    refine w213_27 (by decide) ?_
    refine w213_28 (fun hQ => absurd hQ (fun q => q ((r_rem t t4).mpr z))) (fun _ => ?_)
    refine w213_31 ?_
    refine w213_32 ?_
    refine w213_36 ?_
    refine w213_39 ?_
    refine w213_40 ?_
    exact lp 0 (by omega) _ (fun a ha => by rw [am_u_ne ha, am_u_ne ha]) (fun q q1 q2 => by rw [am_u_at q2, am_u_at q1]) (by rw [am_u_at (by decide), am_u_self]) (by rw [am_u_self]; rfl) _ rfl rfl rfl rfl
  · refine w213_0 rfl ?_
    refine w213_1 ?_
    rw [ht]
    refine w213_4 ?_
    refine w213_5 rfl ?_
    refine w213_6 ?_
    refine w213_7 ?_
    refine w213_10 rfl ?_
    refine w213_11 (fun _ => ?_) (fun hQ => absurd (fun q => absurd ((nI_eq (a := t) (b := 0) (by omega) (by omega)).mp q) (by omega)) hQ)
    refine w213_21 ?_
    refine w213_22 ?_
    refine w213_23 rfl ?_
    refine w213_24 rfl ?_
    refine w213_25 ?_
    refine w213_27 (by decide) ?_
    refine w213_28 (fun _ => ?_) (fun hQ => absurd (fun q => z ((r_rem t t4).mp q)) hQ)
    refine w213_35 ?_
    refine w213_36 ?_
    refine w213_39 ?_
    refine w213_40 ?_
    exact lp 1 (by omega) _ (fun a ha => by rw [am_u_ne ha, am_u_ne ha]) (fun q q1 q2 => by rw [am_u_at q2, am_u_at q1]) (by rw [am_u_at (by decide), am_u_self]) (by rw [am_u_self]; rfl) _ rfl rfl rfl rfl
/-- row -/
theorem op_7 (r : am_R S I P n l s u tp) : am_op pr (d + 60) S I J P 44 [.ref 64] 213 [.ref 124] := by
  have hr := r.hr
  have n7 := hr.n7
  have L := r.L
  obtain ⟨t1, t2, t3, t4⟩ := r.tape
  by_cases t0 : 0 < tp
  · refine c44 L hr t2 t1 t0 (fun I1 f1 f2 f3 f4 f5 f6 f7 => ⟨_, rfl, ?_⟩)
    have e0 : ∀ a, 73 ≤ a → a ≠ 90 → a ≠ 94 → I1 a = I a := fun a h1 h2 h3 => f1 a (by omega) (by omega) (by omega) (by omega) (by omega) h2 h3
    have i := r_st_i (kp := I 126) (n := n) t4 (tp / 7) (by omega)
    have b := r_st_b (T := I 95) (kp := I 126) n7 (tp / 7)
    refine c213 (n := n) (kp := I 126) L (e0 126 (by decide) (by decide) (by decide)) hr.kn n7 (t := tp) (by rw [e0 124 (by decide) (by decide) (by decide)]; exact t3) t1 t0 (fun I2 g1 g2 g3 g4 g5 g6 g7 => ?_)
    rw [e0 131 (by decide) (by decide) (by decide), ← i] at *
    have k77 : ∀ j, 77 ≤ j → I2 126 j = I 126 j := fun j hj => by rw [g7]; exact r_st_77 n7 hj _
    generalize r_st (I 95) (I 126) n (tp / 7) = st at *
    have e : ∀ a, 73 ≤ a → a ≠ 90 → a ≠ 94 → a ≠ 124 → a ≠ 126 → I2 a = I a := fun a h1 h2 h3 h4 h5 => by rw [g1 a h4 h5, e0 a h1 h2 h3]
    have e64 : ∀ q, q ≠ 14 → q ≠ 16 → I2 64 q = I 64 q := fun q h1 h2 => by rw [g1 64 (by decide) (by decide), f2 q h1 h2]
    have e124 : ∀ q, q ≠ 13 → q ≠ 6 → q ≠ 35 → q ≠ 0 → I2 124 q = I 124 q := fun q h1 h2 h3 h4 => by rw [g2 q h1 h2 h3 h4, e0 124 (by decide) (by decide) (by decide)]
    refine am_oi_0 (n := st.1) (l := l) (s := s) (u := 0) (tp := 0) (am_R_mk r (fun a ha => e a (by omega) (by omega) (by omega) (by omega) (by omega)) (e 127 (by decide) (by decide) (by decide) (by decide) (by decide)) (e 128 (by decide) (by decide) (by decide) (by decide) (by decide)) (e 130 (by decide) (by decide) (by decide) (by decide) (by decide)) k77 ?_ ?_ ?_ ?_ ?_ ?_) rfl
    · rw [g7]; exact am_HR_cg 65 (fun a h1 h2 => g1 a (by omega) (by omega)) rfl f7
    · exact ⟨by omega, by rw [g1 90 (by decide) (by decide)]; exact f6, g5, am_PA_0⟩
    · exact ⟨by omega, by rw [g1 94 (by decide) (by decide)]; exact f5, g3, fun k hk => absurd hk (Nat.not_lt_zero k)⟩
    · refine ⟨?_, ?_, ?_, ?_⟩
      · rw [e 96 (by decide) (by decide) (by decide) (by decide) (by decide), e124 14 (by decide) (by decide) (by decide) (by decide)]; exact r.i8.1
      · rw [e64 13 (by decide) (by decide), e124 40 (by decide) (by decide) (by decide) (by decide)]; exact r.i8.2.1
      · rw [g1 64 (by decide) (by decide), f3, g4]
      · rw [g1 64 (by decide) (by decide), f4, g6]
    · rw [e 123 (by decide) (by decide) (by decide) (by decide) (by decide), e 125 (by decide) (by decide) (by decide) (by decide) (by decide)]; exact r.i9
    · rw [e 81 (by decide) (by decide) (by decide) (by decide) (by decide), e 84 (by decide) (by decide) (by decide) (by decide) (by decide), e 148 (by decide) (by decide) (by decide) (by decide) (by decide), e124 48 (by decide) (by decide) (by decide) (by decide)]; exact r.draw
  · have z : tp = 0 := by omega
    subst z
    have e0 : I 94 0 = 0 := t2
    have e1 : I 124 13 = 0 := t3
    refine op_rf r (-6) (fun Q k => ?_) (fun I1 J1 f Q k => ?_)
    · show am_wp pr (d + 60) 44 0 [(0, .ref 64)] [] _ _
      refine w44_0 rfl ?_
      refine w44_1 (L.2 _ _ _ rfl) ?_
      refine w44_4 ?_
      rw [e0]
      refine w44_7 (fun hQ => absurd hQ (fun q => q rfl)) (fun _ => ?_)
      refine w44_10 rfl ?_
      refine w44_11 ?_
      refine w44_13 (k := c11 L (by decide) ?_)
      refine w44_16 ?_
      exact k
    · have e2 : I1 124 13 = 0 := by rw [f 124 (by decide) (by decide)]; exact e1
      have e3 : am_u I1 124 13 0 = I1 := by
        funext a q
        rw [am_u_get]
        by_cases h : a = 124 ∧ q = 13
        · rw [if_pos h, h.1, h.2, e2]
        · rw [if_neg h]
      show am_wp pr (d + 60) 213 0 [(0, .ref 124)] [] _ _
      refine w213_0 rfl ?_
      refine w213_1 ?_
      rw [e2]
      refine w213_4 ?_
      refine w213_5 rfl ?_
      refine w213_6 ?_
      refine w213_7 ?_
      rw [e3]
      refine w213_10 rfl ?_
      refine w213_11 (fun hQ => absurd hQ (fun q => q rfl)) (fun _ => ?_)
      refine w213_14 rfl ?_
      refine w213_15 ?_
      refine w213_17 (k := c165 L (by decide) ?_)
      refine w213_20 ?_
      exact k
end
