/-! sessions, by both -/
section
variable {pr : am_Pr} {d : Nat} {S : List (Nat × Nat)} {I I' : Nat → Nat → Int32} {J : Nat → Nat → Int64} {P P' : Nat → Nat → Option Nat} {Q : Option Value → am_H → Prop} {n l s u tp : Nat} {kp lf kp' : Nat → Int32} {lw : Option (Nat × List Cl)} {lv0 : Option (List Cl)}
noncomputable def z_it (kp : Nat → Int32) (n : Nat) (lw : Option (List Cl)) (a : Nat) : Nat → (Nat → Int32) × Nat
  | 0 => (kp, a)
  | r + 1 => (z_st (z_it kp n lw a r).1 n lw (z_it kp n lw a r).2, z_a (z_a (z_a (z_a (z_it kp n lw a r).2))))
theorem z_it_b {a v : Nat} (n7 : n ≤ 7) (n0 : 0 < n) (ha : a < 1000003) (hv : kp 43 = nI v) : ∀ r, (z_it kp n lv0 a r).2 < 1000003 ∧ (z_it kp n lv0 a r).1 43 = nI (v + r) ∧ ∀ j, 44 ≤ j → (z_it kp n lv0 a r).1 j = kp j
  | 0 => ⟨ha, hv, fun _ _ => rfl⟩
  | r + 1 => by
    obtain ⟨h1, h2, h3⟩ := z_it_b n7 n0 ha hv r
    generalize hz : z_it kp n lv0 a r = z at *
    have e : z_it kp n lv0 a (r + 1) = (z_st z.1 n lv0 z.2, z_a (z_a (z_a (z_a z.2)))) := by rw [← hz]; rfl
    rw [e]
    have hm : z_a z.2 % n < 7 := Nat.lt_of_lt_of_le (Nat.mod_lt _ n0) n7
    have hb : z_a (z_a z.2) % 5 < 5 := Nat.mod_lt _ (by decide)
    have y : ∀ j, 43 ≤ j → z_k z.1 n lv0 (z_a z.2 % n) (z_a (z_a z.2) % 5) (z_a (z_a (z_a z.2)) % 10) (z_a (z_a (z_a (z_a z.2))) % 4) j = z.1 j := fun j hj => z_k_44 hm hb hj
    obtain ⟨q1, q2, -⟩ := g_pa_k (n := n) ((y 43 (by omega)).trans h2)
    exact ⟨z_a_lt _, q2, fun j hj => (q1 j (by omega) (by omega)).trans ((y j (by omega)).trans (h3 j hj))⟩
/-- sessions, the class -/
theorem c153 (L : am_Lay S P) {a c v R : Nat} (hr : am_HR I 65 kp n l s) (n0 : 0 < n) (hx : am_lw S I P (P 70) kp l (kp 76) lw) (hls : am_LS S P (P 70)) (ha : a ≤ 1000000) (hkv : kp 43 = nI v) (hv : v ≤ 999) (c1 : 1 ≤ c) (c60 : c ≤ 60) (hR : R ≤ c ∧ v + R ≤ 999 ∧ (R = c ∨ v + R = 999)) (k : ∀ I' J' P', (∀ q, q ≠ 64 → ¬ (81 ≤ q ∧ q ≤ 88) → ¬ (109 ≤ q ∧ q ≤ 113) → q ≠ 118 → q ≠ 119 → I' q = I q) → (∀ q, q ≠ 12 → q ≠ 16 → I' 64 q = I 64 q) → I' 64 16 = 0 → (∀ a, a ≠ 86 → P' a = P a) → am_HR I' 81 (z_it kp n (lw.map Prod.snd) a R).1 n l s → Q (some (.int (t_on ((z_it kp n (lw.map Prod.snd) a R).1 42)))) (S, I', J', P')) : am_ev pr (d + 7) 153 [.ref 64, .int (nI a), .int (nI c)] (S, I, J, P) Q := by
  have n7 := hr.n7
  have l6 := hr.l6
  have hh := L.h81
  have hz := z_it_b (kp := kp) (lv0 := lw.map Prod.snd) n7 n0 (show a < 1000003 by omega) hkv
  have pp : a ≤ 1000000 ∧ True := ⟨ha, trivial⟩
  clear ha
  show am_wp pr (d + 7) 153 0 [(0, .ref 64), (1, .int (nI a)), (2, .int (nI c))] [] _ _
  refine w153_0 rfl ?_
  refine w153_1 (fun hQ => absurd hQ (nI_pos (by omega))) (fun _ => ?_)
  refine w153_4 rfl ?_
  refine w153_5 ?_
  refine w153_8 (fun hQ => absurd hQ (Int32.not_lt.mpr (nI_le (b := 1000000) pp.1 (by decide)))) (fun _ => ?_)
  refine w153_11 rfl ?_
  refine w153_12 ?_
  refine w153_13 (fun hQ => absurd hQ (Int32.not_lt.mpr (nI_le (a := 1) c1 (by omega)))) (fun _ => ?_)
  refine w153_16 rfl ?_
  refine w153_17 ?_
  refine w153_19 (fun _ => ?_) (fun hQ => absurd (nI_le (b := 60) c60 (by decide)) hQ)
  refine w153_28 rfl ?_
  refine w153_29 (L.2 _ _ _ rfl) ?_
  refine w153_32 ?_
  rw [hr.hn]
  refine w153_35 (fun _ => ?_) (fun hQ => absurd (fun q => absurd ((nI_eq (a := n) (b := 0) (by omega) (by omega)).mp q) (by omega)) hQ)
  refine w153_45 rfl ?_
  refine w153_46 (L.2 _ _ _ rfl) ?_
  refine w153_49 rfl ?_
  refine w153_50 (L.2 _ _ _ rfl) ?_
  refine w153_53 (k := c95 (h := 81) (g := 65) hh L.h65 (by omega) (fun i t z => (hls i t z).1) (fun I1 P1 f1 hC f2 f3 => ?_))
  have L0 := L
  have L : am_Lay S P1 := ⟨L0.1, fun x y z h => by
    by_cases e : x = 86
    · subst e
      exact absurd h (by unfold am_ptr; simp [am_pts])
    · rw [f2 x e]; exact L0.2 x y z h⟩
  have hh := L.h81
  have hr1 : am_HR I1 81 kp n l s := hr_copy hr hC
  have hx1 : am_lw S I1 P1 (P1 86) kp l (kp 76) lw := by
    rcases hx with h | ⟨f, t, xs, h1, h2, h3, h4, h5, h6, h7⟩
    · exact Or.inl h
    · refine Or.inr ⟨f, t, xs, h1, h2, h3, ?_, h5, am_TI_cg (fun _ _ z => z) (f2 t (by omega)) (fun a ha _ => f1 a (by omega)) h6, h7⟩
      exact (f3 f).trans ((if_pos (by omega)).trans h4)
  have f4 : ∀ q, q ≠ 64 → ¬ (81 ≤ q ∧ q ≤ 88) → ¬ (109 ≤ q ∧ q ≤ 113) → q ≠ 118 → q ≠ 119 → I1 q = I q := fun q _ q2 _ _ _ => f1 q (by omega)
  have f5 : ∀ q, I1 64 q = I 64 q := fun q => by rw [f1 64 (by omega)]
  clear hC f1 f3 hr
  refine w153_56 rfl ?_
  refine w153_57 rfl ?_
  refine w153_58 ?_
  refine w153_61 ?_
  refine w153_62 ?_
  refine am_for (fun r => ∀ (I2 : Nat → Nat → Int32) (J2 : Nat → Nat → Int64), (∀ q, q ≠ 64 → ¬ (81 ≤ q ∧ q ≤ 88) → ¬ (109 ≤ q ∧ q ≤ 113) → q ≠ 118 → q ≠ 119 → I2 q = I1 q) → (∀ q, q ≠ 12 → I2 64 q = I1 64 q) → I2 64 12 = nI (z_it kp n (lw.map Prod.snd) a r).2 → am_HR I2 81 (z_it kp n (lw.map Prod.snd) a r).1 n l s → ∀ lv, am_ld1 lv 0 = some (.ref 64) → am_ld1 lv 2 = some (.int (nI c)) → am_ld1 lv 3 = some (.int (nI r)) → am_wp pr (d + 7) 153 63 lv [] (S, I2, J2, P1) Q) R ?_ ?_ _ J (fun q q1 _ _ _ _ => am_u_ne q1) (fun q hq => am_u_at hq) am_u_self (am_HR_cg 81 (fun a b1 b2 => am_u_ne (by omega)) rfl hr1) _ rfl rfl rfl
  · intro r hrR ih I2 J2 g1 g2 g3 g4 lv l0 l2 l3
    obtain ⟨b1, b2, b3⟩ := hz r
    have e85 : I2 85 0 = nI (v + r) := g4.td.trans b2
    have hx2 : am_lw S I2 P1 (P1 86) (z_it kp n (lw.map Prod.snd) a r).1 l ((z_it kp n (lw.map Prod.snd) a r).1 76) lw := by
      rw [b3 76 (by omega)]
      exact am_lw_cg l6 (fun a ha => g1 a (by omega) (by omega) (by omega) (by omega) (by omega)) (fun j hj => b3 j (by omega)) hx1
    have hb1 : (z_it kp n (lw.map Prod.snd) a r).2 < 1000003 ∧ True := ⟨b1, trivial⟩
    clear b1 hx1 hz
    refine w153_63 l3 ?_
    refine w153_64 l2 ?_
    refine w153_65 (fun hQ => absurd hQ (am_nlt (show r < c by omega) (by omega))) (fun _ => ?_)
    refine w153_68 l0 ?_
    refine w153_69 (L.2 _ _ _ rfl) ?_
    refine w153_72 (L.2 _ _ _ rfl) ?_
    refine w153_75 ?_
    refine w153_76 (L.sh rfl) (by decide) ?_
    rw [tl_0, e85]
    refine w153_77 ?_
    refine w153_80 (fun hQ => absurd hQ (am_nlt (show v + r < 999 by omega) (by decide))) (fun _ => ?_)
    refine w153_83 l0 ?_
    refine w153_84 (k := c154 L hh g4 n0 hx2 g3 hb1.1 b2 (by omega) (fun I3 J3 p1 p2 p3 p4 => ?_))
    refine w153_87 l3 ?_
    refine w153_90 ?_
    exact ih I3 J3 (fun q q1 q2 q3 q4 q5 => by rw [p1 q q1 q2 q3 q4 q5, g1 q q1 q2 q3 q4 q5]) (fun q hq => by rw [p2 q hq, g2 q hq]) p3 p4 _ l0 l2 (am_nx r)
  · intro I2 J2 g1 g2 g3 g4 lv l0 l2 l3
    obtain ⟨b1, b2, b3⟩ := hz R
    have e85 : I2 85 0 = nI (v + R) := g4.td.trans b2
    have e42 : I2 81 2 = (z_it kp n (lw.map Prod.snd) a R).1 42 := g4.st
    obtain ⟨x, hx3, hx4⟩ := g4.ks
    clear b1 hz
    have fin : ∀ lv, am_ld1 lv 0 = some (.ref 64) → am_wp pr (d + 7) 153 93 lv [] (S, I2, J2, P1) Q := by
      intro lv l0
      refine w153_93 l0 ?_
      refine w153_94 l0 ?_
      refine w153_95 (L.2 _ _ _ rfl) ?_
      refine w153_98 ?_
      rw [e42, hx4]
      refine w153_101 (k := c23 (s := x) (by omega) ?_)
      rw [← hx4]
      refine w153_104 (k := c14 L ?_)
      refine w153_107 ?_
      refine k _ J2 P1 (fun q q1 q2 q3 q4 q5 => by rw [am_u_ne q1, g1 q q1 q2 q3 q4 q5, f4 q q1 q2 q3 q4 q5]) (fun q q1 q2 => by rw [am_u_at q2, g2 q q1, f5 q]) am_u_self f2 (am_HR_cg 81 (fun a b1 b2 => am_u_ne (by omega)) rfl g4)
    by_cases hc : R = c
    · refine w153_63 l3 ?_
      refine w153_64 l2 ?_
      refine w153_65 (fun _ => ?_) (fun hQ => absurd (nI_le (by omega) (by omega)) hQ)
      exact fin _ l0
    · refine w153_63 l3 ?_
      refine w153_64 l2 ?_
      refine w153_65 (fun hQ => absurd hQ (am_nlt (show R < c by omega) (by omega))) (fun _ => ?_)
      refine w153_68 l0 ?_
      refine w153_69 (L.2 _ _ _ rfl) ?_
      refine w153_72 (L.2 _ _ _ rfl) ?_
      refine w153_75 ?_
      refine w153_76 (L.sh rfl) (by decide) ?_
      rw [tl_0, e85]
      refine w153_77 ?_
      refine w153_80 (fun _ => ?_) (fun hQ => absurd (nI_le (a := 999) (by omega) (by omega)) hQ)
      exact fin _ l0
/-- laysAside, takesBack -/
theorem c291 (L : am_Lay S P) {k0 : Nat} (hk0 : k0 < 1) (k : ∀ I', (∀ a, a ≠ 129 → I' a = I a) → (∀ j, j < 44 → I' 129 j = I 126 j) → Q none (S, I', J, P)) : am_ev pr d 291 [.ref 124, .int (nI k0)] (S, I, J, P) Q := by
  have z : k0 = 0 := by omega
  subst z
  have e : (44 : Int32) * nI 0 = nI 0 := by decide
  show am_wp pr d 291 0 [(0, .ref 124), (1, .int (nI 0))] [] _ _
  refine w291_0 ?_
  refine w291_1 ?_
  refine am_for (fun b => ∀ I' : Nat → Nat → Int32, (∀ a, a ≠ 129 → I' a = I a) → (∀ j, j < b → I' 129 j = I 126 j) → ∀ lv, am_ld1 lv 0 = some (.ref 124) → am_ld1 lv 1 = some (.int (nI 0)) → am_ld1 lv 2 = some (.int (nI b)) → am_wp pr (d) 291 2 lv [] (S, I', J, P) Q) 44 ?_ ?_ I (fun _ _ => rfl) (fun j hj => absurd hj (Nat.not_lt_zero j)) _ rfl rfl rfl
  · intro b hb ih I' f1 f2 lv l0 l1 l2
    have e1 : I' 126 b = I 126 b := by rw [f1 126 (by decide)]
    refine w291_2 l2 ?_
    refine w291_3 ?_
    refine w291_5 (fun hQ => absurd hQ (am_nlt hb (by decide))) (fun _ => ?_)
    refine w291_8 l0 ?_
    refine w291_9 (L.2 _ _ _ rfl) ?_
    refine w291_12 ?_
    refine w291_14 l1 ?_
    refine w291_15 ?_
    rw [e]
    refine w291_16 l2 ?_
    refine w291_17 ?_
    rw [nI_add, Nat.zero_add]
    refine w291_18 l0 ?_
    refine w291_19 (L.2 _ _ _ rfl) ?_
    refine w291_22 l2 ?_
    refine w291_23 (L.sh rfl) (am_in_nI (by omega) (by decide)) ?_
    rw [am_clN (by omega), e1]
    refine w291_24 (L.sh rfl) (am_in_nI (by omega) (by decide)) ?_
    rw [am_clN (by omega)]
    refine w291_25 l2 ?_
    refine w291_28 ?_
    refine ih _ (fun a ha => by rw [am_u_ne ha]; exact f1 a ha) (fun j hj => ?_) _ l0 l1 (am_nx b)
    by_cases z : j = b
    · rw [z, am_u_self]
    · rw [am_u_at z]; exact f2 j (by omega)
  · intro I' f1 f2 lv l0 l1 l2
    refine w291_2 l2 ?_
    refine w291_3 ?_
    refine w291_5 (fun _ => ?_) (fun hQ => absurd (Int32.le_refl _) hQ)
    refine w291_31 ?_
    exact k I' f1 f2
theorem c297 (L : am_Lay S P) {k0 : Nat} (hk0 : k0 < 1) (k : ∀ I', (∀ a, a ≠ 126 → I' a = I a) → (∀ j, I' 126 j = if j < 44 then I 129 j else I 126 j) → Q none (S, I', J, P)) : am_ev pr d 297 [.ref 124, .int (nI k0)] (S, I, J, P) Q := by
  have z : k0 = 0 := by omega
  subst z
  have e : (44 : Int32) * nI 0 = nI 0 := by decide
  show am_wp pr d 297 0 [(0, .ref 124), (1, .int (nI 0))] [] _ _
  refine w297_0 ?_
  refine w297_1 ?_
  refine am_for (fun b => ∀ I' : Nat → Nat → Int32, (∀ a, a ≠ 126 → I' a = I a) → (∀ j, I' 126 j = if j < b then I 129 j else I 126 j) → ∀ lv, am_ld1 lv 0 = some (.ref 124) → am_ld1 lv 1 = some (.int (nI 0)) → am_ld1 lv 2 = some (.int (nI b)) → am_wp pr (d) 297 2 lv [] (S, I', J, P) Q) 44 ?_ ?_ I (fun _ _ => rfl) (fun j => by rw [if_neg (by omega)]) _ rfl rfl rfl
  · intro b hb ih I' f1 f2 lv l0 l1 l2
    have e1 : I' 129 b = I 129 b := by rw [f1 129 (by decide)]
    refine w297_2 l2 ?_
    refine w297_3 ?_
    refine w297_5 (fun hQ => absurd hQ (am_nlt hb (by decide))) (fun _ => ?_)
    refine w297_8 l0 ?_
    refine w297_9 (L.2 _ _ _ rfl) ?_
    refine w297_12 l2 ?_
    refine w297_13 l0 ?_
    refine w297_14 (L.2 _ _ _ rfl) ?_
    refine w297_17 ?_
    refine w297_19 l1 ?_
    refine w297_20 ?_
    rw [e]
    refine w297_21 l2 ?_
    refine w297_22 ?_
    rw [nI_add, Nat.zero_add]
    refine w297_23 (L.sh rfl) (am_in_nI (by omega) (by decide)) ?_
    rw [am_clN (by omega), e1]
    refine w297_24 (L.sh rfl) (am_in_nI (by omega) (by decide)) ?_
    rw [am_clN (by omega)]
    refine w297_25 l2 ?_
    refine w297_28 ?_
    refine ih _ (fun a ha => by rw [am_u_ne ha]; exact f1 a ha) (fun j => ?_) _ l0 l1 (am_nx b)
    rw [am_u_get, f2]
    by_cases z : j = b
    · rw [if_pos ⟨rfl, z⟩, if_pos (by omega), z]
    · rw [if_neg (fun q => z q.2)]
      by_cases y : j < b
      · rw [if_pos y, if_pos (by omega)]
      · rw [if_neg y, if_neg (by omega)]
  · intro I' f1 f2 lv l0 l1 l2
    refine w297_2 l2 ?_
    refine w297_3 ?_
    refine w297_5 (fun _ => ?_) (fun hQ => absurd (Int32.le_refl _) hQ)
    refine w297_31 ?_
    exact k I' f1 f2
theorem m_lw_cg (ek : ∀ j, 76 ≤ j → kp' j = kp j) (h : m_lw kp lv0) : m_lw kp' lv0 := by
  rcases h with ⟨h1, h2⟩ | ⟨f, xs, h1, h2, h3, h4⟩
  · exact Or.inl ⟨by rw [ek 76 (by omega)]; exact h1, h2⟩
  · exact Or.inr ⟨f, xs, h1, by rw [ek 76 (by omega)]; exact h2, h3, am_TK_cg (by omega) (fun j hj => ek j (by omega)) h4⟩
/-- sessions, the reference -/
theorem c298 (L : am_Lay S P) {a c v R : Nat} (hk : I 126 = kp) (hn : kp 73 = nI n) (n7 : n ≤ 7) (n0 : 0 < n) (hlw : m_lw kp lv0) (ha : a ≤ 1000000) (hkv : kp 43 = nI v) (hv : v ≤ 999) (c1 : 1 ≤ c) (c60 : c ≤ 60) (hR : R ≤ c ∧ v + R ≤ 999 ∧ (R = c ∨ v + R = 999)) (k : ∀ I', (∀ q, q ≠ 124 → q ≠ 129 → q ≠ 136 → ¬ (138 ≤ q ∧ q ≤ 140) → q ≠ 148 → I' q = I q) → (∀ q, (q < 22 ∨ 25 < q) → q ≠ 49 → q ≠ 48 → q ≠ 0 → I' 124 q = I 124 q) → I' 124 48 = nI n → I' 124 0 = 0 → (∀ j, j < 44 → I' 148 j = (z_it kp n lv0 a R).1 j) → Q (some (.int (t_on ((z_it kp n lv0 a R).1 42)))) (S, I', J, P)) : am_ev pr (d + 47) 298 [.ref 124, .int (nI a), .int (nI c)] (S, I, J, P) Q := by
  have hz := z_it_b (kp := kp) (lv0 := lv0) n7 n0 (show a < 1000003 by omega) hkv
  have pp : a ≤ 1000000 ∧ True := ⟨ha, trivial⟩
  clear ha
  have hn1 : I 126 73 = nI n := by rw [hk]; exact hn
  have t1 : (0 : Int32) ≤ nI a ∧ nI a ≤ 1000000 := ⟨nI_pos' (by omega), nI_le (b := 1000000) pp.1 (by decide)⟩
  have t2 : (1 : Int32) ≤ nI c ∧ nI c ≤ 60 := ⟨nI_le (a := 1) c1 (by omega), nI_le (b := 60) c60 (by decide)⟩
  show am_wp pr (d + 47) 298 0 [(0, .ref 124), (1, .int (nI a)), (2, .int (nI c))] [] _ _
  refine w298_0 rfl ?_
  refine w298_1 ?_
  refine w298_2 ?_
  refine w298_4 (k := c164 ?_)
  rw [am_b_t t1]
  refine w298_7 (fun hQ => absurd hQ (by decide)) (fun _ => ?_)
  refine w298_10 rfl ?_
  refine w298_11 ?_
  refine w298_12 ?_
  refine w298_14 (k := c164 ?_)
  rw [am_b_t t2]
  refine w298_17 (fun _ => ?_) (fun hQ => absurd (by decide) hQ)
  refine w298_26 rfl ?_
  refine w298_27 (k := c171 L ?_)
  rw [hn1]
  refine w298_30 (fun _ => ?_) (fun hQ => absurd (fun q => absurd ((nI_eq (a := n) (b := 0) (by omega) (by omega)).mp q) (by omega)) hQ)
  refine w298_40 rfl ?_
  refine w298_41 rfl ?_
  refine w298_42 ?_
  refine w298_45 rfl ?_
  refine w298_46 rfl ?_
  refine w298_47 (k := c171 L ?_)
  rw [am_u_ne (show 126 ≠ 124 by decide), hn1]
  refine w298_50 ?_
  refine w298_53 rfl ?_
  refine w298_54 ?_
  refine w298_55 (k := c291 (k0 := 0) L (by decide) (fun I1 f1 f2 => ?_))
  have g1 : ∀ q, q ≠ 124 → q ≠ 129 → I1 q = I q := fun q q1 q2 => by rw [f1 q q2, am_u_ne q1, am_u_ne q1]
  have g2 : ∀ q, q ≠ 49 → q ≠ 48 → I1 124 q = I 124 q := fun q q1 q2 => by rw [f1 124 (by decide), am_u_at q2, am_u_at q1]
  have g3 : I1 124 48 = nI n := by rw [f1 124 (by decide), am_u_self]
  have g4 : I1 124 49 = nI a := by rw [f1 124 (by decide), am_u_at (by decide), am_u_self]
  have g5 : ∀ j, j < 44 → I1 129 j = kp j := fun j hj => by rw [f2 j hj, am_u_ne (by decide), am_u_ne (by decide), hk]
  have g6 : I1 126 = kp := by rw [g1 126 (by decide) (by decide)]; exact hk
  clear f1 f2
  refine w298_58 ?_
  refine w298_59 ?_
  refine am_for (fun r => ∀ I2 : Nat → Nat → Int32, (∀ q, q ≠ 124 → q ≠ 126 → q ≠ 136 → ¬ (138 ≤ q ∧ q ≤ 140) → I2 q = I1 q) → (∀ q, (q < 22 ∨ 25 < q) → q ≠ 49 → I2 124 q = I1 124 q) → I2 124 49 = nI (z_it kp n lv0 a r).2 → I2 126 = (z_it kp n lv0 a r).1 → ∀ lv, am_ld1 lv 0 = some (.ref 124) → am_ld1 lv 2 = some (.int (nI c)) → am_ld1 lv 3 = some (.int (nI r)) → am_wp pr (d + 47) 298 60 lv [] (S, I2, J, P) Q) R ?_ ?_ I1 (fun _ _ _ _ _ => rfl) (fun _ _ _ => rfl) g4 g6 _ rfl rfl rfl
  · intro r hrR ih I2 p1 p2 p3 p4 lv l0 l2 l3
    obtain ⟨b1, b2, b3⟩ := hz r
    have e43 : I2 126 43 = nI (v + r) := by rw [p4]; exact b2
    have hb1 : (z_it kp n lv0 a r).2 < 1000003 ∧ True := ⟨b1, trivial⟩
    have hl2 : m_lw (z_it kp n lv0 a r).1 lv0 := m_lw_cg (fun j hj => b3 j (by omega)) hlw
    have e73 : (z_it kp n lv0 a r).1 73 = nI n := (b3 73 (by omega)).trans hn
    clear b1 hz
    refine w298_60 l3 ?_
    refine w298_61 l2 ?_
    refine w298_62 (fun hQ => absurd hQ (am_nlt (show r < c by omega) (by omega))) (fun _ => ?_)
    refine w298_65 l0 ?_
    refine w298_66 (L.2 _ _ _ rfl) ?_
    refine w298_69 ?_
    refine w298_71 (L.sh rfl) (by decide) ?_
    rw [tl_43, e43]
    refine w298_72 ?_
    refine w298_75 (fun hQ => absurd hQ (am_nlt (show v + r < 999 by omega) (by decide))) (fun _ => ?_)
    refine w298_78 l0 ?_
    refine w298_79 (k := c299 L p4 e73 n7 n0 hl2 p3 hb1.1 (fun I3 q1 q2 q3 q4 => ?_))
    refine w298_82 l3 ?_
    refine w298_85 ?_
    exact ih I3 (fun q w1 w2 w3 w4 => by rw [q1 q w1 w2 w3 w4, p1 q w1 w2 w3 w4]) (fun q w1 w2 => by rw [q2 q w1 w2, p2 q w1 w2]) q3 q4 _ l0 l2 (am_nx r)
  · intro I2 p1 p2 p3 p4 lv l0 l2 l3
    obtain ⟨b1, b2, b3⟩ := hz R
    have e43 : I2 126 43 = nI (v + R) := by rw [p4]; exact b2
    clear b1 hz
    have fin : ∀ lv, am_ld1 lv 0 = some (.ref 124) → am_wp pr (d + 47) 298 88 lv [] (S, I2, J, P) Q := by
      intro lv l0
      refine w298_88 l0 ?_
      refine w298_89 (L.2 _ _ _ rfl) ?_
      refine w298_92 ?_
      refine w298_94 (L.sh rfl) (by decide) ?_
      rw [tl_42, p4]
      refine w298_95 (k := c191 ?_)
      refine w298_98 ?_
      refine w298_99 ?_
      refine w298_100 ?_
      generalize t_on ((z_it kp n lv0 a R).1 42) = on at *
      refine am_for (fun b => ∀ I3 : Nat → Nat → Int32, (∀ q, q ≠ 148 → I3 q = I2 q) → (∀ j, j < b → I3 148 j = (z_it kp n lv0 a R).1 j) → ∀ lv, am_ld1 lv 0 = some (.ref 124) → am_ld1 lv 3 = some (.int on) → am_ld1 lv 4 = some (.int (nI b)) → am_wp pr (d + 47) 298 102 lv [] (S, I3, J, P) Q) 44 ?_ ?_ I2 (fun _ _ => rfl) (fun j hj => absurd hj (Nat.not_lt_zero j)) _ l0 rfl rfl
      · clear l0 lv
        intro b hb ih I3 q1 q2 lv l0 l3 l4
        have e1 : I3 126 b = (z_it kp n lv0 a R).1 b := by rw [q1 126 (by decide), p4]
        refine w298_102 l4 ?_
        refine w298_104 ?_
        refine w298_106 (fun hQ => absurd hQ (am_nlt hb (by decide))) (fun _ => ?_)
        refine w298_109 l0 ?_
        refine w298_110 (L.2 _ _ _ rfl) ?_
        refine w298_113 l4 ?_
        refine w298_115 l0 ?_
        refine w298_116 (L.2 _ _ _ rfl) ?_
        refine w298_119 l4 ?_
        refine w298_121 (L.sh rfl) (am_in_nI (by omega) (by decide)) ?_
        rw [am_clN (by omega), e1]
        refine w298_122 (L.sh rfl) (am_in_nI (by omega) (by decide)) ?_
        rw [am_clN (by omega)]
        refine w298_123 l4 ?_
        refine w298_126 ?_
        refine ih _ (fun q hq => by rw [am_u_ne hq]; exact q1 q hq) (fun j hj => ?_) _ l0 l3 (am_nx b)
        by_cases z : j = b
        · rw [z, am_u_self]
        · rw [am_u_at z]; exact q2 j (by omega)
      · clear l0 lv
        intro I3 q1 q2 lv l0 l3 l4
        refine w298_102 l4 ?_
        refine w298_104 ?_
        refine w298_106 (fun _ => ?_) (fun hQ => absurd (Int32.le_refl _) hQ)
        refine w298_129 l0 ?_
        refine w298_130 ?_
        refine w298_131 (k := c297 (k0 := 0) L (by decide) (fun I4 w1 w2 => ?_))
        refine w298_134 l0 ?_
        refine w298_135 l3 ?_
        refine w298_136 (k := c166 L ?_)
        refine w298_139 ?_
        refine k _ (fun q z1 z2 z3 z4 z5 => ?_) (fun q z1 z2 z3 z4 => ?_) ?_ am_u_self (fun j hj => ?_)
        · by_cases y : q = 126
          · subst y
            funext j
            rw [am_u_ne (by decide), w2, hk, q1 129 (by decide), q1 126 (by decide), p4, p1 129 (by decide) (by decide) (by decide) (by decide)]
            by_cases x : j < 44
            · rw [if_pos x, g5 j x]
            · rw [if_neg x, b3 j (by omega)]
          · rw [am_u_ne z1, w1 q y, q1 q z5, p1 q z1 y z3 z4, g1 q z1 z2]
        · rw [am_u_at z4, w1 124 (by decide), q1 124 (by decide), p2 q z1 z2, g2 q z2 z3]
        · rw [am_u_at (by decide), w1 124 (by decide), q1 124 (by decide), p2 48 (by omega) (by decide), g3]
        · rw [am_u_ne (by decide), w1 148 (by decide), q2 j hj]
    by_cases hc : R = c
    · refine w298_60 l3 ?_
      refine w298_61 l2 ?_
      refine w298_62 (fun _ => ?_) (fun hQ => absurd (nI_le (by omega) (by omega)) hQ)
      exact fin _ l0
    · refine w298_60 l3 ?_
      refine w298_61 l2 ?_
      refine w298_62 (fun hQ => absurd hQ (am_nlt (show R < c by omega) (by omega))) (fun _ => ?_)
      refine w298_65 l0 ?_
      refine w298_66 (L.2 _ _ _ rfl) ?_
      refine w298_69 ?_
      refine w298_71 (L.sh rfl) (by decide) ?_
      rw [tl_43, e43]
      refine w298_72 ?_
      refine w298_75 (fun _ => ?_) (fun hQ => absurd (nI_le (a := 999) (by omega) (by omega)) hQ)
      exact fin _ l0
end
