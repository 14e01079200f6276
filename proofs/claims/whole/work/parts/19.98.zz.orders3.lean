/-! orders run: all clauses, all times -/
theorem o_D_fun {n u hd u1 u2 : Nat} {lw : Option (List Cl)} {kp lf kp1 lf1 kp2 lf2 : Nat → Int32} {x y z v v2 : Int32} (n7 : n ≤ 7) (a : o_D n lw kp lf u hd x y z v kp1 lf1 u1) (b : o_D n lw kp lf u hd x y z v2 kp2 lf2 u2) : v2 = v ∧ kp2 = kp1 ∧ lf2 = lf1 ∧ u2 = u1 := by
  rcases a with ⟨ha, p, hp, hx, -, rfl, rfl, rfl, rfl⟩ | ⟨ha, p, hp, hx, rfl, rfl, rfl, rfl⟩ | ⟨ha, p, q, w, hp, hq, hw, hx, hy, hz, -, rfl, rfl, rfl, rfl⟩ | ⟨ha, t, -, -, rfl, rfl, rfl, rfl⟩ <;> rcases b with ⟨hb, p', hp', hx', -, rfl, rfl, rfl, rfl⟩ | ⟨hb, p', hp', hx', rfl, rfl, rfl, rfl⟩ | ⟨hb, p', q', w', hp', hq', hw', hx', hy', hz', -, rfl, rfl, rfl, rfl⟩ | ⟨hb, t', -, -, rfl, rfl, rfl, rfl⟩
  all_goals try (exfalso; omega)
  · obtain rfl : p' = p := (nI_eq (by omega) (by omega)).mp (hx'.symm.trans hx)
    exact ⟨rfl, rfl, rfl, rfl⟩
  · obtain rfl : p' = p := (nI_eq (by omega) (by omega)).mp (hx'.symm.trans hx)
    exact ⟨rfl, rfl, rfl, rfl⟩
  · obtain rfl : p' = p := (nI_eq (by omega) (by omega)).mp (hx'.symm.trans hx)
    obtain rfl : q' = q := (nI_eq (by omega) (by omega)).mp (hy'.symm.trans hy)
    obtain rfl : w' = w := (nI_eq (by omega) (by omega)).mp (hz'.symm.trans hz)
    exact ⟨rfl, rfl, rfl, rfl⟩
  · exact ⟨rfl, rfl, rfl, rfl⟩
theorem o_T_fun {n : Nat} {lw : Option (List Cl)} {x : Cl} {σ s1 s2 : OS} (n7 : n ≤ 7) (a : o_T n lw x σ s1) (b : o_T n lw x σ s2) : s2 = s1 := by
  rcases a with ⟨a1, e1⟩ | ⟨a1, x0, x1, x2, v, kp1, lf1, u1, h0, h1, h2, hd, -, e1⟩ <;> rcases b with ⟨b1, e2⟩ | ⟨b1, y0, y1, y2, v', kp2, lf2, u2, g0, g1, g2, hd', -, e2⟩
  · rw [e1, e2]
  · rw [a1] at b1
    cases b1
  · rw [a1] at b1
    cases b1
  · rw [h0] at g0
    rw [h1] at g1
    rw [h2] at g2
    cases g0
    cases g1
    cases g2
    obtain ⟨r1, r2, r3, r4⟩ := o_D_fun n7 hd hd'
    rw [e1, e2, r1, r2, r3, r4]
theorem o_T_k {n : Nat} {lw : Option (List Cl)} {x : Cl} {σ s1 : OS} (n7 : n ≤ 7) (a : o_T n lw x σ s1) : ∀ j, 44 ≤ j → s1.1 j = σ.1 j := by
  intro j hj
  rcases a with ⟨-, e1⟩ | ⟨-, x0, x1, x2, v, kp1, lf1, u1, -, -, -, hd, -, e1⟩
  · rw [e1]
  · rw [e1]
    show kp1 j = σ.1 j
    rcases hd with ⟨-, p, hp, -, -, -, e, -, -⟩ | ⟨-, p, hp, -, -, e, -, -⟩ | ⟨-, p, q, w, hp, hq, -, -, -, -, -, -, e, -, -⟩ | ⟨-, t, -, -, -, e, -, -⟩
    · rw [e]
      show (if j = 42 then _ else σ.1 j) = σ.1 j
      rw [if_neg (by omega)]
    · rw [e]
      show (if j = 35 + p then _ else σ.1 j) = σ.1 j
      rw [if_neg (by omega)]
    · rw [e]
      show (if j = p * 5 + q then _ else σ.1 j) = σ.1 j
      rw [if_neg (by omega)]
    · rw [e]
      show (if j = 43 then _ else if 35 ≤ j ∧ j < 35 + n then _ else σ.1 j) = σ.1 j
      rw [if_neg (by omega), if_neg (by omega)]
noncomputable def o_one (n : Nat) (lw : Option (List Cl)) (x : Cl) (σ : OS) : Option OS := @dite (Option OS) (∃ σ', o_T n lw x σ σ') (Classical.propDecidable _) (fun h => some (Classical.choose h)) (fun _ => none)
theorem o_one_y {n : Nat} {lw : Option (List Cl)} {x : Cl} {σ s1 : OS} (n7 : n ≤ 7) (h : o_T n lw x σ s1) : o_one n lw x σ = some s1 := by
  have e : ∃ σ', o_T n lw x σ σ' := ⟨s1, h⟩
  unfold o_one
  rw [dif_pos e, o_T_fun n7 h (Classical.choose_spec e)]
theorem o_one_n {n : Nat} {lw : Option (List Cl)} {x : Cl} {σ : OS} (h : ¬ ∃ σ', o_T n lw x σ σ') : o_one n lw x σ = none := by
  unfold o_one
  rw [dif_neg h]
noncomputable def o_rep (n : Nat) (lw : Option (List Cl)) (x : Cl) : Nat → OS → Option OS
  | 0, σ => some σ
  | t + 1, σ => (o_one n lw x σ).bind (o_rep n lw x t)
noncomputable def o_all (n : Nat) (lw : Option (List Cl)) : List Cl → Nat → OS → OS ⊕ Nat
  | [], _, σ => .inl σ
  | x :: xs, c, σ => match o_rep n lw x x.2.2.1 σ with | none => .inr c | some σ1 => o_all n lw xs (c + 1) σ1
section
variable {pr : am_Pr} {d : Nat} {lv : List (Nat × Value)} {st : List Value} {S : List (Nat × Nat)} {I I' : Nat → Nat → Int32} {J : Nat → Nat → Int64} {P P' : Nat → Nat → Option Nat} {Q : Option Value → am_H → Prop} {n l s u : Nat} {kp lf : Nat → Int32} {lw : Option (Nat × List Cl)}
/-- House: copyFrom, where a row may be longer than it need be -/
theorem c95b {h g : Nat} (hh : am_Hs S P h) (hg : am_Hs S P g) (far : h + 7 < g ∨ g + 7 < h) (ht : ∀ i t, i < 6 → P (g + 1 + 4) i = some t → am_sh S t (6, 9)) (k : ∀ I' P', (∀ a, (a < h ∨ h + 7 < a) → I' a = I a) → am_HC I I' h g → (∀ a, a ≠ h + 1 + 4 → P' a = P a) → (∀ i, P' (h + 1 + 4) i = if i < 6 then P (g + 1 + 4) i else P (h + 1 + 4) i) → Q none (S, I', J, P')) : am_ev pr (d + 1) 95 [.ref h, .ref g] (S, I, J, P) Q := by
  have ne : g ≠ h := by omega
  show am_wp pr (d + 1) 95 0 [(0, .ref h), (1, .ref g)] [] _ _
  refine w95_0 rfl ?_
  refine w95_1 rfl ?_
  refine w95_2 ?_
  refine w95_5 ?_
  refine w95_8 rfl ?_
  refine w95_9 rfl ?_
  refine w95_10 ?_
  rw [am_u_ne ne]
  refine w95_13 ?_
  refine w95_16 rfl ?_
  refine w95_17 rfl ?_
  refine w95_18 ?_
  rw [am_u_ne ne, am_u_ne ne]
  refine w95_21 ?_
  refine w95_24 rfl ?_
  refine w95_25 rfl ?_
  refine w95_26 ?_
  rw [am_u_ne ne, am_u_ne ne, am_u_ne ne]
  refine w95_29 ?_
  refine w95_32 rfl ?_
  refine w95_33 rfl ?_
  refine w95_34 ?_
  rw [am_u_ne ne, am_u_ne ne, am_u_ne ne, am_u_ne ne]
  refine w95_37 ?_
  refine w95_40 rfl ?_
  refine w95_41 rfl ?_
  refine w95_42 ?_
  rw [am_u_ne ne, am_u_ne ne, am_u_ne ne, am_u_ne ne, am_u_ne ne]
  refine w95_45 ?_
  generalize hI1 : am_u (am_u (am_u (am_u (am_u (am_u I h 0 (I g 0)) h 1 (I g 1)) h 2 (I g 2)) h 3 (I g 3)) h 4 (I g 4)) h 5 (I g 5) = I1
  have er : ∀ a, a ≠ h → I1 a = I a := fun a ha => by rw [← hI1, am_u_ne ha, am_u_ne ha, am_u_ne ha, am_u_ne ha, am_u_ne ha, am_u_ne ha]
  have e0 : ∀ q, q < 6 → I1 h q = I g q := by
    intro q hq
    rw [← hI1]
    match q, hq with
    | 0, _ => rw [am_u_at (by decide), am_u_at (by decide), am_u_at (by decide), am_u_at (by decide), am_u_at (by decide), am_u_self]
    | 1, _ => rw [am_u_at (by decide), am_u_at (by decide), am_u_at (by decide), am_u_at (by decide), am_u_self]
    | 2, _ => rw [am_u_at (by decide), am_u_at (by decide), am_u_at (by decide), am_u_self]
    | 3, _ => rw [am_u_at (by decide), am_u_at (by decide), am_u_self]
    | 4, _ => rw [am_u_at (by decide), am_u_self]
    | 5, _ => rw [am_u_self]
  refine w95_48 rfl ?_
  refine w95_49 (hg.2.1 0 (by decide)) ?_
  refine w95_52 ?_
  refine w95_53 rfl ?_
  refine w95_54 (hh.2.1 0 (by decide)) ?_
  refine w95_57 ?_
  refine w95_58 ?_
  refine w95_60 (hg.sh rfl) (hh.sh rfl) (by decide) (by decide) (by decide) (by decide) (by decide) ?_
  generalize hI2 : am_row I1 (h + 1 + 0) (va_cpy (I1 (g + 1 + 0)) (I1 (h + 1 + 0)) (Int32.toNatClampNeg 0) (Int32.toNatClampNeg 0) (Int32.toNatClampNeg 7)) = I2
  obtain ⟨a1, b1⟩ := cp_st rfl hI2
  refine w95_63 rfl ?_
  refine w95_64 (hg.2.1 1 (by decide)) ?_
  refine w95_67 ?_
  refine w95_68 rfl ?_
  refine w95_69 (hh.2.1 1 (by decide)) ?_
  refine w95_72 ?_
  refine w95_73 ?_
  refine w95_75 (hg.sh rfl) (hh.sh rfl) (by decide) (by decide) (by decide) (by decide) (by decide) ?_
  generalize hI3 : am_row I2 (h + 1 + 1) (va_cpy (I2 (g + 1 + 1)) (I2 (h + 1 + 1)) (Int32.toNatClampNeg 0) (Int32.toNatClampNeg 0) (Int32.toNatClampNeg 7)) = I3
  obtain ⟨a2, b2⟩ := cp_st rfl hI3
  refine w95_78 rfl ?_
  refine w95_79 (hg.2.1 2 (by decide)) ?_
  refine w95_82 ?_
  refine w95_83 rfl ?_
  refine w95_84 (hh.2.1 2 (by decide)) ?_
  refine w95_87 ?_
  refine w95_88 ?_
  refine w95_90 (hg.sh rfl) (hh.sh rfl) (by decide) (by decide) (by decide) (by decide) (by decide) ?_
  generalize hI4 : am_row I3 (h + 1 + 2) (va_cpy (I3 (g + 1 + 2)) (I3 (h + 1 + 2)) (Int32.toNatClampNeg 0) (Int32.toNatClampNeg 0) (Int32.toNatClampNeg 35)) = I4
  obtain ⟨a3, b3⟩ := cp_st rfl hI4
  refine w95_93 rfl ?_
  refine w95_94 (hg.2.1 3 (by decide)) ?_
  refine w95_97 ?_
  refine w95_98 rfl ?_
  refine w95_99 (hh.2.1 3 (by decide)) ?_
  refine w95_102 ?_
  refine w95_103 ?_
  refine w95_106S (by decide) rfl (by decide) ?_
  refine w95_107 (hg.sh rfl) (hh.sh rfl) (by decide) (by decide) (by decide) (by decide) (by decide) ?_
  generalize hI5 : am_row I4 (h + 1 + 3) (va_cpy (I4 (g + 1 + 3)) (I4 (h + 1 + 3)) (Int32.toNatClampNeg 0) (Int32.toNatClampNeg 0) (Int32.toNatClampNeg (Int32.ofNat 4))) = I5
  obtain ⟨a4, b4⟩ := cp_st rfl hI5
  refine w95_110 rfl ?_
  refine w95_111 (hg.2.1 5 (by decide)) ?_
  refine w95_114 ?_
  refine w95_115 rfl ?_
  refine w95_116 (hh.2.1 5 (by decide)) ?_
  refine w95_119 ?_
  refine w95_120 ?_
  refine w95_122 (hg.sh rfl) (hh.sh rfl) (by decide) (by decide) (by decide) (by decide) (by decide) ?_
  generalize hI6 : am_row I5 (h + 1 + 5) (va_cpy (I5 (g + 1 + 5)) (I5 (h + 1 + 5)) (Int32.toNatClampNeg 0) (Int32.toNatClampNeg 0) (Int32.toNatClampNeg 6)) = I6
  obtain ⟨a5, b5⟩ := cp_st rfl hI6
  refine w95_125 rfl ?_
  refine w95_126 (hg.2.1 6 (by decide)) ?_
  refine w95_129 ?_
  refine w95_130 rfl ?_
  refine w95_131 (hh.2.1 6 (by decide)) ?_
  refine w95_134 ?_
  refine w95_135 ?_
  refine w95_137 (hg.sh rfl) (hh.sh rfl) (by decide) (by decide) (by decide) (by decide) (by decide) ?_
  generalize hI7 : am_row I6 (h + 1 + 6) (va_cpy (I6 (g + 1 + 6)) (I6 (h + 1 + 6)) (Int32.toNatClampNeg 0) (Int32.toNatClampNeg 0) (Int32.toNatClampNeg 6)) = I7
  obtain ⟨a6, b6⟩ := cp_st rfl hI7
  have fr : ∀ a, (a < h ∨ h + 7 < a) → I7 a = I a := fun a ha => by rw [a6 a (by omega), a5 a (by omega), a4 a (by omega), a3 a (by omega), a2 a (by omega), a1 a (by omega), er a (by omega)]
  have hC : am_HC I I7 h g := by
    refine ⟨fun q hq => ?_, fun j hj => ?_, fun j hj => ?_, fun j hj => ?_, fun j hj => ?_, fun j hj => ?_, fun j hj => ?_⟩
    · rw [a6 h (by omega), a5 h (by omega), a4 h (by omega), a3 h (by omega), a2 h (by omega), a1 h (by omega), e0 q hq]
    · rw [a6 _ (by omega), a5 _ (by omega), a4 _ (by omega), a3 _ (by omega), a2 _ (by omega), b1 j hj, er _ (by omega)]
    · rw [a6 _ (by omega), a5 _ (by omega), a4 _ (by omega), a3 _ (by omega), b2 j hj, a1 _ (by omega), er _ (by omega)]
    · rw [a6 _ (by omega), a5 _ (by omega), a4 _ (by omega), b3 j hj, a2 _ (by omega), a1 _ (by omega), er _ (by omega)]
    · rw [a6 _ (by omega), a5 _ (by omega), b4 j hj, a3 _ (by omega), a2 _ (by omega), a1 _ (by omega), er _ (by omega)]
    · rw [a6 _ (by omega), b5 j hj, a4 _ (by omega), a3 _ (by omega), a2 _ (by omega), a1 _ (by omega), er _ (by omega)]
    · rw [b6 j hj, a5 _ (by omega), a4 _ (by omega), a3 _ (by omega), a2 _ (by omega), a1 _ (by omega), er _ (by omega)]
  clear hI1 hI2 hI3 hI4 hI5 hI6 hI7 a1 a2 a3 a4 a5 a6 b1 b2 b3 b4 b5 b6 er e0
  refine w95_140 ?_
  refine w95_141 ?_
  refine am_for (fun b => ∀ P' : Nat → Nat → Option Nat, (∀ a, a ≠ h + 1 + 4 → P' a = P a) → (∀ i, P' (h + 1 + 4) i = if i < b then P (g + 1 + 4) i else P (h + 1 + 4) i) → ∀ lvv, am_ld1 lvv 0 = some (.ref h) → am_ld1 lvv 1 = some (.ref g) → am_ld1 lvv 2 = some (.int (nI b)) → am_wp pr (d + 1) 95 142 lvv [] (S, I7, J, P') Q) 6 ?_ ?_ P (fun _ _ => rfl) (fun i => by rw [if_neg (by omega)]) _ rfl rfl rfl
  · intro b hb ih P' f1 f2 lv l0 l1 l2
    have hh' : am_Hs S P' h := am_Hs_cg (f1 h (by omega)) hh
    have hg' : am_Hs S P' g := am_Hs_cg (f1 g (by omega)) hg
    have e4 : P' (g + 1 + 4) b = P (g + 1 + 4) b := by rw [f1 _ (by omega)]
    refine w95_142 l2 ?_
    refine w95_143 ?_
    refine w95_145 (fun hQ => absurd hQ (am_nlt hb (by decide))) (fun _ => ?_)
    refine w95_148 l0 ?_
    refine w95_149 (hh'.2.1 4 (by decide)) ?_
    refine w95_152 l2 ?_
    refine w95_153 l1 ?_
    refine w95_154 (hg'.2.1 4 (by decide)) ?_
    refine w95_157 l2 ?_
    refine w95_158T (hg.sh rfl) (am_in_nI (by omega) (by decide)) ?_
    rw [am_clN (by omega), e4]
    refine w95_159R (hh.sh rfl) (am_in_nI (by omega) (by decide)) (fun t z => ht b t hb z) ?_
    rw [am_clN (by omega)]
    refine w95_160 l2 ?_
    refine w95_163 ?_
    refine ih _ (fun a ha => by rw [am_u_ne ha]; exact f1 a ha) (fun i => ?_) _ l0 l1 (am_nx b)
    rw [am_u_get, f2]
    by_cases z : i = b
    · rw [if_pos ⟨rfl, z⟩, if_pos (by omega), z]
    · rw [if_neg (fun q => z q.2)]
      by_cases y : i < b
      · rw [if_pos y, if_pos (by omega)]
      · rw [if_neg y, if_neg (by omega)]
  · intro P' f1 f2 lv l0 l1 l2
    refine w95_142 l2 ?_
    refine w95_143 ?_
    refine w95_145 (fun _ => ?_) (fun hQ => absurd (Int32.le_refl _) hQ)
    refine w95_166 ?_
    exact k I7 P' fr hC f1 f2
theorem am_Lay_78 (L : am_Lay S P) (e : ∀ a, a ≠ 78 → P' a = P a) : am_Lay S P' := ⟨L.1, fun a k c w => by
  by_cases q : a = 78
  · subst q
    exact absurd w (by unfold am_ptr; simp [am_pts])
  · rw [e a q]; exact L.2 a k c w⟩
theorem am_lw_P {p : Nat → Option Nat} {x : Int32} (e : ∀ a, 149 ≤ a → P' a = P a) (h : am_lw S I P p kp l x lw) : am_lw S I P' p kp l x lw := by
  rcases h with h | ⟨f, t, xs, h1, h2, h3, h4, h5, h6, h7⟩
  · exact Or.inl h
  · exact Or.inr ⟨f, t, xs, h1, h2, h3, h4, h5, am_TI_cg (fun _ _ z => z) (e t h5) (fun _ _ _ => rfl) h6, h7⟩
theorem am_PA_dd {dd dd' : Nat → Int32} (u16 : u ≤ 16) (e : ∀ j, j < 48 → dd' j = dd j) (r : am_PA dd lf kp n u) : am_PA dd' lf kp n u := by
  intro i hi
  rw [e (3 * i) (by omega), e (3 * i + 1) (by omega), e (3 * i + 2) (by omega)]
  exact r i hi
/-- the loop of orders -/
theorem c94L (L : am_Lay S P) {σ0 : OS} (h0 : HC I σ0.1 σ0.2.1 n l s σ0.2.2.1) (hx : am_lw S I P (P 70) σ0.1 l (σ0.1 76) lw) (h1 : I 108 1 = σ0.2.2.2.1) (h2 : I 108 2 = σ0.2.2.2.2) {xs : List Cl} (hTI : am_TI S I P 101 xs) (hcl : ∀ x ∈ xs, k_cl true x) (hDC : ∀ (q : Nat) (x : Cl), xs[q]? = some x → k_DC (I 101 2) x) (kg : ∀ σ' I' J', o_all n (lw.map Prod.snd) xs 0 σ0 = .inl σ' → o_F I I' → HC I' σ'.1 σ'.2.1 n l s σ'.2.2.1 → (∀ j, 44 ≤ j → σ'.1 j = σ0.1 j) → Q (some (.int σ'.2.2.2.1)) (S, am_u I' 64 16 0, J', P)) (kf : ∀ c, o_all n (lw.map Prod.snd) xs 0 σ0 = .inr c → c < xs.length → ∀ I' J', o_F I I' → (∀ lvv, am_ld1 lvv 0 = some (.ref 64) → am_ld1 lvv 2 = some (.int (nI c)) → am_wp pr (d + 8) 94 114 lvv [] (S, I', J', P) Q)) : ∀ lvv, am_ld1 lvv 0 = some (.ref 64) → am_ld1 lvv 1 = some (.ref 101) → am_ld1 lvv 2 = some (.int (nI 0)) → am_wp pr (d + 8) 94 73 lvv [] (S, I, J, P) Q := by
  have l6 := h0.1.l6
  have n7 := h0.1.n7
  obtain ⟨N, z, q1, q2, q3, q4, q5, q6, q7⟩ := id hTI
  refine am_for (fun c => ∀ (σ : OS) (I1 : Nat → Nat → Int32) (J1 : Nat → Nat → Int64), o_F I I1 → HC I1 σ.1 σ.2.1 n l s σ.2.2.1 → I1 108 1 = σ.2.2.2.1 → I1 108 2 = σ.2.2.2.2 → (∀ j, 44 ≤ j → σ.1 j = σ0.1 j) → o_all n (lw.map Prod.snd) (xs.drop c) c σ = o_all n (lw.map Prod.snd) xs 0 σ0 → ∀ lvv, am_ld1 lvv 0 = some (.ref 64) → am_ld1 lvv 1 = some (.ref 101) → am_ld1 lvv 2 = some (.int (nI c)) → am_wp pr (d + 8) 94 73 lvv [] (S, I1, J1, P) Q) xs.length ?_ ?_ σ0 I J (fun _ _ _ _ _ _ => rfl) h0 h1 h2 (fun _ _ => rfl) rfl
  · intro c hc ih σ I1 J1 F1 hC g1 g2 ek eq lvv l0 l1 l2
    obtain ⟨X, hX⟩ : ∃ X, xs[c]? = some X := ⟨_, List.getElem?_eq_getElem hc⟩
    have hd : xs.drop c = X :: xs.drop (c + 1) := by
      rw [List.drop_eq_getElem_cons hc]
      rw [List.getElem?_eq_getElem hc] at hX
      cases hX
      rfl
    rw [hd] at eq
    have eq : (match o_rep n (lw.map Prod.snd) X X.2.2.1 σ with | none => .inr c | some σ1 => o_all n (lw.map Prod.snd) (xs.drop (c + 1)) (c + 1) σ1) = o_all n (lw.map Prod.snd) xs 0 σ0 := eq
    have Xc := hcl X (List.mem_of_getElem? hX)
    obtain ⟨t1, t20⟩ := Xc.2.2.1
    have e0 : I1 101 0 = nI xs.length := by rw [F1 101 (by decide) (by decide) (by decide) (by decide) (by decide)]; exact q4
    refine w94_73 l2 ?_
    refine w94_74 l1 ?_
    refine w94_75 ?_
    rw [e0]
    refine w94_78 (fun hQ => absurd hQ (am_nlt hc (by omega))) (fun _ => ?_)
    refine w94_81 l2 ?_
    refine w94_82 ?_
    refine w94_84 (fun hQ => absurd hQ (am_nlt (n := 12) (by omega) (by decide))) (fun _ => ?_)
    refine w94_87 ?_
    refine w94_88 ?_
    refine am_for (fun t => ∀ (σ1 : OS) (I2 : Nat → Nat → Int32) (J2 : Nat → Nat → Int64), o_F I I2 → HC I2 σ1.1 σ1.2.1 n l s σ1.2.2.1 → I2 108 1 = σ1.2.2.2.1 → I2 108 2 = σ1.2.2.2.2 → (∀ j, 44 ≤ j → σ1.1 j = σ0.1 j) → o_rep n (lw.map Prod.snd) X (X.2.2.1 - t) σ1 = o_rep n (lw.map Prod.snd) X X.2.2.1 σ → ∀ lvv, am_ld1 lvv 0 = some (.ref 64) → am_ld1 lvv 1 = some (.ref 101) → am_ld1 lvv 2 = some (.int (nI c)) → am_ld1 lvv 3 = some (.int (nI t)) → am_wp pr (d + 8) 94 89 lvv [] (S, I2, J2, P) Q) X.2.2.1 ?_ ?_ σ I1 J1 F1 hC g1 g2 ek rfl _ l0 l1 l2 rfl
    · intro t ht ih2 σ1 I2 J2 F2 hC2 g3 g4 ek2 eq2 lvv l0 l1 l2 l3
      have e3 : I2 103 c = nI X.2.2.1 := by rw [F2 103 (by decide) (by decide) (by decide) (by decide) (by decide)]; exact (q7 c X hX).2.1
      have et : X.2.2.1 - t = (X.2.2.1 - (t + 1)) + 1 := by omega
      rw [et] at eq2
      have eq2 : (o_one n (lw.map Prod.snd) X σ1).bind (o_rep n (lw.map Prod.snd) X (X.2.2.1 - (t + 1))) = o_rep n (lw.map Prod.snd) X X.2.2.1 σ := eq2
      have hT2 : am_TI S I2 P 101 xs := am_TI_cg (fun _ _ z => z) rfl (fun a a1 a2 => F2 a (by omega) (by omega) (by omega) (by omega) (by omega)) hTI
      have hx2 : am_lw S I2 P (P 70) σ1.1 l (σ1.1 76) lw := by
        rw [ek2 76 (by decide)]
        exact am_lw_cg l6 (fun a ha => F2 a (by omega) (by omega) (by omega) (by omega) (by omega)) (fun j hj => ek2 j (by omega)) hx
      have hD2 : k_DC (I2 101 2) X := by rw [F2 101 (by decide) (by decide) (by decide) (by decide) (by decide)]; exact hDC c X hX
      refine w94_89 l3 ?_
      refine w94_90 l1 ?_
      refine w94_91 (L.2 _ _ _ rfl) ?_
      refine w94_94 l2 ?_
      refine w94_95 (L.sh rfl) (am_in_nI (by omega) (by decide)) ?_
      rw [am_clN (by omega), e3]
      refine w94_96 (fun hQ => absurd hQ (am_nlt ht (by omega))) (fun _ => ?_)
      refine w94_99 l3 ?_
      refine w94_100 ?_
      refine w94_102 (fun hQ => absurd hQ (am_nlt (n := 20) (by omega) (by decide))) (fun _ => ?_)
      refine w94_105 l0 ?_
      refine w94_106 l1 ?_
      refine w94_107 l2 ?_
      refine w94_108 (k := c97 (d := d) (σ := σ1) L hC2 hx2 g3 g4 hT2 hX Xc hD2 (fun σ2 I3 J3 hT F3 hC3 g5 g6 => ?_) (fun hn I3 J3 F3 => ?_))
      · rw [o_one_y n7 hT] at eq2
        refine w94_111 (fun _ => ?_) (fun hQ => absurd (by decide) hQ)
        refine w94_148 l3 ?_
        refine w94_151 ?_
        exact ih2 σ2 I3 J3 (F2.tr F3) hC3 g5 g6 (fun j hj => (o_T_k n7 hT j hj).trans (ek2 j hj)) eq2 _ l0 l1 l2 (am_nx t)
      · rw [o_one_n hn] at eq2
        have eq3 : o_rep n (lw.map Prod.snd) X X.2.2.1 σ = none := eq2.symm
        rw [eq3] at eq
        refine w94_111 (fun w => absurd rfl w) (fun _ => ?_)
        exact kf c eq.symm hc I3 J3 (F2.tr F3) _ l0 l2
    · intro σ1 I2 J2 F2 hC2 g3 g4 ek2 eq2 lvv l0 l1 l2 l3
      have e3 : I2 103 c = nI X.2.2.1 := by rw [F2 103 (by decide) (by decide) (by decide) (by decide) (by decide)]; exact (q7 c X hX).2.1
      rw [Nat.sub_self] at eq2
      have eq3 : o_rep n (lw.map Prod.snd) X X.2.2.1 σ = some σ1 := eq2.symm
      rw [eq3] at eq
      refine w94_89 l3 ?_
      refine w94_90 l1 ?_
      refine w94_91 (L.2 _ _ _ rfl) ?_
      refine w94_94 l2 ?_
      refine w94_95 (L.sh rfl) (am_in_nI (by omega) (by decide)) ?_
      rw [am_clN (by omega), e3]
      refine w94_96 (fun _ => ?_) (fun hQ => absurd (Int32.le_refl _) hQ)
      refine w94_154 l2 ?_
      refine w94_157 ?_
      exact ih σ1 I2 J2 F2 hC2 g3 g4 ek2 eq _ l0 l1 (am_nx c)
  · intro σ I1 J1 F1 hC g1 g2 ek eq lvv l0 l1 l2
    rw [List.drop_length] at eq
    have eq2 : o_all n (lw.map Prod.snd) xs 0 σ0 = .inl σ := eq.symm
    have e0 : I1 101 0 = nI xs.length := by rw [F1 101 (by decide) (by decide) (by decide) (by decide) (by decide)]; exact q4
    refine w94_73 l2 ?_
    refine w94_74 l1 ?_
    refine w94_75 ?_
    rw [e0]
    refine w94_78 (fun _ => ?_) (fun hQ => absurd (Int32.le_refl _) hQ)
    refine w94_160 l0 ?_
    refine w94_161 l0 ?_
    refine w94_162 (L.2 _ _ _ rfl) ?_
    refine w94_165 ?_
    refine w94_166 (L.sh rfl) (by decide) ?_
    rw [show Int32.toNatClampNeg 1 = 1 from rfl, g1]
    refine w94_167 (k := c14 L ?_)
    refine w94_170 ?_
    exact kg σ I1 J1 eq2 F1 hC ek
/-- what orders leave alone -/
def o_G (I I' : Nat → Nat → Int32) : Prop := (∀ a, a ≠ 64 → (a < 65 ∨ 80 < a) → (a < 90 ∨ a = 95 ∨ 119 < a) → I' a = I a) ∧ (∀ j, j ≠ 13 → j ≠ 16 → I' 64 j = I 64 j) ∧ I' 94 0 = 0
/-- orders -/
theorem c94 (L : am_Lay S P) (h : HC I kp lf n l s u) (hx : am_lw S I P (P 70) kp l (kp 76) lw) (hls : am_LS S P (P 70)) {b : Nat → Nat} {zt : Nat} (z400 : zt ≤ 400) (hz : I 94 0 = nI zt) (hb : ∀ j, j < zt → I 95 j = nI (b j)) (hb2 : ∀ j, j < zt → b j < 256) {ts : List (Nat × Nat)} (hts : ts = sc b zt (zt + 1) 0) {R : (List Cl × Nat × Nat) ⊕ Nat} (hR : p_read (x_T b ts true) ts.length = some R) (kg : ∀ xs lv' σ' I' J' P', R = .inl (xs, ts.length, lv') → (∃ e : Int32, ∀ (q : Nat) (x : Cl), xs[q]? = some x → k_DC e x) → o_all n (lw.map Prod.snd) xs 0 (kp, lf, u, 0, -1) = .inl σ' → o_G I I' → HC I' σ'.1 σ'.2.1 n l s σ'.2.2.1 → (∀ j, 44 ≤ j → σ'.1 j = kp j) → I' 64 13 = -1 → I' 64 16 = 0 → I' 96 3 = -1 → (∀ a, a ≠ 78 → P' a = P a) → Q (some (.int σ'.2.2.2.1)) (S, I', J', P')) (kf : ∀ xs lv' c I' J' P', R = .inl (xs, ts.length, lv') → (∃ e : Int32, ∀ (q : Nat) (x : Cl), xs[q]? = some x → k_DC e x) → o_all n (lw.map Prod.snd) xs 0 (kp, lf, u, 0, -1) = .inr c → o_G I I' → HC I' kp lf n l s u → I' 64 13 = nI c → I' 96 3 = -1 → (∀ a, a ≠ 78 → P' a = P a) → Q (some (.int (-3))) (S, rf_c I' (-3), J', P')) (kb : ∀ j I', R = .inr j → j ≤ ts.length → q_V (am_u I 64 13 (-1)) I' → I' 96 3 = nI (t_P zt ts j) → Q (some (.int (-6))) (S, rf_c I' (-6), J, P)) : am_ev pr (d + 45) 94 [.ref 64] (S, I, J, P) Q := by
  have hr := h.1
  have l6 := hr.l6
  show am_wp pr (d + 45) 94 0 [(0, .ref 64)] [] _ _
  refine w94_0 rfl ?_
  refine w94_1 ?_
  refine w94_2 ?_
  refine w94_5 rfl ?_
  refine w94_6 (L.2 _ _ _ rfl) ?_
  refine w94_9 rfl ?_
  refine w94_10 (L.2 _ _ _ rfl) ?_
  refine w94_13 ?_
  refine w94_14 (k := c49 (d := d) (o := true) L z400 (by rw [am_u_ne (by decide)]; exact hz) (by rw [am_u_ne (by decide)]; exact hb) hb2 hts hR (fun xs lv' I1 hR1 V1 h3 hTI hDC => ?_) (fun j I1 hR1 hj V1 h3 => ?_))
  · have hcl : ∀ x ∈ xs, k_cl true x := by
      rw [hR1] at hR
      exact (p_read_good hR).1
    have x12 : xs.length ≤ 12 := by
      obtain ⟨N, z, q1, q2, q3, q4, q5, q6, q7⟩ := id hTI
      exact q3
    refine w94_17 (fun _ => ?_) (fun hQ => absurd (by decide) hQ)
    refine w94_27 rfl ?_
    refine w94_28 (L.2 _ _ _ rfl) ?_
    refine w94_31 (L.2 _ _ _ rfl) ?_
    refine w94_34 ?_
    refine w94_35 rfl ?_
    refine w94_36 (L.2 _ _ _ rfl) ?_
    refine w94_39 rfl ?_
    refine w94_40 (L.2 _ _ _ rfl) ?_
    refine w94_43 (k := c95b (d := d + 43) (h := 73) (g := 65) L.h73 L.h65 (by omega) (fun i t _ z => (hls i t z).1) (fun I2 P2 f1 hC2 f2 f3 => ?_))
    have L2 : am_Lay S P2 := am_Lay_78 L f2
    refine w94_46 rfl ?_
    refine w94_47 (L2.2 _ _ _ rfl) ?_
    refine w94_50 rfl ?_
    refine w94_51 (L2.2 _ _ _ rfl) ?_
    refine w94_54 (k := c96b (d := d + 43) (p := 92) (q := 90) L2.p92 L2.p90 (by omega) (fun I3 e1 e2 e3 => ?_))
    refine w94_57 rfl ?_
    refine w94_58 (L2.2 _ _ _ rfl) ?_
    refine w94_61 ?_
    refine w94_62 ?_
    refine w94_63 (L2.sh rfl) (by decide) ?_
    rw [show Int32.toNatClampNeg 1 = 1 from rfl]
    refine w94_64 rfl ?_
    refine w94_65 (L2.2 _ _ _ rfl) ?_
    refine w94_68 ?_
    refine w94_69 ?_
    refine w94_70 (L2.sh rfl) (by decide) ?_
    rw [show Int32.toNatClampNeg 2 = 2 from rfl]
    refine w94_71 ?_
    refine w94_72 ?_
    generalize hI4 : am_u (am_u I3 108 1 0) 108 2 (-1) = I4
    have s1 : I4 108 1 = 0 := by rw [← hI4, am_u_at (by decide), am_u_self]
    have s2 : I4 108 2 = -1 := by rw [← hI4, am_u_self]
    have f4 : ∀ a, a ≠ 108 → I4 a = I3 a := fun a ha => by rw [← hI4, am_u_ne ha, am_u_ne ha]
    have G1 : ∀ a, a ≠ 108 → (a < 73 ∨ 80 < a) → a ≠ 92 → a ≠ 93 → I4 a = I1 a := fun a a1 a2 a3 a4 => by rw [f4 a a1, e1 a a3 a4, f1 a (by omega)]
    have G0 : ∀ a, a ≠ 64 → a ≠ 94 → (a < 96 ∨ 107 < a) → I1 a = I a := fun a a1 a2 a3 => by rw [V1.1 a a2 a3, am_u_ne a1]
    have G : ∀ a, a ≠ 64 → (a < 73 ∨ 80 < a) → a ≠ 92 → a ≠ 93 → a ≠ 94 → (a < 96 ∨ 108 < a) → I4 a = I a := fun a a1 a2 a3 a4 a5 a6 => by rw [G1 a (by omega) a2 a3 a4, G0 a a1 a5 (by omega)]
    have hC4 : HC I4 kp lf n l s u := ⟨am_HR_cg 65 (fun a a1 a2 => G a (by omega) (by omega) (by omega) (by omega) (by omega) (by omega)) rfl hr, h.2.1, by rw [G 90 (by decide) (by decide) (by decide) (by decide) (by decide) (by decide)]; exact h.2.2.1, by rw [G 91 (by decide) (by decide) (by decide) (by decide) (by decide) (by decide)]; exact h.2.2.2⟩
    have hx4 : am_lw S I4 P2 (P2 70) kp l (kp 76) lw := by
      rw [f2 70 (by decide)]
      exact am_lw_P (fun a ha => f2 a (by omega)) (am_lw_cg l6 (fun a ha => G a (by omega) (by omega) (by omega) (by omega) (by omega) (by omega)) (fun _ _ => rfl) hx)
    have hTI4 : am_TI S I4 P2 101 xs := am_TI_cg (fun _ _ z => z) (f2 101 (by decide)) (fun a a1 a2 => G1 a (by omega) (by omega) (by omega) (by omega)) hTI
    have hDC4 : ∀ (q : Nat) (x : Cl), xs[q]? = some x → k_DC (I4 101 2) x := fun q x hq => by rw [G1 101 (by decide) (by decide) (by decide) (by decide)]; exact hDC q x hq
    have e96 : I4 96 3 = -1 := by rw [G1 96 (by decide) (by decide) (by decide) (by decide)]; exact h3
    have e64 : I4 64 = am_u I 64 13 (-1) 64 := by rw [G1 64 (by decide) (by decide) (by decide) (by decide), V1.1 64 (by decide) (by decide)]
    have e94 : I4 94 0 = 0 := by rw [G1 94 (by decide) (by decide) (by decide) (by decide)]; exact V1.2.1
    have h73 : am_HR I4 73 kp n l s := by
      refine am_HR_cg 73 (I := I2) (fun a a1 a2 => by rw [f4 a (by omega), e1 a (by omega) (by omega)]) rfl (hr_copy (h := 73) (g := 65) (I := I1) ?_ hC2)
      exact am_HR_cg 65 (fun a a1 a2 => G0 a (by omega) (by omega) (by omega)) rfl hr
    have h92 : I4 92 0 = nI u := by rw [f4 92 (by decide), e2, f1 90 (by decide), G0 90 (by decide) (by decide) (by decide)]; exact h.2.2.1
    have h93 : ∀ j, j < 48 → I4 93 j = I 91 j := fun j hj => by rw [f4 93 (by decide), e3 j hj, f1 91 (by decide), G0 91 (by decide) (by decide) (by decide)]
    refine c94L (d := d + 37) (σ0 := (kp, lf, u, 0, -1)) L2 hC4 hx4 s1 s2 hTI4 hcl hDC4 (fun σ' I5 J5 ho F5 hC5 ek => ?_) (fun c ho hc I5 J5 F5 => ?_) _ rfl rfl rfl
    · have E5 : ∀ a, a ≠ 64 → (a < 65 ∨ 72 < a) → a ≠ 90 → a ≠ 91 → (a < 108 ∨ 119 < a) → am_u I5 64 16 0 a = I4 a := fun a a0 a1 a2 a3 a4 => by rw [am_u_ne a0]; exact F5 a a1 a2 a3 (by omega) (by omega)
      have E64 : ∀ j, j ≠ 16 → am_u I5 64 16 0 64 j = am_u I 64 13 (-1) 64 j := fun j hj => by rw [am_u_at hj, F5 64 (by decide) (by decide) (by decide) (by decide) (by decide), e64]
      refine kg xs lv' σ' _ J5 P2 hR1 ⟨_, hDC⟩ ho ⟨fun a a1 a2 a3 => ?_, fun j j1 j2 => ?_, ?_⟩ ⟨?_, hC5.2.1, ?_, ?_⟩ ek ?_ am_u_self ?_ f2
      · rw [E5 a a1 (by omega) (by omega) (by omega) (by omega)]
        exact G a a1 (by omega) (by omega) (by omega) (by omega) (by omega)
      · rw [E64 j j2, am_u_at j1]
      · rw [E5 94 (by decide) (by decide) (by decide) (by decide) (by decide)]; exact e94
      · exact am_HR_cg 65 (fun a a1 a2 => am_u_ne (by omega)) rfl hC5.1
      · rw [am_u_ne (by decide)]; exact hC5.2.2.1
      · rw [am_u_ne (by decide)]; exact hC5.2.2.2
      · rw [E64 13 (by decide), am_u_self]
      · rw [E5 96 (by decide) (by decide) (by decide) (by decide) (by decide)]; exact e96
    · intro lvv l0 l2
      refine w94_114 l0 ?_
      refine w94_115 (L2.2 _ _ _ rfl) ?_
      refine w94_118 l0 ?_
      refine w94_119 (L2.2 _ _ _ rfl) ?_
      refine w94_122 (k := c95b (d := d + 43) (h := 65) (g := 73) L2.h65 L2.h73 (by omega) (fun i t hi z => ?_) (fun I6 P6 f6 hC6 g6 g7 => ?_))
      · rw [f3 i, if_pos hi] at z
        exact (hls i t z).1
      have p70 : P6 70 = P 70 := by
        funext i
        rw [g7 i]
        by_cases q : i < 6
        · rw [if_pos q, f3 i, if_pos q]
        · rw [if_neg q]
          exact congrFun (f2 70 (by decide)) i
      have eP : ∀ a, a ≠ 78 → P6 a = P a := fun a ha => by
        by_cases q : a = 70
        · rw [q]; exact p70
        · rw [g6 a q]; exact f2 a ha
      have L6 : am_Lay S P6 := am_Lay_78 L eP
      refine w94_125 l0 ?_
      refine w94_126 (L6.2 _ _ _ rfl) ?_
      refine w94_129 l0 ?_
      refine w94_130 (L6.2 _ _ _ rfl) ?_
      refine w94_133 (k := c96b (d := d + 43) (p := 90) (q := 92) L6.p90 L6.p92 (by omega) (fun I7 e7 e7a e7b => ?_))
      refine w94_136 l0 ?_
      refine w94_137 l2 ?_
      refine w94_138 ?_
      refine w94_141 l0 ?_
      refine w94_142 ?_
      refine w94_144 (k := c11 L6 (by decide) ?_)
      refine w94_147 ?_
      have E : ∀ a, a ≠ 64 → (a < 65 ∨ 72 < a) → a ≠ 90 → a ≠ 91 → (a < 108 ∨ 119 < a) → am_u I7 64 13 (nI c) a = I4 a := fun a a0 a1 a2 a3 a4 => by rw [am_u_ne a0, e7 a a2 a3, f6 a (by omega)]; exact F5 a a1 a2 a3 (by omega) (by omega)
      have E64 : ∀ j, j ≠ 13 → am_u I7 64 13 (nI c) 64 j = I 64 j := fun j hj => by rw [am_u_at hj, e7 64 (by decide) (by decide), f6 64 (by decide), F5 64 (by decide) (by decide) (by decide) (by decide) (by decide), e64, am_u_at hj]
      refine kf xs lv' c (am_u I7 64 13 (nI c)) J5 P6 hR1 ⟨_, hDC⟩ ho ⟨fun a a1 a2 a3 => ?_, fun j j1 j2 => E64 j j1, ?_⟩ ⟨?_, h.2.1, ?_, ?_⟩ am_u_self ?_ eP
      · rw [E a a1 (by omega) (by omega) (by omega) (by omega)]
        exact G a a1 (by omega) (by omega) (by omega) (by omega) (by omega)
      · rw [E 94 (by decide) (by decide) (by decide) (by decide) (by decide)]; exact e94
      · refine am_HR_cg 65 (I := I6) (fun a a1 a2 => by rw [am_u_ne (by omega), e7 a (by omega) (by omega)]) rfl (hr_copy (h := 65) (g := 73) (I := I5) ?_ hC6)
        exact am_HR_cg 73 (fun a a1 a2 => F5 a (by omega) (by omega) (by omega) (by omega) (by omega)) rfl h73
      · rw [am_u_ne (by decide), e7a, f6 92 (by decide), F5 92 (by decide) (by decide) (by decide) (by decide) (by decide)]; exact h92
      · refine am_PA_dd h.2.1 (fun j hj => ?_) h.2.2.2
        rw [am_u_ne (by decide), e7b j hj, f6 93 (by decide), F5 93 (by decide) (by decide) (by decide) (by decide) (by decide)]; exact h93 j hj
      · rw [E 96 (by decide) (by decide) (by decide) (by decide) (by decide)]; exact e96
  · refine w94_17 (fun hQ => absurd hQ (fun q => q rfl)) (fun _ => ?_)
    refine w94_20 rfl ?_
    refine w94_21 ?_
    refine w94_23 (k := c11 L (by decide) ?_)
    refine w94_26 ?_
    exact kb j I1 hR1 hj V1 h3
end
