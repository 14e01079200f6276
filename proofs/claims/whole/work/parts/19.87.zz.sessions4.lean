/-! sessions: both sides' call -/
section
variable {pr : am_Pr} {d : Nat} {S : List (Nat × Nat)} {I I' : Nat → Nat → Int32} {J : Nat → Nat → Int64} {P P' : Nat → Nat → Option Nat} {Q : Option Value → am_H → Prop} {n l s u tp : Nat} {kp lf kp' : Nat → Int32} {lw : Option (Nat × List Cl)} {lv0 : Option (List Cl)}
theorem am_LW_P {p : Nat → Option Nat} (e : ∀ a, 149 ≤ a → P' a = P a) (r : am_LW S I P p kp l) : am_LW S I P' p kp l := by
  intro i hi
  obtain ⟨t, xs, h1, h2, h3, h4⟩ := r i hi
  exact ⟨t, xs, h1, h2, am_TI_cg (fun _ _ z => z) (e t h2) (fun _ _ _ => rfl) h3, h4⟩
theorem am_LS_P {p : Nat → Option Nat} (e : P' 89 = P 89) (r : am_LS S P p) : am_LS S P' p := by
  intro i t h
  obtain ⟨h1, h2, h3⟩ := r i t h
  exact ⟨h1, h2, by rw [e]; exact h3⟩
theorem am_R_P (r : am_R S I P n l s u tp) (L : am_Lay S P') (e : ∀ a, a ≠ 86 → P' a = P a) : am_R S I P' n l s u tp := by
  have e149 : ∀ a, 149 ≤ a → P' a = P a := fun a ha => e a (by omega)
  have e89 : P' 89 = P 89 := e 89 (by decide)
  intro q
  match q with
  | 0 => exact L
  | 1 => exact r 1
  | 2 =>
    show am_LW S I P' (P' 70) (I 126) l
    rw [e 70 (by decide)]
    exact am_LW_P e149 (r 2)
  | 3 =>
    show am_LS S P' (P' 70)
    rw [e 70 (by decide)]
    exact am_LS_P e89 (r 3)
  | 4 =>
    intro q hq
    unfold am_IM
    rw [e89]
    rcases (r 4 : ∀ q, q < 2 → am_IM S I P q) q hq with z | ⟨z, h, n1, l1, s1, z1, z2, z3, z4, z5, z6, z7⟩
    · exact Or.inl z
    · refine Or.inr ⟨z, h, n1, l1, s1, z1, z2, z3, am_Hs_cg (e h (by omega)) z4, z5, ?_, ?_⟩
      · rw [e (h + 1 + 4) (by omega)]; exact am_LW_P e149 z6
      · rw [e (h + 1 + 4) (by omega)]; exact am_LS_P e89 z7
  | 5 =>
    show ∀ h0 h1, P' 89 0 = some h0 → P' 89 1 = some h1 → h0 + 7 < h1 ∨ h1 + 7 < h0
    rw [e89]
    exact r 5
  | 6 => exact r 6
  | 7 => exact r 7
  | 8 => exact r 8
  | 9 => exact r 9
  | 10 => exact r 10
  | 11 => exact r 11
  | q + 12 => exact trivial
/-- sessions -/
theorem op_35 (r : am_R S I P n l s u tp) {x y : Int32} : am_op pr (d + 60) S I J P 153 [.ref 64, .int x, .int y] 298 [.ref 124, .int x, .int y] := by
  have hr := r.hr
  have n7 := hr.n7
  have L := r.L
  by_cases hv : (0 ≤ x ∧ x ≤ 1000000) ∧ 1 ≤ y ∧ y ≤ 60
  · by_cases n0 : 0 < n
    · obtain ⟨a, ha, rfl⟩ := nI_of2 (M := 1000000) (n := 1000000) (by decide) (Int32.not_lt.mpr hv.1.1) hv.1.2
      obtain ⟨c, hc, rfl⟩ := nI_of2 (M := 60) (n := 60) (by decide) (Int32.not_lt.mpr (Int32.le_trans (by decide) hv.2.1)) hv.2.2
      have c1 : 1 ≤ c := (nI_leI (a := 1) (by omega) (by omega)).mp hv.2.1
      obtain ⟨lw, hx⟩ := r.lw
      have hlw := hx.m hr.l6
      obtain ⟨v, v9, ev⟩ := hr.dr
      obtain ⟨R, hR⟩ : ∃ R, R ≤ c ∧ v + R ≤ 999 ∧ (R = c ∨ v + R = 999) := by
        by_cases z : v + c ≤ 999
        · exact ⟨c, Nat.le_refl _, z, Or.inl rfl⟩
        · exact ⟨999 - v, by omega, by omega, Or.inr (by omega)⟩
      refine c153 L hr n0 hx (r 3) ha ev v9 c1 hc hR (fun I1 J1 P1 f1 f2 f3 f4 hr1 => ⟨_, rfl, ?_⟩)
      have L1 : am_Lay S P1 := ⟨L.1, fun x y z h => by
        by_cases e : x = 86
        · subst e
          exact absurd h (by unfold am_ptr; simp [am_pts])
        · rw [f4 x e]; exact L.2 x y z h⟩
      have g0 : ∀ q, 120 ≤ q → I1 q = I q := fun q hq => f1 q (by omega) (by omega) (by omega) (by omega) (by omega)
      refine c298 (kp := I 126) L1 (g0 126 (by decide)) hr.kn n7 n0 hlw ha ev v9 c1 hc hR (fun I2 g1 g2 g3 g4 g5 => ?_)
      have e : ∀ q, q ≠ 124 → q ≠ 129 → q ≠ 136 → ¬ (138 ≤ q ∧ q ≤ 140) → q ≠ 148 → q ≠ 64 → ¬ (81 ≤ q ∧ q ≤ 88) → ¬ (109 ≤ q ∧ q ≤ 113) → q ≠ 118 → q ≠ 119 → I2 q = I q := fun q a1 a2 a3 a4 a5 a6 a7 a8 a9 a10 => by rw [g1 q a1 a2 a3 a4 a5, f1 q a6 a7 a8 a9 a10]
      have e126 : I2 126 = I 126 := e 126 (by decide) (by decide) (by decide) (by decide) (by decide) (by decide) (by decide) (by decide) (by decide) (by decide)
      have e64 : I2 64 = I1 64 := g1 64 (by decide) (by decide) (by decide) (by decide) (by decide)
      have e124 : ∀ q, (q < 22 ∨ 25 < q) → q ≠ 49 → q ≠ 48 → q ≠ 0 → I2 124 q = I 124 q := fun q a1 a2 a3 a4 => by rw [g2 q a1 a2 a3 a4, g0 124 (by decide)]
      have hE : ∀ q, (q = 65 ∨ q = 66 ∨ q = 67 ∨ q = 68 ∨ q = 69 ∨ q = 70 ∨ q = 71 ∨ q = 72 ∨ q = 90 ∨ q = 91 ∨ q = 94 ∨ q = 95 ∨ q = 96 ∨ q = 123 ∨ q = 125 ∨ q = 127 ∨ q = 128 ∨ q = 130 ∨ q = 131 ∨ q = 141 ∨ 149 ≤ q) → I2 q = I q := fun q hq => e q (by omega) (by omega) (by omega) (by omega) (by omega) (by omega) (by omega) (by omega) (by omega) (by omega)
      have hk := (z_it_b (kp := I 126) (lv0 := lw.map Prod.snd) n7 n0 (show a < 1000003 by omega) ev R)
      refine am_oi_0 (n := n) (l := l) (s := s) (u := u) (tp := tp) (am_R_P (am_R_mk r (fun a ha => hE a (by omega)) (hE 127 (by omega)) (hE 128 (by omega)) (hE 130 (by omega)) (fun j _ => by rw [e126]) ?_ ?_ ?_ ?_ ?_ ?_) L1 f4) rfl
      · rw [e126]; exact am_HR_cg 65 (fun a h1 h2 => hE a (by omega)) rfl hr
      · rw [hE 90 (by omega), hE 91 (by omega), hE 141 (by omega), e126, e124 35 (by omega) (by decide) (by decide) (by decide)]; exact r.past
      · rw [hE 94 (by omega), hE 95 (by omega), hE 131 (by omega), e124 13 (by omega) (by decide) (by decide) (by decide)]; exact r.tape
      · rw [hE 96 (by omega), e64, f2 13 (by decide) (by decide), f2 14 (by decide) (by decide), f3, e124 14 (by omega) (by decide) (by decide) (by decide), e124 40 (by omega) (by decide) (by decide) (by decide), e124 6 (by omega) (by decide) (by decide) (by decide), g4]
        exact ⟨r.i8.1, r.i8.2.1, r.i8.2.2.1, rfl⟩
      · rw [hE 123 (by omega), hE 125 (by omega)]; exact r.i9
      · rw [g1 81 (by decide) (by decide) (by decide) (by decide) (by decide), g1 84 (by decide) (by decide) (by decide) (by decide) (by decide), g3]
        refine Or.inr ⟨n, n0, n7, rfl, hr1.hn, ?_, fun m hm => ?_, fun j hj => ?_⟩
        · rw [g5 42 (by decide)]; exact hr1.st
        · rw [g5 _ (by omega)]
          have z := hr1.he m (by omega)
          rcases hr1.k01 m hm with q | q
          · rw [q] at z ⊢
            exact (am_bit_n0.mp (fun w => absurd (z.mp w).2 (by decide))).symm
          · rw [q] at z ⊢
            exact (z.mpr ⟨hm, rfl⟩).symm
        · rw [g5 j (by omega)]; exact hr1.wa j hj
    · have z : n = 0 := by omega
      subst z
      have e0 : I 65 0 = 0 := hr.hn
      have e1 : I 126 73 = 0 := hr.kn
      refine op_rf r (-3) (fun Q k => ?_) (fun I1 J1 f Q k => ?_)
      · show am_wp pr (d + 60) 153 0 [(0, .ref 64), (1, .int x), (2, .int y)] [] _ _
        refine w153_0 rfl ?_
        refine w153_1 (fun hQ => absurd hQ (Int32.not_lt.mpr hv.1.1)) (fun _ => ?_)
        refine w153_4 rfl ?_
        refine w153_5 ?_
        refine w153_8 (fun hQ => absurd hQ (Int32.not_lt.mpr hv.1.2)) (fun _ => ?_)
        refine w153_11 rfl ?_
        refine w153_12 ?_
        refine w153_13 (fun hQ => absurd hQ (Int32.not_lt.mpr hv.2.1)) (fun _ => ?_)
        refine w153_16 rfl ?_
        refine w153_17 ?_
        refine w153_19 (fun _ => ?_) (fun hQ => absurd hv.2.2 hQ)
        refine w153_28 rfl ?_
        refine w153_29 (L.2 _ _ _ rfl) ?_
        refine w153_32 ?_
        rw [e0]
        refine w153_35 (fun hQ => absurd hQ (fun q => q rfl)) (fun _ => ?_)
        refine w153_38 rfl ?_
        refine w153_39 ?_
        refine w153_41 (k := c11 L (by decide) ?_)
        refine w153_44 ?_
        exact k
      · show am_wp pr (d + 60) 298 0 [(0, .ref 124), (1, .int x), (2, .int y)] [] _ _
        refine w298_0 rfl ?_
        refine w298_1 ?_
        refine w298_2 ?_
        refine w298_4 (k := c164 ?_)
        rw [am_b_t hv.1]
        refine w298_7 (fun hQ => absurd hQ (by decide)) (fun _ => ?_)
        refine w298_10 rfl ?_
        refine w298_11 ?_
        refine w298_12 ?_
        refine w298_14 (k := c164 ?_)
        rw [am_b_t hv.2]
        refine w298_17 (fun _ => ?_) (fun hQ => absurd (by decide) hQ)
        refine w298_26 rfl ?_
        refine w298_27 (k := c171 L ?_)
        rw [f 126 (by decide) (by decide), e1]
        refine w298_30 (fun hQ => absurd hQ (fun q => q rfl)) (fun _ => ?_)
        refine w298_33 rfl ?_
        refine w298_34 ?_
        refine w298_36 (k := c165 L (by decide) ?_)
        refine w298_39 ?_
        exact k
  · refine op_rf r (-1) (fun Q k => ?_) (fun I1 J1 f Q k => ?_)
    · show am_wp pr (d + 60) 153 0 [(0, .ref 64), (1, .int x), (2, .int y)] [] _ _
      refine w153_0 rfl ?_
      refine w153_1 (fun h1 => ?_) (fun h1 => ?_)
      · refine w153_22 rfl ?_
        refine w153_23 ?_
        refine w153_24 (k := c11 L (by decide) ?_)
        refine w153_27 ?_
        exact k
      · replace h1 := Int32.not_lt.mp h1
        refine w153_4 rfl ?_
        refine w153_5 ?_
        refine w153_8 (fun h8 => ?_) (fun h8 => ?_)
        · refine w153_22 rfl ?_
          refine w153_23 ?_
          refine w153_24 (k := c11 L (by decide) ?_)
          refine w153_27 ?_
          exact k
        · replace h8 := Int32.not_lt.mp h8
          refine w153_11 rfl ?_
          refine w153_12 ?_
          refine w153_13 (fun h13 => ?_) (fun h13 => ?_)
          · refine w153_22 rfl ?_
            refine w153_23 ?_
            refine w153_24 (k := c11 L (by decide) ?_)
            refine w153_27 ?_
            exact k
          · replace h13 := Int32.not_lt.mp h13
            refine w153_16 rfl ?_
            refine w153_17 ?_
            refine w153_19 (fun h19 => ?_) (fun h19 => ?_)
            · exact absurd ⟨⟨h1, h8⟩, h13, h19⟩ hv
            · replace h19 := Int32.not_le.mp h19
              refine w153_22 rfl ?_
              refine w153_23 ?_
              refine w153_24 (k := c11 L (by decide) ?_)
              refine w153_27 ?_
              exact k
    · show am_wp pr (d + 60) 298 0 [(0, .ref 124), (1, .int x), (2, .int y)] [] _ _
      by_cases h1 : 0 ≤ x ∧ x ≤ 1000000
      · refine w298_0 rfl ?_
        refine w298_1 ?_
        refine w298_2 ?_
        refine w298_4 (k := c164 ?_)
        rw [am_b_t h1]
        refine w298_7 (fun hQ => absurd hQ (by decide)) (fun _ => ?_)
        refine w298_10 rfl ?_
        refine w298_11 ?_
        refine w298_12 ?_
        refine w298_14 (k := c164 ?_)
        rw [am_b_f (fun q => hv ⟨h1, q⟩)]
        refine w298_17 (fun hQ => absurd hQ (fun q => q rfl)) (fun _ => ?_)
        refine w298_20 rfl ?_
        refine w298_21 ?_
        refine w298_22 (k := c165 L (by decide) ?_)
        refine w298_25 ?_
        exact k
      · refine w298_0 rfl ?_
        refine w298_1 ?_
        refine w298_2 ?_
        refine w298_4 (k := c164 ?_)
        rw [am_b_f h1]
        refine w298_7 (fun _ => ?_) (fun hQ => absurd rfl hQ)
        refine w298_20 rfl ?_
        refine w298_21 ?_
        refine w298_22 (k := c165 L (by decide) ?_)
        refine w298_25 ?_
        exact k
end
