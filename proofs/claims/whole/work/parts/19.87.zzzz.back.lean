/-! an image taken back -/
section
variable {pr : am_Pr} {d : Nat} {S : List (Nat × Nat)} {I I' : Nat → Nat → Int32} {J : Nat → Nat → Int64} {P P' : Nat → Nat → Option Nat} {Q : Option Value → am_H → Prop} {n l s u tp : Nat} {kp lf kp' : Nat → Int32}
theorem c167 (L : am_Lay S P) {q : Nat} (hq : q < 2) (h128 : I 128 q = 1) (k : ∀ I', (∀ a, a ≠ 124 → a ≠ 126 → I' a = I a) → (∀ j, j ≠ 0 → j ≠ 35 → I' 124 j = I 124 j) → I' 124 0 = 0 → I' 124 35 = 0 → (∀ j, j < 5684 → I' 126 j = I 127 (5684 * q + j)) → Q (some (.int 0)) (S, I', J, P)) : am_ev pr (d + 2) 167 [.ref 124, .int (nI q)] (S, I, J, P) Q := by
  have h1 : (0 : Int32) ≤ nI q ∧ nI q ≤ 1 := ⟨nI_pos' (by omega), nI_le (b := 1) (by omega) (by decide)⟩
  show am_wp pr (d + 2) 167 0 [(0, .ref 124), (1, .int (nI q))] [] _ _
  refine w167_0 rfl ?_
  refine w167_1 ?_
  refine w167_2 ?_
  refine w167_3 (k := c164 ?_)
  rw [am_b_t h1]
  refine w167_6 (fun _ => ?_) (fun hQ => absurd (by decide) hQ)
  refine w167_15 rfl ?_
  refine w167_16 (L.2 _ _ _ rfl) ?_
  refine w167_19 rfl ?_
  refine w167_20Z (L.sh rfl) (am_in_nI (by omega) (by decide)) ?_
  rw [am_clN (by omega), h128]
  refine w167_21 (fun _ => ?_) (fun hQ => absurd (by decide) hQ)
  refine w167_31 ?_
  refine w167_32 ?_
  refine am_for (fun b => ∀ I' : Nat → Nat → Int32, (∀ a, a ≠ 126 → I' a = I a) → (∀ j, j < b → I' 126 j = I 127 (5684 * q + j)) → ∀ lv, am_ld1 lv 0 = some (.ref 124) → am_ld1 lv 1 = some (.int (nI q)) → am_ld1 lv 2 = some (.int (nI b)) → am_wp pr (d + 2) 167 33 lv [] (S, I', J, P) Q) 5684 ?_ ?_ I (fun _ _ => rfl) (fun j hj => absurd hj (Nat.not_lt_zero j)) _ rfl rfl rfl
  · intro b hb ih I' f1 f2 lv l0 l1 l2
    have e1 : I' 127 (5684 * q + b) = I 127 (5684 * q + b) := by rw [f1 127 (by decide)]
    refine w167_33 l2 ?_
    refine w167_34 ?_
    refine w167_37 (fun hQ => absurd hQ (am_nlt hb (by decide))) (fun _ => ?_)
    refine w167_40 l0 ?_
    refine w167_41 (L.2 _ _ _ rfl) ?_
    refine w167_44 l2 ?_
    refine w167_45 l0 ?_
    refine w167_46 (L.2 _ _ _ rfl) ?_
    refine w167_49 ?_
    refine w167_52 l1 ?_
    refine w167_53 ?_
    rw [show (5684 : Int32) * nI q = nI (5684 * q) from pk_mul 5684 q]
    refine w167_54 l2 ?_
    refine w167_55 ?_
    rw [nI_add]
    refine w167_56 (L.sh rfl) (am_in_nI (by omega) (by decide)) ?_
    rw [am_clN (by omega), e1]
    refine w167_57 (L.sh rfl) (am_in_nI (by omega) (by decide)) ?_
    rw [am_clN (by omega)]
    refine w167_58 l2 ?_
    refine w167_61 ?_
    refine ih _ (fun a ha => by rw [am_u_ne ha]; exact f1 a ha) (fun j hj => ?_) _ l0 l1 (am_nx b)
    by_cases z : j = b
    · rw [z, am_u_self]
    · rw [am_u_at z]; exact f2 j (by omega)
  · intro I' f1 f2 lv l0 l1 l2
    refine w167_33 l2 ?_
    refine w167_34 ?_
    refine w167_37 (fun _ => ?_) (fun hQ => absurd (Int32.le_refl _) hQ)
    refine w167_64 l0 ?_
    refine w167_65 ?_
    refine w167_66 (k := c168 L ?_)
    refine w167_69 ?_
    refine k _ (fun a a1 a2 => by rw [am_u_ne a1, am_u_ne a1, f1 a a2]) (fun j j1 j2 => by rw [am_u_at j1, am_u_at j2, f1 124 (by decide)]) am_u_self (by rw [am_u_at (by decide), am_u_self]) (fun j hj => by rw [am_u_ne (by decide), am_u_ne (by decide), f2 j hj])
/-- back -/
theorem op_38 (r : am_R S I P n l s u tp) {x : Int32} : am_op pr (d + 60) S I J P 159 [.ref 64, .int x] 167 [.ref 124, .int x] := by
  have hr := r.hr
  have L := r.L
  have hp := L.p90
  by_cases hv : 0 ≤ x ∧ x ≤ 1
  · obtain ⟨q, hq, rfl⟩ := nI_of2 (M := 1) (n := 1) (by decide) (Int32.not_lt.mpr hv.1) hv.2
    have hq2 : nI q < 2 := nI_lt (b := 2) (by omega) (by decide)
    rcases (r 4 : ∀ q, q < 2 → am_IM S I P q) q (by omega) with ⟨z1, z2⟩ | ⟨z, h, n1, l1, s1, z1, z2, z3, z4, z5, z6, z7⟩
    · refine op_rf r (-2) (fun Q k => ?_) (fun I1 J1 f Q k => ?_)
      · show am_wp pr (d + 60) 159 0 [(0, .ref 64), (1, .int (nI q))] [] _ _
        refine w159_0 rfl ?_
        refine w159_1 (fun hQ => absurd hQ (Int32.not_lt.mpr hv.1)) (fun _ => ?_)
        refine w159_4 rfl ?_
        refine w159_5 ?_
        refine w159_6 (fun _ => ?_) (fun hQ => absurd hq2 hQ)
        refine w159_15 rfl ?_
        refine w159_16 (L.2 _ _ _ rfl) ?_
        refine w159_19 rfl ?_
        refine w159_20H (L.sh rfl) (am_in_nI (by omega) (by decide)) ?_
        rw [am_clN (by omega), z2]
        refine w159_21N ?_
        refine w159_22N rfl ?_
        refine w159_23N ?_
        refine w159_26 rfl ?_
        refine w159_27 ?_
        refine w159_29 (k := c11 L (by decide) ?_)
        refine w159_32 ?_
        exact k
      · have e : I1 128 q = 0 := by rw [f 128 (by decide) (by decide)]; exact z1
        show am_wp pr (d + 60) 167 0 [(0, .ref 124), (1, .int (nI q))] [] _ _
        refine w167_0 rfl ?_
        refine w167_1 ?_
        refine w167_2 ?_
        refine w167_3 (k := c164 ?_)
        rw [am_b_t hv]
        refine w167_6 (fun _ => ?_) (fun hQ => absurd (by decide) hQ)
        refine w167_15 rfl ?_
        refine w167_16 (L.2 _ _ _ rfl) ?_
        refine w167_19 rfl ?_
        refine w167_20Z (L.sh rfl) (am_in_nI (by omega) (by decide)) ?_
        rw [am_clN (by omega), e]
        refine w167_21 (fun hQ => absurd hQ (fun q => q rfl)) (fun _ => ?_)
        refine w167_24 rfl ?_
        refine w167_25 ?_
        refine w167_27 (k := c165 L (by decide) ?_)
        refine w167_30 ?_
        exact k
    · show am_wp pr (d + 60) 159 0 [(0, .ref 64), (1, .int (nI q))] [] _ _
      refine w159_0 rfl ?_
      refine w159_1 (fun hQ => absurd hQ (Int32.not_lt.mpr hv.1)) (fun _ => ?_)
      refine w159_4 rfl ?_
      refine w159_5 ?_
      refine w159_6 (fun _ => ?_) (fun hQ => absurd hq2 hQ)
      refine w159_15 rfl ?_
      refine w159_16 (L.2 _ _ _ rfl) ?_
      refine w159_19 rfl ?_
      refine w159_20H (L.sh rfl) (am_in_nI (by omega) (by decide)) ?_
      rw [am_clN (by omega), z1]
      refine w159_21 ?_
      refine w159_22 rfl ?_
      refine w159_23 ?_
      refine w159_33 rfl ?_
      refine w159_34 (L.2 _ _ _ rfl) ?_
      refine w159_37 rfl ?_
      refine w159_38 (k := c95 (h := 65) (g := h) L.h65 z4 (by omega) (fun i t z => (z7 i t z).1) (fun I1 P1 f1 hC f2 f3 => ?_))
      have L0 := L
      have L : am_Lay S P1 := ⟨L0.1, fun x y z h => by
        by_cases e : x = 70
        · subst e
          exact absurd h (by unfold am_ptr; simp [am_pts])
        · rw [f2 x e]; exact L0.2 x y z h⟩
      have hp := L.p90
      have hr1 : am_HR I1 65 (fun j => I 127 (5684 * q + j)) n1 l1 s1 := hr_copy z5 hC
      have l6 := z5.l6
      refine w159_41 rfl ?_
      refine w159_42 (L.2 _ _ _ rfl) ?_
      refine w159_45 (k := c12 hp ?_)
      refine w159_48 rfl ?_
      refine w159_49 ?_
      refine w159_50 (k := c14 L ?_)
      refine w159_53 ⟨_, rfl, ?_⟩
      have e1 : ∀ a, a ≠ 64 → a ≠ 90 → ¬ (65 ≤ a ∧ a ≤ 72) → am_u (am_u I1 90 0 0) 64 16 0 a = I a := fun a a1 a2 a3 => by rw [am_u_ne a1, am_u_ne a2, f1 a (by omega)]
      refine c167 (q := q) L (by omega) (by rw [e1 128 (by decide) (by decide) (by decide)]; exact z) (fun I3 g1 g2 g3 g4 g5 => ?_)
      have e3 : ∀ a, a ≠ 124 → a ≠ 126 → a ≠ 64 → a ≠ 90 → ¬ (65 ≤ a ∧ a ≤ 72) → I3 a = I a := fun a a1 a2 a3 a4 a5 => by rw [g1 a a1 a2, e1 a a3 a4 a5]
      have e4 : ∀ a, 65 ≤ a → a ≤ 72 → I3 a = I1 a := fun a a1 a2 => by rw [g1 a (by omega) (by omega), am_u_ne (by omega), am_u_ne (by omega)]
      have ek : ∀ j, j < 5684 → I3 126 j = I 127 (5684 * q + j) := fun j hj => by rw [g5 j hj, e1 127 (by decide) (by decide) (by decide)]
      have e64 : ∀ j, j ≠ 16 → I3 64 j = I 64 j := fun j hj => by rw [g1 64 (by decide) (by decide), am_u_at hj, am_u_ne (by decide), f1 64 (by omega)]
      have e124 : ∀ j, j ≠ 0 → j ≠ 35 → I3 124 j = I 124 j := fun j j1 j2 => by rw [g2 j j1 j2, e1 124 (by decide) (by decide) (by decide)]
      have e149 : ∀ a, 149 ≤ a → I3 a = I a := fun a ha => e3 a (by omega) (by omega) (by omega) (by omega) (by omega)
      have p149 : ∀ a, 149 ≤ a → P1 a = P a := fun a ha => f2 a (by omega)
      have p89 : P1 89 = P 89 := f2 89 (by omega)
      refine am_oi_0 (n := n1) (l := l1) (s := s1) (u := 0) (tp := tp) ?_ rfl
      intro c
      match c with
      | 0 => exact L
      | 1 => exact am_HR_k ek (am_HR_cg 65 (fun a b1 b2 => e4 a b1 (by omega)) rfl hr1)
      | 2 =>
        show am_LW S I3 P1 (P1 70) (I3 126) l1
        refine am_LW_k l6 ek ?_
        intro i hi
        obtain ⟨t, xs, h1, h2, h3, h4⟩ := am_LW_P p149 (am_LW_cg e149 z6) i hi
        exact ⟨t, xs, (f3 i).trans ((if_pos (by omega)).trans h1), h2, h3, h4⟩
      | 3 =>
        show am_LS S P1 (P1 70)
        intro i t h
        have h2 := (f3 i).symm.trans h
        by_cases y : i < 6
        · rw [if_pos y] at h2
          exact am_LS_P p89 z7 i t h2
        · rw [if_neg y] at h2
          exact am_LS_P p89 (r 3) i t h2
      | 4 =>
        intro c hc
        unfold am_IM
        rw [p89, e3 128 (by decide) (by decide) (by decide) (by decide) (by decide), e3 127 (by decide) (by decide) (by decide) (by decide) (by decide)]
        rcases (r 4 : ∀ q, q < 2 → am_IM S I P q) c hc with y | ⟨y, h', n2, l2, s2, y1, y2, y3, y4, y5, y6, y7⟩
        · exact Or.inl y
        · refine Or.inr ⟨y, h', n2, l2, s2, y1, y2, y3, am_Hs_cg (f2 h' (by omega)) y4, am_HR_cg h' (fun a b1 b2 => e149 a (by omega)) rfl y5, ?_, ?_⟩
          · rw [f2 (h' + 1 + 4) (by omega)]; exact am_LW_P p149 (am_LW_cg e149 y6)
          · rw [f2 (h' + 1 + 4) (by omega)]; exact am_LS_P p89 y7
      | 5 =>
        show ∀ h0 h1, P1 89 0 = some h0 → P1 89 1 = some h1 → h0 + 7 < h1 ∨ h1 + 7 < h0
        rw [p89]
        exact r 5
      | 6 => exact ⟨by omega, by rw [g1 90 (by decide) (by decide), am_u_ne (by decide), am_u_self]; rfl, g4, am_PA_0⟩
      | 7 =>
        show tp ≤ 400 ∧ I3 94 0 = nI tp ∧ I3 124 13 = nI tp ∧ ∀ k, k < tp → (I3 95 k = I3 131 k &&& 255 ∧ (I3 131 k).toInt8.toInt32 = I3 131 k)
        rw [e3 94 (by decide) (by decide) (by decide) (by decide) (by decide), e3 95 (by decide) (by decide) (by decide) (by decide) (by decide), e3 131 (by decide) (by decide) (by decide) (by decide) (by decide), e124 13 (by decide) (by decide)]
        exact r.tape
      | 8 =>
        show I3 96 3 = I3 124 14 ∧ I3 64 13 = I3 124 40 ∧ I3 64 14 = I3 124 6 ∧ I3 64 16 = I3 124 0
        rw [e3 96 (by decide) (by decide) (by decide) (by decide) (by decide), e124 14 (by decide) (by decide), e124 40 (by decide) (by decide), e124 6 (by decide) (by decide), e64 13 (by decide), e64 14 (by decide), g3, g1 64 (by decide) (by decide), am_u_self]
        exact ⟨r.i8.1, r.i8.2.1, r.i8.2.2.1, rfl⟩
      | 9 =>
        show ∀ k, k < 7 → I3 123 k = I3 125 k
        rw [e3 123 (by decide) (by decide) (by decide) (by decide) (by decide), e3 125 (by decide) (by decide) (by decide) (by decide) (by decide)]
        exact r.i9
      | 10 =>
        show am_DR (I3 81) (I3 84) (I3 148) (I3 124 48)
        rw [e3 81 (by decide) (by decide) (by decide) (by decide) (by decide), e3 84 (by decide) (by decide) (by decide) (by decide) (by decide), e3 148 (by decide) (by decide) (by decide) (by decide) (by decide), e124 48 (by decide) (by decide)]
        exact r.draw
      | 11 =>
        show ∀ k x, am_wds[k]? = some x → I3 130 k = nI x
        rw [e3 130 (by decide) (by decide) (by decide) (by decide) (by decide)]
        exact r 11
      | c + 12 => exact trivial
  · refine op_rf r (-1) (fun Q k => ?_) (fun I1 J1 f Q k => ?_)
    · show am_wp pr (d + 60) 159 0 [(0, .ref 64), (1, .int x)] [] _ _
      by_cases h0 : x < 0
      · refine w159_0 rfl ?_
        refine w159_1 (fun _ => ?_) (fun hQ => absurd h0 hQ)
        refine w159_9 rfl ?_
        refine w159_10 ?_
        refine w159_11 (k := c11 L (by decide) ?_)
        refine w159_14 ?_
        exact k
      · have h2 : ¬ x < 2 := fun z => hv ⟨Int32.not_lt.mp h0, Int32.lt_iff_toInt_lt.mp z |> fun w => Int32.le_iff_toInt_le.mpr (by have e2 : (2 : Int32).toInt = 2 := rfl; have e1 : (1 : Int32).toInt = 1 := rfl; omega)⟩
        refine w159_0 rfl ?_
        refine w159_1 (fun hQ => absurd hQ h0) (fun _ => ?_)
        refine w159_4 rfl ?_
        refine w159_5 ?_
        refine w159_6 (fun hQ => absurd hQ h2) (fun _ => ?_)
        refine w159_9 rfl ?_
        refine w159_10 ?_
        refine w159_11 (k := c11 L (by decide) ?_)
        refine w159_14 ?_
        exact k
    · show am_wp pr (d + 60) 167 0 [(0, .ref 124), (1, .int x)] [] _ _
      refine w167_0 rfl ?_
      refine w167_1 ?_
      refine w167_2 ?_
      refine w167_3 (k := c164 ?_)
      rw [am_b_f hv]
      refine w167_6 (fun hQ => absurd hQ (fun q => q rfl)) (fun _ => ?_)
      refine w167_9 rfl ?_
      refine w167_10 ?_
      refine w167_11 (k := c165 L (by decide) ?_)
      refine w167_14 ?_
      exact k
end
