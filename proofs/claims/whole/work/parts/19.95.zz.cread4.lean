/-! the class reads: clauses -/
/-- what reading a clause c leaves alone -/
def q_L (c : Nat) (I I' : Nat → Nat → Int32) (z : Nat) : Prop := (∀ a, a ≠ 96 → (a < 101 ∨ 107 < a) → I' a = I a) ∧ (I' 96 2 = I 96 2 ∧ I' 96 3 = I 96 3 ∧ I' 101 0 = I 101 0) ∧ (∀ k, k < 5 → am_bit (I 101 2) k = 1 → am_bit (I' 101 2) k = 1) ∧ (∀ j, j ≠ c → I' 102 j = I 102 j ∧ I' 103 j = I 103 j ∧ I' 105 j = I 105 j) ∧ (∀ j, (j < c * 3 ∨ c * 3 + 3 ≤ j) → I' 104 j = I 104 j) ∧ ∀ k, k < z → I' 106 k = I 106 k ∧ I' 107 k = I 107 k
def q_W (I I' : Nat → Nat → Int32) : Prop := ∀ a, a ≠ 96 → (a < 101 ∨ 107 < a) → I' a = I a
/-- a clause, as far as it is read: its kind, its sums, how often -/
def q_H (c z0 : Nat) (I0 I : Nat → Nat → Int32) (z : Nat) (kd : Int32) (es : List Ex) (t : Nat) : Prop := q_L c I0 I z0 ∧ z0 ≤ z ∧ I 102 c = kd ∧ I 103 c = nI t ∧ I 105 c = -1 ∧ (∀ j e, es[j]? = some e → (∃ p, I 104 (c * 3 + j) = nI p ∧ p + e.2.length < z ∧ k_at (I 106) (I 107) p (e.2 ++ [(0, 0)])) ∧ k_DX (I 101 2) e) ∧ ∀ j, es.length ≤ j → j < 3 → I 104 (c * 3 + j) = -1
/-- a clause read: what is asked for is kept -/
def k_DC (x : Int32) (c : Cl) : Prop := (∀ (j : Nat) (e : Ex), c.2.1[j]? = some e → k_DX x e) ∧ ∀ t, c.2.2.2 = some t → k_DT x t
def q_C (c z0 : Nat) (I0 I : Nat → Nat → Int32) (z : Nat) (x : Cl) : Prop := q_L c I0 I z0 ∧ z0 ≤ z ∧ am_TC (I 102) (I 103) (I 104) (I 105) (I 106) (I 107) z c x ∧ k_DC (I 101 2) x
section
variable {pr : am_Pr} {S : List (Nat × Nat)} {I I0 I1 I2 I' : Nat → Nat → Int32} {J : Nat → Nat → Int64} {P : Nat → Nat → Option Nat} {Q : Option Value → am_H → Prop} {T : Tk} {N i lv z z0 z1 d f c m t : Nat} {C V : Nat → Int32} {pl : Nat → Nat} {kd : Int32} {es : List Ex}
theorem q_L.W (a : q_L c I I' z) : q_W I I' := a.1
theorem q_L_0 : q_L c I I z := ⟨fun _ _ _ => rfl, ⟨rfl, rfl, rfl⟩, fun _ _ q => q, fun _ _ => ⟨rfl, rfl, rfl⟩, fun _ _ => rfl, fun _ _ => ⟨rfl, rfl⟩⟩
theorem q_L.tr (a : q_L c I I1 z) (b : q_L c I1 I2 z1) (h : z ≤ z1) : q_L c I I2 z := by
  obtain ⟨a1, ⟨a2, a3, a4⟩, a5, a6, a7, a8⟩ := a
  obtain ⟨b1, ⟨b2, b3, b4⟩, b5, b6, b7, b8⟩ := b
  refine ⟨fun q h1 h2 => (b1 q h1 h2).trans (a1 q h1 h2), ⟨b2.trans a2, b3.trans a3, b4.trans a4⟩, fun k hk q => b5 k hk (a5 k hk q), fun j hj => ⟨(b6 j hj).1.trans (a6 j hj).1, (b6 j hj).2.1.trans (a6 j hj).2.1, (b6 j hj).2.2.trans (a6 j hj).2.2⟩, fun j hj => (b7 j hj).trans (a7 j hj), fun k hk => ⟨(b8 k (by omega)).1.trans (a8 k hk).1, (b8 k (by omega)).2.trans (a8 k hk).2⟩⟩
theorem q_K.L (a : q_K I I' z) : q_L c I I' z := by
  obtain ⟨⟨a1, a2, a3⟩, a4, a5, a6⟩ := a
  refine ⟨fun q h1 h2 => a1 q h1 (by omega) (by omega) (by omega), ⟨a2, a5, a3⟩, a4, fun j _ => ?_, fun j _ => ?_, a6⟩
  · rw [a1 102 (by decide) (by decide) (by decide) (by decide), a1 103 (by decide) (by decide) (by decide) (by decide), a1 105 (by decide) (by decide) (by decide) (by decide)]
    exact ⟨rfl, rfl, rfl⟩
  · rw [a1 104 (by decide) (by decide) (by decide) (by decide)]
theorem q_F.W (a : q_F I I') : q_W I I' := fun q h1 h2 => a.1 q h1 (by omega) (by omega) (by omega)
theorem q_W.tr (a : q_W I I1) (b : q_W I1 I2) : q_W I I2 := fun q h1 h2 => (b q h1 h2).trans (a q h1 h2)
theorem q_E.L (E : q_E S I P T N C V pl) (a : q_L c I I' z) : q_E S I' P T N C V pl := by
  obtain ⟨h1, h2, h3, h4, h5, h6⟩ := E
  refine ⟨h1, h2, h3, ?_, fun i hi => ?_, ?_⟩
  · rw [a.1 97 (by decide) (by decide)]; exact h4
  · rw [a.1 98 (by decide) (by decide), a.1 99 (by decide) (by decide), a.1 100 (by decide) (by decide)]; exact h5 i hi
  · rw [a.2.1.1]; exact h6
theorem q_A_L (A : q_A C V pl I i lv z) (h : I' 96 = I 96) (h2 : I' 101 = I 101) : q_A C V pl I' i lv z := by
  unfold q_A
  rw [h, h2]
  exact A
/-- readSumOf -/
theorem c73 {R : (Ex × Nat × Nat) ⊕ Nat} {x : Int32} (h : p_sum T f 0 i lv = some R) (hc : c < 12) (hw : es.length < 3) (hi : i ≤ N) (hl : lv ≤ 50) (E : q_E S I P T N C V pl) (A : q_A C V pl I i lv z) (H : q_H c z0 I0 I z kd es t) (hz : z ≤ i + m) (hm : m ≤ 70) (kg : ∀ e' j lv' z' I', R = .inl (e', j, lv') → q_H c z0 I0 I' z' x (es ++ [e']) t → q_A C V pl I' j lv' z' → z' ≤ j + (m + 1) → Q (some (.int 1)) (S, I', J, P)) (kb : ∀ j I', R = .inr j → j ≤ N → q_W I0 I' → I' 96 3 = nI (pl j) → Q (some (.int 0)) (S, I', J, P)) : am_ev pr (d + 30) 73 [.ref 96, .int (nI c), .int (nI es.length), .int x] (S, I, J, P) Q := by
  have L := E.1
  have hN4 := E.2.1
  obtain ⟨H1, H2, H3, H4, H5, H6, H7⟩ := H
  have e3 : nI c * 3 = nI (c * 3) := pk_mul c 3
  have ez : am_u I 102 c x 101 1 = nI z := by rw [am_u_ne (by decide)]; exact A.2.2.2.2.2
  show am_wp pr (d + 30) 73 0 [(0, .ref 96), (1, .int (nI c)), (2, .int (nI es.length)), (3, .int x)] [] _ _
  refine w73_0 rfl ?_
  refine w73_1 (fun hQ => absurd hQ (nI_pos (by omega))) (fun _ => ?_)
  refine w73_4 rfl ?_
  refine w73_5 ?_
  refine w73_7 (fun hQ => absurd hQ (am_nlt (n := 12) hc (by decide))) (fun _ => ?_)
  refine w73_10 rfl ?_
  refine w73_11 (fun hQ => absurd hQ (nI_pos (by omega))) (fun _ => ?_)
  refine w73_14 rfl ?_
  refine w73_15 ?_
  refine w73_16 (fun _ => ?_) (fun hQ => absurd (nI_lt (b := 3) hw (by decide)) hQ)
  refine w73_24 rfl ?_
  refine w73_25 (L.2 _ _ _ rfl) ?_
  refine w73_28 rfl ?_
  refine w73_29 rfl ?_
  refine w73_30 (k := c75 L hc ?_)
  refine w73_33 rfl ?_
  refine w73_34 (L.2 _ _ _ rfl) ?_
  refine w73_37 (L.2 _ _ _ rfl) ?_
  refine w73_40 rfl ?_
  refine w73_41 ?_
  refine w73_42 ?_
  rw [e3]
  refine w73_43 rfl ?_
  refine w73_44 ?_
  rw [nI_add]
  refine w73_45 rfl ?_
  refine w73_46 (L.2 _ _ _ rfl) ?_
  refine w73_49 ?_
  rw [ez]
  refine w73_52 (L.sh rfl) (am_in_nI (by omega) (by decide)) ?_
  rw [am_clN (by omega)]
  refine w73_53 rfl ?_
  refine w73_54 ?_
  have L1 : q_L c I (am_u (am_u I 102 c x) 104 (c * 3 + es.length) (nI z)) z := by
    refine ⟨fun a h1 h2 => ?_, ⟨?_, ?_, ?_⟩, fun k _ q => ?_, fun j hj => ⟨?_, ?_, ?_⟩, fun j hj => ?_, fun k _ => ⟨?_, ?_⟩⟩
    · rw [am_u_ne (by omega), am_u_ne (by omega)]
    · rw [am_u_ne (by decide), am_u_ne (by decide)]
    · rw [am_u_ne (by decide), am_u_ne (by decide)]
    · rw [am_u_ne (by decide), am_u_ne (by decide)]
    · rw [am_u_ne (by decide), am_u_ne (by decide)]; exact q
    · rw [am_u_ne (by decide), am_u_at hj]
    · rw [am_u_ne (by decide), am_u_ne (by decide)]
    · rw [am_u_ne (by decide), am_u_ne (by decide)]
    · rw [am_u_at (by omega), am_u_ne (by decide)]
    · rw [am_u_ne (by decide), am_u_ne (by decide)]
    · rw [am_u_ne (by decide), am_u_ne (by decide)]
  generalize hI1 : am_u (am_u I 102 c x) 104 (c * 3 + es.length) (nI z) = I1 at L1
  have f102 : I1 102 c = x := by rw [← hI1, am_u_ne (by decide), am_u_self]
  have f104 : ∀ j, I1 104 j = if j = c * 3 + es.length then nI z else I 104 j := fun j => by
    rw [← hI1, am_u_get]
    by_cases q : j = c * 3 + es.length
    · rw [if_pos ⟨rfl, q⟩, if_pos q]
    · rw [if_neg (fun w => q w.2), if_neg q, am_u_ne (by decide)]
  have fr : ∀ a, a ≠ 102 → a ≠ 104 → I1 a = I a := fun a h1 h2 => by rw [← hI1, am_u_ne h2, am_u_ne h1]
  have E1 := E.L L1
  have A1 : q_A C V pl I1 i lv z := q_A_L A (fr 96 (by decide) (by decide)) (fr 101 (by decide) (by decide))
  refine w73_55 (k := c76 (d := d) (dp := 0) h (by omega) hi hl E1 A1 (by omega) (fun e' j lv' I2 hR K2 A2 hk hD => ?_) (fun j I2 hR hj hF h3 => ?_))
  · have hh := h
    rw [hR] at hh
    have hlen := p_sum_len hh
    have hj := p_sum_le E.2.2.1.1 hh hi
    refine w73_58 ?_
    refine w73_60 rfl ?_
    refine w73_61 (L.2 _ _ _ rfl) ?_
    refine w73_64 ?_
    refine w73_65 ?_
    refine w73_66 (k := c83 L A2.2.2.2.2.2 (by omega) ?_)
    refine w73_69 rfl ?_
    refine w73_70 rfl ?_
    refine w73_72 (by first | rfl | exact am_narrow_b _) ?_
    refine kg e' j lv' (z + e'.2.length + 1) _ hR ?_ (tx_A A2) (by omega)
    have K3 : q_K I1 (tx_ad I2 (z + e'.2.length) 0 0) z := K2.tr (tx_K (by omega)) (Nat.le_refl z)
    have L3 : q_L c I (tx_ad I2 (z + e'.2.length) 0 0) z := L1.tr K3.L (Nat.le_refl z)
    have hka : k_at (tx_ad I2 (z + e'.2.length) 0 0 106) (tx_ad I2 (z + e'.2.length) 0 0 107) z (e'.2 ++ [(0, 0)]) := tx_at (c := 0) hk rfl
    have e101 : tx_ad I2 (z + e'.2.length) 0 0 101 2 = I2 101 2 := by
      unfold tx_ad
      rw [am_u_at (by decide), am_u_ne (by decide), am_u_ne (by decide)]
    generalize tx_ad I2 (z + e'.2.length) 0 0 = I3 at *
    have o : ∀ a, (a = 102 ∨ a = 103 ∨ a = 104 ∨ a = 105) → I3 a = I1 a := fun a ha => K3.1.1 a (by omega) (by omega) (by omega) (by omega)
    refine ⟨H1.tr L3 H2, by omega, ?_, ?_, ?_, fun q e hq => ?_, fun q q1 q2 => ?_⟩
    · rw [o 102 (by omega)]; exact f102
    · rw [o 103 (by omega), fr 103 (by decide) (by decide)]; exact H4
    · rw [o 105 (by omega), fr 105 (by decide) (by decide)]; exact H5
    · rcases Nat.lt_or_ge q es.length with w | w
      · rw [List.getElem?_append_left w] at hq
        obtain ⟨⟨p, p1, p2, p3⟩, p4⟩ := H6 q e hq
        refine ⟨⟨p, ?_, by omega, k_at_cg (fun k k1 k2 => L3.2.2.2.2.2 k (by rw [List.length_append] at k2; have : [((0 : Nat), (0 : Int32))].length = 1 := rfl; omega)) p3⟩, k_DX_mo L3.2.2.1 p4⟩
        rw [o 104 (by omega), f104, if_neg (by omega)]
        exact p1
      · have w2 : q = es.length := by
          have := (List.getElem?_eq_some_iff.mp hq).1
          rw [List.length_append] at this
          have : [e'].length = 1 := rfl
          omega
        subst w2
        rw [List.getElem?_append_right (Nat.le_refl _), Nat.sub_self] at hq
        cases hq
        refine ⟨⟨z, ?_, by omega, hka⟩, by rw [e101]; exact hD⟩
        rw [o 104 (by omega), f104, if_pos rfl]
    · rw [List.length_append] at q1
      have : [e'].length = 1 := rfl
      rw [o 104 (by omega), f104, if_neg (by omega)]
      exact H7 q (by omega) q2
  · refine w73_58 ?_
    refine w73_60 rfl ?_
    refine w73_61 (L.2 _ _ _ rfl) ?_
    refine w73_64 ?_
    refine w73_65 ?_
    refine w73_66 (k := c83x L (fun rr I3 g1 g2 => ?_))
    refine w73_69 rfl ?_
    refine w73_70 rfl ?_
    refine w73_72 (by first | rfl | exact am_narrow_b _) ?_
    refine kb j I3 hR hj ?_ (by rw [g1 96 (by decide) (by decide) (by decide)]; exact h3)
    exact (H1.W.tr L1.W).tr (hF.W.tr (fun a a1 a2 => g1 a (by omega) (by omega) (by omega)))
/-- readTimes -/
theorem c84 {R : (Nat × Nat × Nat) ⊕ Nat} (h : p_times T i lv = some R) (hc : c < 12) (hi : i ≤ N) (E : q_E S I P T N C V pl) (A : q_A C V pl I i lv z) (H : q_H c z0 I0 I z kd es 1) (kg : ∀ t j I', R = .inl (t, j, lv) → i ≤ j → q_H c z0 I0 I' z kd es t → q_A C V pl I' j lv z → Q (some (.int 1)) (S, I', J, P)) (kb : ∀ j I', R = .inr j → j ≤ N → q_W I0 I' → I' 96 3 = nI (pl j) → Q (some (.int 0)) (S, I', J, P)) : am_ev pr (d + 2) 84 [.ref 96, .int (nI c)] (S, I, J, P) Q := by
  have L := E.1
  have tr := E.2.2.1
  show am_wp pr (d + 2) 84 0 [(0, .ref 96), (1, .int (nI c))] [] _ _
  unfold p_times at h
  refine w84_0 rfl ?_
  refine w84_1 ?_
  have HS : ∀ I1, q_S I I1 → q_H c z0 I0 I1 z kd es 1 := by
    intro I1 s
    obtain ⟨H1, H2, H3, H4, H5, H6, H7⟩ := H
    refine ⟨H1.tr (s.K).L (Nat.le_refl z0), H2, ?_, ?_, ?_, fun q e hq => ?_, fun q q1 q2 => ?_⟩
    · rw [s.1 102 (by decide)]; exact H3
    · rw [s.1 103 (by decide)]; exact H4
    · rw [s.1 105 (by decide)]; exact H5
    · rw [s.1 104 (by decide), s.1 106 (by decide), s.1 107 (by decide), s.1 101 (by decide)]; exact H6 q e hq
    · rw [s.1 104 (by decide)]; exact H7 q q1 q2
  refine w84_4 (k := c72 (x := 309) (y := 27) E A (by decide) (fun q hi2 I1 s1 A1 => ?_) (fun q => ?_))
  · rw [if_pos (show T.1 i = 27 from q)] at h
    have E1 := E.F s1.F
    have W1 : q_W I0 I1 := H.1.W.tr s1.F.W
    have bad : R = .inr (i + 1) → ∀ lvv, am_ld1 lvv 0 = some (.ref 96) → am_wp pr (d + 2) 84 34 lvv [] (S, I1, J, P) Q := by
      intro hR lvv l0
      refine w84_34 l0 ?_
      refine w84_35 (k := c74 L A1.2.2.2.1 ?_)
      refine w84_38 (by first | rfl | exact am_narrow_b _) ?_
      exact kb (i + 1) _ hR hi2 (W1.tr q_F_3.W) am_u_self
    refine w84_7 (fun _ => ?_) (fun hQ => absurd (by decide) hQ)
    refine w84_12 rfl ?_
    refine w84_13 ?_
    refine w84_15 (k := c79 (m := 20) E1 A1 (by decide) (fun v h1 h2 h3 => ?_) (fun hh => ?_))
    · by_cases v1 : 1 ≤ v
      · have hi3 : i + 1 < N := p_lt tr.1 (by rw [h1]; decide)
        rw [h2, am_clN (by omega), if_pos ⟨h1, nI_le (a := 1) v1 (by omega), nI_le (b := 20) h3 (by decide)⟩] at h
        have hR := (Option.some.inj h).symm
        refine w84_18 ?_
        refine w84_19 rfl ?_
        refine w84_20 ?_
        refine w84_21 (fun hQ => absurd hQ (nI_nlt (b := 1) v1 (by omega))) (fun _ => ?_)
        refine w84_24 rfl ?_
        refine w84_25 (fun hQ => absurd hQ (nI_pos (by omega))) (fun _ => ?_)
        refine w84_28 rfl ?_
        refine w84_29 ?_
        refine w84_31 (fun _ => ?_) (fun hQ => absurd (nI_lt (b := 12) hc (by decide)) hQ)
        refine w84_39 rfl ?_
        refine w84_40 (L.2 _ _ _ rfl) ?_
        refine w84_43 (L.2 _ _ _ rfl) ?_
        refine w84_46 rfl ?_
        refine w84_47 rfl ?_
        refine w84_48 (L.sh rfl) (am_in_nI hc (by decide)) ?_
        rw [am_clN (by omega)]
        refine w84_49 rfl ?_
        have A2 : q_A C V pl (am_u I1 103 c (nI v)) (i + 1) lv z := q_A_L A1 (am_u_ne (by decide)) (am_u_ne (by decide))
        have L2 : q_L c I1 (am_u I1 103 c (nI v)) z0 := ⟨fun a a1 a2 => am_u_ne (by omega), ⟨by rw [am_u_ne (by decide)], by rw [am_u_ne (by decide)], by rw [am_u_ne (by decide)]⟩, fun k _ w => by rw [am_u_ne (by decide)]; exact w, fun j hj => ⟨by rw [am_u_ne (by decide)], am_u_at hj, by rw [am_u_ne (by decide)]⟩, fun j _ => by rw [am_u_ne (by decide)], fun k _ => ⟨by rw [am_u_ne (by decide)], by rw [am_u_ne (by decide)]⟩⟩
        refine w84_50 (k := c70a (E1.L L2) A2 hi3 (fun I3 s3 A3 => ?_))
        obtain ⟨H1, H2, H3, H4, H5, H6, H7⟩ := HS I1 s1
        refine w84_53 ?_
        refine w84_54 (by first | rfl | exact am_narrow_b _) ?_
        refine kg v (i + 2) I3 hR (by omega) ?_ A3
        refine ⟨(H1.tr L2 (Nat.le_refl z0)).tr (s3.K).L (Nat.le_refl z0), H2, ?_, ?_, ?_, fun q e hq => ?_, fun q q1 q2 => ?_⟩
        · rw [s3.1 102 (by decide), am_u_ne (by decide)]; exact H3
        · rw [s3.1 103 (by decide), am_u_self]
        · rw [s3.1 105 (by decide), am_u_ne (by decide)]; exact H5
        · rw [s3.1 104 (by decide), s3.1 106 (by decide), s3.1 107 (by decide), s3.1 101 (by decide), am_u_ne (show (104 : Nat) ≠ 103 by decide), am_u_ne (show (106 : Nat) ≠ 103 by decide), am_u_ne (show (107 : Nat) ≠ 103 by decide), am_u_ne (show (101 : Nat) ≠ 103 by decide)]
          exact H6 q e hq
        · rw [s3.1 104 (by decide), am_u_ne (by decide)]; exact H7 q q1 q2
      · rw [h2, if_neg (fun w => absurd ((nI_leI (a := 1) (by omega) (by omega)).mp w.2.1) v1)] at h
        refine w84_18 ?_
        refine w84_19 rfl ?_
        refine w84_20 ?_
        refine w84_21 (fun _ => ?_) (fun hQ => absurd (nI_lt (b := 1) (by omega) (by decide)) hQ)
        exact bad (Option.some.inj h).symm _ rfl
    · rw [if_neg (fun w => hh ⟨w.1, w.2.2⟩)] at h
      refine w84_18 ?_
      refine w84_19 rfl ?_
      refine w84_20 ?_
      refine w84_21 (fun _ => ?_) (fun hQ => absurd (by decide) hQ)
      exact bad (Option.some.inj h).symm _ rfl
  · rw [if_neg (show ¬ T.1 i = 27 from q)] at h
    refine w84_7 (fun hQ => absurd hQ (fun q => q rfl)) (fun _ => ?_)
    refine w84_10 ?_
    refine w84_11 (by first | rfl | exact am_narrow_b _) ?_
    exact kg 1 i I (Option.some.inj h).symm (Nat.le_refl i) H A
/-- readIf -/
theorem c85 {R : (Option Te × Nat × Nat) ⊕ Nat} {k0 : Nat} (h : p_if T f i lv = some R) (hc : c < 12) (hi : i ≤ N) (hl : lv ≤ 50) (E : q_E S I P T N C V pl) (A : q_A C V pl I i lv z) (H : q_H c z0 I0 I z (nI (k_kind k0)) es t) (hz : z ≤ i + m) (hm : m ≤ 70) (kg : ∀ te j lv' z' I', R = .inl (te, j, lv') → q_C c z0 I0 I' z' (k0, es, t, te) → q_A C V pl I' j lv' z' → z' ≤ j + (m + 1) → Q (some (.int 1)) (S, I', J, P)) (kb : ∀ j I', R = .inr j → j ≤ N → q_W I0 I' → I' 96 3 = nI (pl j) → Q (some (.int 0)) (S, I', J, P)) : am_ev pr (d + 42) 85 [.ref 96, .int (nI c)] (S, I, J, P) Q := by
  have L := E.1
  have hN4 := E.2.1
  have tr := E.2.2.1
  obtain ⟨H1, H2, H3, H4, H5, H6, H7⟩ := H
  show am_wp pr (d + 42) 85 0 [(0, .ref 96), (1, .int (nI c))] [] _ _
  unfold p_if at h
  refine w85_0 rfl ?_
  refine w85_1 ?_
  refine w85_4 (k := c72 (x := 310) (y := 4) E A (by decide) (fun q hi2 I1 s1 A1 => ?_) (fun q => ?_))
  · rw [if_pos (show T.1 i = 4 from q)] at h
    have E1 := E.F s1.F
    refine w85_7 (fun _ => ?_) (fun hQ => absurd (by decide) hQ)
    refine w85_12 rfl ?_
    refine w85_13 (fun hQ => absurd hQ (nI_pos (by omega))) (fun _ => ?_)
    refine w85_16 rfl ?_
    refine w85_17 ?_
    refine w85_19 (fun _ => ?_) (fun hQ => absurd (nI_lt (b := 12) hc (by decide)) hQ)
    refine w85_27 rfl ?_
    refine w85_28 (L.2 _ _ _ rfl) ?_
    refine w85_31 (L.2 _ _ _ rfl) ?_
    refine w85_34 rfl ?_
    refine w85_35 rfl ?_
    refine w85_36 (L.2 _ _ _ rfl) ?_
    refine w85_39 ?_
    rw [A1.2.2.2.2.2]
    refine w85_42 (L.sh rfl) (am_in_nI hc (by decide)) ?_
    rw [am_clN (by omega)]
    refine w85_43 rfl ?_
    refine w85_44 ?_
    have L2 : q_L c I1 (am_u I1 105 c (nI z)) z := ⟨fun a a1 a2 => am_u_ne (by omega), ⟨by rw [am_u_ne (by decide)], by rw [am_u_ne (by decide)], by rw [am_u_ne (by decide)]⟩, fun k _ w => by rw [am_u_ne (by decide)]; exact w, fun j hj => ⟨by rw [am_u_ne (by decide)], by rw [am_u_ne (by decide)], am_u_at hj⟩, fun j _ => by rw [am_u_ne (by decide)], fun k _ => ⟨by rw [am_u_ne (by decide)], by rw [am_u_ne (by decide)]⟩⟩
    have A2 : q_A C V pl (am_u I1 105 c (nI z)) (i + 1) lv z := q_A_L A1 (am_u_ne (by decide)) (am_u_ne (by decide))
    have L12 : q_L c I (am_u I1 105 c (nI z)) z := (s1.K).L.tr L2 (Nat.le_refl z)
    have ne : p_test T f 0 (i + 1) lv ≠ none := fun w => by rw [w] at h; cases h
    obtain ⟨R2, h2⟩ := Option.ne_none_iff_exists'.mp ne
    refine w85_45 (k := c86 (d := d) (dp := 0) h2 (by omega) hi2 hl (E1.L L2) A2 (by omega) (fun e' j lv' I3 hR K3 A3 hk hD => ?_) (fun j I3 hR hj hF h3 => ?_))
    · rw [h2, hR] at h
      rw [hR] at h2
      have hlen := q_go_len f _ _ _ _ _ _ _ _ h2
      have hl1 := (hlen.2.1 (Or.inr (Or.inr rfl))).1
      have hl2 := (hlen.2.1 (Or.inr (Or.inr rfl))).2 z
      have hj := q_go_le tr.1 f _ _ _ _ _ _ _ _ h2 hi2
      refine w85_48 ?_
      refine w85_49 rfl ?_
      refine w85_50 (L.2 _ _ _ rfl) ?_
      refine w85_53 ?_
      refine w85_54 ?_
      refine w85_55 (k := c83 L A3.2.2.2.2.2 (by omega) ?_)
      refine w85_58 rfl ?_
      refine w85_59 rfl ?_
      refine w85_60 (by first | rfl | exact am_narrow_b _) ?_
      refine kg (some e') j lv' (z + (e'.2 z).length + 1) _ (Option.some.inj h).symm ?_ (tx_A A3) (by omega)
      have K4 : q_K (am_u I1 105 c (nI z)) (tx_ad I3 (z + (e'.2 z).length) 0 0) z := K3.tr (tx_K (by omega)) (Nat.le_refl z)
      have L4 : q_L c I (tx_ad I3 (z + (e'.2 z).length) 0 0) z := L12.tr K4.L (Nat.le_refl z)
      have hka : k_at (tx_ad I3 (z + (e'.2 z).length) 0 0 106) (tx_ad I3 (z + (e'.2 z).length) 0 0 107) z (e'.2 z ++ [(0, 0)]) := tx_at (c := 0) hk rfl
      have e101 : tx_ad I3 (z + (e'.2 z).length) 0 0 101 2 = I3 101 2 := by
        unfold tx_ad
        rw [am_u_at (by decide), am_u_ne (by decide), am_u_ne (by decide)]
      generalize tx_ad I3 (z + (e'.2 z).length) 0 0 = I5 at *
      have o : ∀ a, (a = 102 ∨ a = 103 ∨ a = 104 ∨ a = 105) → I5 a = am_u I1 105 c (nI z) a := fun a ha => K4.1.1 a (by omega) (by omega) (by omega) (by omega)
      refine ⟨H1.tr L4 H2, by omega, ⟨?_, ?_, fun q e hq => ?_, fun q q1 q2 => ?_, fun t' ht => ?_, fun w => by cases w⟩, fun q e hq => k_DX_mo L4.2.2.1 (H6 q e hq).2, fun t' ht => ?_⟩
      · rw [o 102 (by omega), am_u_ne (by decide), s1.1 102 (by decide)]; exact H3
      · rw [o 103 (by omega), am_u_ne (by decide), s1.1 103 (by decide)]; exact H4
      · obtain ⟨⟨p, p1, p2, p3⟩, p4⟩ := H6 q e hq
        refine ⟨p, ?_, by omega, k_at_cg (fun k k1 k2 => L4.2.2.2.2.2 k (by rw [List.length_append] at k2; have : [((0 : Nat), (0 : Int32))].length = 1 := rfl; omega)) p3⟩
        rw [o 104 (by omega), am_u_ne (by decide), s1.1 104 (by decide)]
        exact p1
      · rw [o 104 (by omega), am_u_ne (by decide), s1.1 104 (by decide)]
        exact H7 q q1 q2
      · cases ht
        exact ⟨z, by rw [o 105 (by omega), am_u_self], by omega, hka⟩
      · cases ht
        rw [e101]
        exact hD
    · rw [h2, hR] at h
      refine w85_48 ?_
      refine w85_49 rfl ?_
      refine w85_50 (L.2 _ _ _ rfl) ?_
      refine w85_53 ?_
      refine w85_54 ?_
      refine w85_55 (k := c83x L (fun rr I4 g1 g2 => ?_))
      refine w85_58 rfl ?_
      refine w85_59 rfl ?_
      refine w85_60 (by first | rfl | exact am_narrow_b _) ?_
      refine kb j I4 (Option.some.inj h).symm hj ?_ (by rw [g1 96 (by decide) (by decide) (by decide)]; exact h3)
      exact (H1.W.tr L12.W).tr (hF.W.tr (fun a a1 a2 => g1 a (by omega) (by omega) (by omega)))
  · rw [if_neg (show ¬ T.1 i = 4 from q)] at h
    refine w85_7 (fun hQ => absurd hQ (fun q => q rfl)) (fun _ => ?_)
    refine w85_10 ?_
    refine w85_11 (by first | rfl | exact am_narrow_b _) ?_
    refine kg none i lv z I (Option.some.inj h).symm ⟨H1, H2, ⟨H3, H4, fun q e hq => (H6 q e hq).1, H7, fun t' ht => (by cases ht), fun _ => H5⟩, fun q e hq => (H6 q e hq).2, fun t' ht => (by cases ht)⟩ A (by omega)
end
