/-! the class reads: laws' clauses, orders -/
def q_kc (S : List (Nat × Nat)) (J : Nat → Nat → Int64) (P : Nat → Nat → Option Nat) (C V : Nat → Int32) (pl : Nat → Nat) (c z0 : Nat) (I0 : Nat → Nat → Int32) (m : Nat) (R : (Cl × Nat × Nat) ⊕ Nat) (Q : Option Value → am_H → Prop) : Prop := ∀ x j lv' z' I', R = .inl (x, j, lv') → q_C c z0 I0 I' z' x → q_A C V pl I' j lv' z' → z' ≤ j + m → Q (some (.int 1)) (S, I', J, P)
def q_kw {α : Type} (S : List (Nat × Nat)) (J : Nat → Nat → Int64) (P : Nat → Nat → Option Nat) (pl : Nat → Nat) (N : Nat) (I0 : Nat → Nat → Int32) (R : (α × Nat × Nat) ⊕ Nat) (Q : Option Value → am_H → Prop) : Prop := ∀ j I', R = .inr j → j ≤ N → q_W I0 I' → I' 96 3 = nI (pl j) → Q (some (.int 0)) (S, I', J, P)
theorem pBind_as {α β γ : Type} (x : PR α) (f : α → Nat → Nat → PR β) (g : β → Nat → Nat → PR γ) : pBind (pBind x f) g = pBind x (fun a i l => pBind (f a i l) g) := by
  match x with
  | some (.inl (a, i, l)) => rfl
  | some (.inr j) => rfl
  | none => rfl
section
variable {pr : am_Pr} {S : List (Nat × Nat)} {I I0 I1 I2 I' : Nat → Nat → Int32} {J : Nat → Nat → Int64} {P : Nat → Nat → Option Nat} {Q : Option Value → am_H → Prop} {T : Tk} {N i lv z z0 z1 d f c m t : Nat} {C V : Nat → Int32} {pl : Nat → Nat} {kd : Int32} {es : List Ex}
theorem q_kc.mo {m' : Nat} {R : (Cl × Nat × Nat) ⊕ Nat} (k : q_kc S J P C V pl c z0 I0 m' R Q) (h : m ≤ m') : q_kc S J P C V pl c z0 I0 m R Q := fun x j lv' z' I' h1 h2 h3 h4 => k x j lv' z' I' h1 h2 h3 (by omega)
theorem q_E.L2 {kd' : Int32} {es' : List Ex} {t' : Nat} (E : q_E S I P T N C V pl) (H : q_H c z0 I0 I z kd es t) (H' : q_H c z0 I0 I' z1 kd' es' t') : q_E S I' P T N C V pl := by
  obtain ⟨h1, h2, h3, h4, h5, h6⟩ := E
  have e : ∀ a, a ≠ 96 → (a < 101 ∨ 107 < a) → I' a = I a := fun a a1 a2 => (H'.1.1 a a1 a2).trans (H.1.1 a a1 a2).symm
  refine ⟨h1, h2, h3, ?_, fun i hi => ?_, ?_⟩
  · rw [e 97 (by decide) (by decide)]; exact h4
  · rw [e 98 (by decide) (by decide), e 99 (by decide) (by decide), e 100 (by decide) (by decide)]; exact h5 i hi
  · rw [H'.1.2.1.1, ← H.1.2.1.1]; exact h6
theorem q_H_S (H : q_H c z0 I0 I z kd es t) (s : q_S I I1) : q_H c z0 I0 I1 z kd es t := by
  obtain ⟨H1, H2, H3, H4, H5, H6, H7⟩ := H
  refine ⟨H1.tr (s.K).L (Nat.le_refl z0), H2, ?_, ?_, ?_, fun q e hq => ?_, fun q q1 q2 => ?_⟩
  · rw [s.1 102 (by decide)]; exact H3
  · rw [s.1 103 (by decide)]; exact H4
  · rw [s.1 105 (by decide)]; exact H5
  · rw [s.1 104 (by decide), s.1 106 (by decide), s.1 107 (by decide), s.1 101 (by decide)]; exact H6 q e hq
  · rw [s.1 104 (by decide)]; exact H7 q q1 q2
/-- the kind laid down where there are no sums -/
theorem q_H_k (H : q_H c z0 I0 I z kd es t) {x : Int32} : q_H c z0 I0 (am_u I 102 c x) z x es t := by
  obtain ⟨H1, H2, H3, H4, H5, H6, H7⟩ := H
  refine ⟨H1.tr (z1 := z0) ⟨fun a a1 a2 => am_u_ne (by omega), ⟨by rw [am_u_ne (by decide)], by rw [am_u_ne (by decide)], by rw [am_u_ne (by decide)]⟩, fun k _ w => by rw [am_u_ne (by decide)]; exact w, fun j hj => ⟨am_u_at hj, by rw [am_u_ne (by decide)], by rw [am_u_ne (by decide)]⟩, fun j _ => by rw [am_u_ne (by decide)], fun k _ => ⟨by rw [am_u_ne (by decide)], by rw [am_u_ne (by decide)]⟩⟩ (Nat.le_refl z0), H2, am_u_self, ?_, ?_, fun q e hq => ?_, fun q q1 q2 => ?_⟩
  · rw [am_u_ne (by decide)]; exact H4
  · rw [am_u_ne (by decide)]; exact H5
  · rw [am_u_ne (show (104 : Nat) ≠ 102 by decide), am_u_ne (show (106 : Nat) ≠ 102 by decide), am_u_ne (show (107 : Nat) ≠ 102 by decide), am_u_ne (show (101 : Nat) ≠ 102 by decide)]
    exact H6 q e hq
  · rw [am_u_ne (by decide)]; exact H7 q q1 q2
/-- readLawClause -/
theorem c91 (of : T.2.2 = false) {R : (Cl × Nat × Nat) ⊕ Nat} (h : p_cl T f i lv = some R) (hc : c < 12) (hi : i ≤ N) (hl : lv ≤ 50) (E : q_E S I P T N C V pl) (A : q_A C V pl I i lv z) (H : q_H c z I I z kd [] 1) (hz : z ≤ i + m) (hm : m ≤ 60) (kg : q_kc S J P C V pl c z I (m + 4) R Q) (kb : q_kw S J P pl N I R Q) : am_ev pr (d + 43) 91 [.ref 96, .int (nI c)] (S, I, J, P) Q := by
  have L := E.1
  have h0 := E.2.2.1.1
  have H1 : ∀ I1, q_S I I1 → q_H c z I I1 z kd [] 1 := fun I1 s => q_H_S H s
  have hr : ∀ h j lv1, p_rest T f h j lv1 = p_rest2 T f h 1 j lv1 := by
    intro h j lv1
    unfold p_rest
    rw [if_neg (by rw [of]; decide)]
    rfl
  show am_wp pr (d + 43) 91 0 [(0, .ref 96), (1, .int (nI c))] [] _ _
  rw [p_cl_eq] at h
  unfold p_head at h
  rw [if_neg (show ¬ T.2.2 = true by rw [of]; decide)] at h
  refine w91_0 rfl ?_
  refine w91_1 ?_
  · refine w91_4 (k := c72 (x := 300) (y := 1) E A (by decide) (fun q hi2 I1 s1 A1 => ?_) (fun q1 => ?_))
    · rw [if_pos (show T.1 i = 1 from q)] at h
      refine w91_7 (fun w => absurd w (by decide)) (fun _ => ?_)
      refine w91_10 rfl ?_
      refine w91_11 rfl ?_
      refine w91_12 ?_
      refine w91_13 ?_
      rcases pBind_some h with ⟨hv, j1, l1, h1, h2⟩ | ⟨j1, h1, h2⟩
      · obtain ⟨a, h3, rfl⟩ := pMap_ok h1
        have sl := p_sum_le h0 h3 hi2
        have sv := (p_sum_len h3).2.2 hl
        rw [hr] at h2
        refine w91_14 (k := c73 (d := d + 12) (es := []) (x := 0) h3 hc (by decide) hi2 hl (E.F s1.F) A1 (H1 I1 s1) (show z ≤ i + 1 + m by omega) (by omega) (fun e' j lv' z' I' hR H' A' hz' => ?_) (fun j I' hR => by cases hR))
        cases hR
        refine w91_17 (fun w => absurd w (by decide)) (fun _ => ?_)
        refine w91_20 rfl ?_
        refine w91_21 rfl ?_
        rcases pBind_some h2 with ⟨te, j3, l3, h5, h6⟩ | ⟨j3, h5, h6⟩
        · refine w91_22 (k := c85 (d := d) (k0 := 1) h5 hc sl sv (E.L2 H H') A' H' hz' (by omega) (fun te' j' lv2 z2 I2 hR hC A2 hz2 => ?_) (fun j I' hR => by cases hR))
          cases hR
          refine w91_25 (fun hQ => absurd hQ (by decide)) (fun _ => ?_)
          refine w91_28 ?_
          refine w91_29 ?_
          refine w91_33 (by first | rfl | exact am_narrow_b _) ?_
          exact kg _ _ _ z2 I2 (Option.some.inj h6).symm hC A2 (by omega)
        · refine w91_22 (k := c85 (d := d) (k0 := 1) h5 hc sl sv (E.L2 H H') A' H' hz' (by omega) (fun te' j' lv2 z2 I2 hR => by cases hR) (fun j I' hR hj hW h33 => ?_))
          cases hR
          refine w91_25 (fun _ => ?_) (fun hQ => absurd rfl hQ)
          refine w91_32 ?_
          refine w91_33 (by first | rfl | exact am_narrow_b _) ?_
          exact kb _ _ h6 hj hW h33
      · rcases pMap_some h1 with ⟨a, ia, la, h3, h4⟩ | ⟨ja, h3, h4⟩
        · cases h4
        · cases h4
          refine w91_14 (k := c73 (d := d + 12) (es := []) (x := 0) h3 hc (by decide) hi2 hl (E.F s1.F) A1 (H1 I1 s1) (show z ≤ i + 1 + m by omega) (by omega) (fun e' j lv' z' I' hR => by cases hR) (fun j I' hR hj hW h33 => ?_))
          cases hR
          refine w91_17 (fun _ => ?_) (fun hQ => absurd rfl hQ)
          refine w91_32 ?_
          refine w91_33 (by first | rfl | exact am_narrow_b _) ?_
          exact kb _ _ h2 hj hW h33
    · rw [if_neg (show ¬ T.1 i = 1 from q1)] at h
      refine w91_7 (fun _ => ?_) (fun w => absurd rfl w)
      refine w91_34 rfl ?_
      refine w91_35 ?_
      refine w91_38 (k := c72 (x := 301) (y := 2) E A (by decide) (fun q hi2 I1 s1 A1 => ?_) (fun q2 => ?_))
      · rw [if_pos (show T.1 i = 2 from q)] at h
        refine w91_41 (fun w => absurd w (by decide)) (fun _ => ?_)
        refine w91_44 rfl ?_
        refine w91_45 rfl ?_
        refine w91_46 ?_
        refine w91_47 ?_
        rcases pBind_some h with ⟨hv, j1, l1, h1, h2⟩ | ⟨j1, h1, h2⟩
        · obtain ⟨a, h3, rfl⟩ := pMap_ok h1
          have sl := p_sum_le h0 h3 hi2
          have sv := (p_sum_len h3).2.2 hl
          rw [hr] at h2
          refine w91_48 (k := c73 (d := d + 12) (es := []) (x := 1) h3 hc (by decide) hi2 hl (E.F s1.F) A1 (H1 I1 s1) (show z ≤ i + 1 + m by omega) (by omega) (fun e' j lv' z' I' hR H' A' hz' => ?_) (fun j I' hR => by cases hR))
          cases hR
          refine w91_51 (fun w => absurd w (by decide)) (fun _ => ?_)
          refine w91_54 rfl ?_
          refine w91_55 rfl ?_
          rcases pBind_some h2 with ⟨te, j3, l3, h5, h6⟩ | ⟨j3, h5, h6⟩
          · refine w91_56 (k := c85 (d := d) (k0 := 2) h5 hc sl sv (E.L2 H H') A' H' hz' (by omega) (fun te' j' lv2 z2 I2 hR hC A2 hz2 => ?_) (fun j I' hR => by cases hR))
            cases hR
            refine w91_59 (fun hQ => absurd hQ (by decide)) (fun _ => ?_)
            refine w91_62 ?_
            refine w91_63 ?_
            refine w91_67 (by first | rfl | exact am_narrow_b _) ?_
            exact kg _ _ _ z2 I2 (Option.some.inj h6).symm hC A2 (by omega)
          · refine w91_56 (k := c85 (d := d) (k0 := 2) h5 hc sl sv (E.L2 H H') A' H' hz' (by omega) (fun te' j' lv2 z2 I2 hR => by cases hR) (fun j I' hR hj hW h33 => ?_))
            cases hR
            refine w91_59 (fun _ => ?_) (fun hQ => absurd rfl hQ)
            refine w91_66 ?_
            refine w91_67 (by first | rfl | exact am_narrow_b _) ?_
            exact kb _ _ h6 hj hW h33
        · rcases pMap_some h1 with ⟨a, ia, la, h3, h4⟩ | ⟨ja, h3, h4⟩
          · cases h4
          · cases h4
            refine w91_48 (k := c73 (d := d + 12) (es := []) (x := 1) h3 hc (by decide) hi2 hl (E.F s1.F) A1 (H1 I1 s1) (show z ≤ i + 1 + m by omega) (by omega) (fun e' j lv' z' I' hR => by cases hR) (fun j I' hR hj hW h33 => ?_))
            cases hR
            refine w91_51 (fun _ => ?_) (fun hQ => absurd rfl hQ)
            refine w91_66 ?_
            refine w91_67 (by first | rfl | exact am_narrow_b _) ?_
            exact kb _ _ h2 hj hW h33
      · rw [if_neg (show ¬ T.1 i = 2 from q2)] at h
        refine w91_41 (fun _ => ?_) (fun w => absurd rfl w)
        refine w91_68 rfl ?_
        refine w91_69 ?_
        refine w91_72 (k := c72 (x := 302) (y := 3) E A (by decide) (fun q hi2 I1 s1 A1 => ?_) (fun q3 => ?_))
        · rw [if_pos (show T.1 i = 3 from q)] at h
          have h2 : p_rest T f (3, []) (i + 1) lv = some R := h
          rw [hr] at h2
          have H' : q_H c z I (am_u I1 102 c 2) z 2 [] 1 := q_H_k (H1 I1 s1)
          have A' : q_A C V pl (am_u I1 102 c 2) (i + 1) lv z := q_A_L A1 (am_u_ne (by decide)) (am_u_ne (by decide))
          refine w91_75 (fun hQ => absurd hQ (by decide)) (fun _ => ?_)
          refine w91_78 rfl ?_
          refine w91_79 (L.2 _ _ _ rfl) ?_
          refine w91_82 rfl ?_
          refine w91_83 ?_
          refine w91_84 (k := c75 L hc ?_)
          refine w91_87 rfl ?_
          refine w91_88 rfl ?_
          rcases pBind_some h2 with ⟨te, j3, l3, h5, h6⟩ | ⟨j3, h5, h6⟩
          · refine w91_89 (k := c85 (d := d) (k0 := 3) (m := m) h5 hc hi2 hl (E.L2 H H') A' H' (by omega) (by omega) (fun te' j' lv2 z2 I2 hR hC A2 hz2 => ?_) (fun j I' hR => by cases hR))
            cases hR
            refine w91_92 (by first | rfl | exact am_narrow_b _) ?_
            exact kg _ _ _ z2 I2 (Option.some.inj h6).symm hC A2 (by omega)
          · refine w91_89 (k := c85 (d := d) (k0 := 3) (m := m) h5 hc hi2 hl (E.L2 H H') A' H' (by omega) (by omega) (fun te' j' lv2 z2 I2 hR => by cases hR) (fun j I' hR hj hW h33 => ?_))
            cases hR
            refine w91_92 (by first | rfl | exact am_narrow_b _) ?_
            exact kb _ _ h6 hj hW h33
        · rw [if_neg (show ¬ T.1 i = 3 from q3)] at h
          refine w91_75 (fun _ => ?_) (fun w => absurd rfl w)
          refine w91_93 rfl ?_
          refine w91_94 (k := c74 L A.2.2.2.1 ?_)
          refine w91_97 (by first | rfl | exact am_narrow_b _) ?_
          exact kb i _ (Option.some.inj h).symm hi (q_F_3 (I := I)).W am_u_self
theorem c71t_20 (o : T.2.2 = true) {hd : Nat × List Ex} {R : (Cl × Nat × Nat) ⊕ Nat} (h : p_rest T f hd i lv = some R) (hc : c < 12) (hi : i ≤ N) (hl : lv ≤ 50) (E : q_E S I P T N C V pl) (A : q_A C V pl I i lv z) (H : q_H c z0 I0 I z (nI (k_kind hd.1)) hd.2 1) (hz : z ≤ i + m) (hm : m ≤ 70) (kg : q_kc S J P C V pl c z0 I0 (m + 1) R Q) (kb : q_kw S J P pl N I0 R Q) : ∀ lvv, am_ld1 lvv 0 = some (.ref 96) → am_ld1 lvv 1 = some (.int (nI c)) → am_wp pr (d + 43) 71 20 lvv [] (S, I, J, P) Q := by
  have tr := E.2.2.1
  have L := E.1
  intro lvv l0 l1
  have no : ∀ lvv I', am_ld1 lvv 0 = some (.ref 96) → Q (some (.int 0)) (S, I', J, P) → am_wp pr (d + 43) 71 40 lvv [] (S, I', J, P) Q := by
    intro lvv I' l0 k
    refine w71_40 ?_
    refine w71_41 (by first | rfl | exact am_narrow_b _) ?_
    exact k
  unfold p_rest at h
  rw [if_pos o] at h
  refine w71_20 l0 ?_
  refine w71_21 l1 ?_
  rcases pBind_some h with ⟨t, j2, l2, h1, h2⟩ | ⟨j2, h1, h2⟩
  · have tl := p_times_le tr.1 h1 hi
    refine w71_22 (k := c84 (d := d + 40) h1 hc hi E A H (fun t' j I' hR hij H' A' => ?_) (fun j I' hR => by cases hR))
    cases hR
    refine w71_25 (fun w => absurd w (by decide)) (fun _ => ?_)
    refine w71_28 l0 ?_
    refine w71_29 l1 ?_
    rcases pBind_some h2 with ⟨te, j3, l3, h3, h4⟩ | ⟨j3, h3, h4⟩
    · refine w71_30 (k := c85 (d := d) h3 hc tl.1 hl (E.L2 H H') A' H' (by omega) hm (fun te' j' lv' z' I2 hR hC A2 hz' => ?_) (fun j I' hR => by cases hR))
      cases hR
      refine w71_33 (fun hQ => absurd hQ (by decide)) (fun _ => ?_)
      refine w71_36 ?_
      refine w71_37 ?_
      refine w71_41 (by first | rfl | exact am_narrow_b _) ?_
      exact kg _ _ _ z' I2 (Option.some.inj h4).symm hC A2 (by omega)
    · refine w71_30 (k := c85 (d := d) h3 hc tl.1 hl (E.L2 H H') A' H' (by omega) hm (fun te' j' lv' z' I2 hR => by cases hR) (fun j I' hR hj hW h3' => ?_))
      cases hR
      exact w71_33 (fun _ => no _ _ l0 (kb _ _ h4 hj hW h3')) (fun w => absurd rfl w)
  · refine w71_22 (k := c84 (d := d + 40) h1 hc hi E A H (fun t' j I' hR => by cases hR) (fun j I' hR hj hW h3' => ?_))
    cases hR
    exact w71_25 (fun _ => no _ _ l0 (kb _ _ h2 hj hW h3')) (fun w => absurd rfl w)
theorem c71t_62 (o : T.2.2 = true) {hd : Nat × List Ex} {R : (Cl × Nat × Nat) ⊕ Nat} (h : p_rest T f hd i lv = some R) (hc : c < 12) (hi : i ≤ N) (hl : lv ≤ 50) (E : q_E S I P T N C V pl) (A : q_A C V pl I i lv z) (H : q_H c z0 I0 I z (nI (k_kind hd.1)) hd.2 1) (hz : z ≤ i + m) (hm : m ≤ 70) (kg : q_kc S J P C V pl c z0 I0 (m + 1) R Q) (kb : q_kw S J P pl N I0 R Q) : ∀ lvv, am_ld1 lvv 0 = some (.ref 96) → am_ld1 lvv 1 = some (.int (nI c)) → am_wp pr (d + 43) 71 62 lvv [] (S, I, J, P) Q := by
  have tr := E.2.2.1
  have L := E.1
  intro lvv l0 l1
  have no : ∀ lvv I', am_ld1 lvv 0 = some (.ref 96) → Q (some (.int 0)) (S, I', J, P) → am_wp pr (d + 43) 71 82 lvv [] (S, I', J, P) Q := by
    intro lvv I' l0 k
    refine w71_82 ?_
    refine w71_83 (by first | rfl | exact am_narrow_b _) ?_
    exact k
  unfold p_rest at h
  rw [if_pos o] at h
  refine w71_62 l0 ?_
  refine w71_63 l1 ?_
  rcases pBind_some h with ⟨t, j2, l2, h1, h2⟩ | ⟨j2, h1, h2⟩
  · have tl := p_times_le tr.1 h1 hi
    refine w71_64 (k := c84 (d := d + 40) h1 hc hi E A H (fun t' j I' hR hij H' A' => ?_) (fun j I' hR => by cases hR))
    cases hR
    refine w71_67 (fun w => absurd w (by decide)) (fun _ => ?_)
    refine w71_70 l0 ?_
    refine w71_71 l1 ?_
    rcases pBind_some h2 with ⟨te, j3, l3, h3, h4⟩ | ⟨j3, h3, h4⟩
    · refine w71_72 (k := c85 (d := d) h3 hc tl.1 hl (E.L2 H H') A' H' (by omega) hm (fun te' j' lv' z' I2 hR hC A2 hz' => ?_) (fun j I' hR => by cases hR))
      cases hR
      refine w71_75 (fun hQ => absurd hQ (by decide)) (fun _ => ?_)
      refine w71_78 ?_
      refine w71_79 ?_
      refine w71_83 (by first | rfl | exact am_narrow_b _) ?_
      exact kg _ _ _ z' I2 (Option.some.inj h4).symm hC A2 (by omega)
    · refine w71_72 (k := c85 (d := d) h3 hc tl.1 hl (E.L2 H H') A' H' (by omega) hm (fun te' j' lv' z' I2 hR => by cases hR) (fun j I' hR hj hW h3' => ?_))
      cases hR
      exact w71_75 (fun _ => no _ _ l0 (kb _ _ h4 hj hW h3')) (fun w => absurd rfl w)
  · refine w71_64 (k := c84 (d := d + 40) h1 hc hi E A H (fun t' j I' hR => by cases hR) (fun j I' hR hj hW h3' => ?_))
    cases hR
    exact w71_67 (fun _ => no _ _ l0 (kb _ _ h2 hj hW h3')) (fun w => absurd rfl w)
theorem c71t_158 (o : T.2.2 = true) {hd : Nat × List Ex} {R : (Cl × Nat × Nat) ⊕ Nat} (h : p_rest T f hd i lv = some R) (hc : c < 12) (hi : i ≤ N) (hl : lv ≤ 50) (E : q_E S I P T N C V pl) (A : q_A C V pl I i lv z) (H : q_H c z0 I0 I z (nI (k_kind hd.1)) hd.2 1) (hz : z ≤ i + m) (hm : m ≤ 70) (kg : q_kc S J P C V pl c z0 I0 (m + 1) R Q) (kb : q_kw S J P pl N I0 R Q) : ∀ lvv, am_ld1 lvv 0 = some (.ref 96) → am_ld1 lvv 1 = some (.int (nI c)) → am_wp pr (d + 43) 71 158 lvv [] (S, I, J, P) Q := by
  have tr := E.2.2.1
  have L := E.1
  intro lvv l0 l1
  have no : ∀ lvv I', am_ld1 lvv 0 = some (.ref 96) → Q (some (.int 0)) (S, I', J, P) → am_wp pr (d + 43) 71 178 lvv [] (S, I', J, P) Q := by
    intro lvv I' l0 k
    refine w71_178 ?_
    refine w71_179 (by first | rfl | exact am_narrow_b _) ?_
    exact k
  unfold p_rest at h
  rw [if_pos o] at h
  refine w71_158 l0 ?_
  refine w71_159 l1 ?_
  rcases pBind_some h with ⟨t, j2, l2, h1, h2⟩ | ⟨j2, h1, h2⟩
  · have tl := p_times_le tr.1 h1 hi
    refine w71_160 (k := c84 (d := d + 40) h1 hc hi E A H (fun t' j I' hR hij H' A' => ?_) (fun j I' hR => by cases hR))
    cases hR
    refine w71_163 (fun w => absurd w (by decide)) (fun _ => ?_)
    refine w71_166 l0 ?_
    refine w71_167 l1 ?_
    rcases pBind_some h2 with ⟨te, j3, l3, h3, h4⟩ | ⟨j3, h3, h4⟩
    · refine w71_168 (k := c85 (d := d) h3 hc tl.1 hl (E.L2 H H') A' H' (by omega) hm (fun te' j' lv' z' I2 hR hC A2 hz' => ?_) (fun j I' hR => by cases hR))
      cases hR
      refine w71_171 (fun hQ => absurd hQ (by decide)) (fun _ => ?_)
      refine w71_174 ?_
      refine w71_175 ?_
      refine w71_179 (by first | rfl | exact am_narrow_b _) ?_
      exact kg _ _ _ z' I2 (Option.some.inj h4).symm hC A2 (by omega)
    · refine w71_168 (k := c85 (d := d) h3 hc tl.1 hl (E.L2 H H') A' H' (by omega) hm (fun te' j' lv' z' I2 hR => by cases hR) (fun j I' hR hj hW h3' => ?_))
      cases hR
      exact w71_171 (fun _ => no _ _ l0 (kb _ _ h4 hj hW h3')) (fun w => absurd rfl w)
  · refine w71_160 (k := c84 (d := d + 40) h1 hc hi E A H (fun t' j I' hR => by cases hR) (fun j I' hR hj hW h3' => ?_))
    cases hR
    exact w71_163 (fun _ => no _ _ l0 (kb _ _ h2 hj hW h3')) (fun w => absurd rfl w)
theorem c71t_199 (o : T.2.2 = true) {hd : Nat × List Ex} {R : (Cl × Nat × Nat) ⊕ Nat} (h : p_rest T f hd i lv = some R) (hc : c < 12) (hi : i ≤ N) (hl : lv ≤ 50) (E : q_E S I P T N C V pl) (A : q_A C V pl I i lv z) (H : q_H c z0 I0 I z (nI (k_kind hd.1)) hd.2 1) (hz : z ≤ i + m) (hm : m ≤ 70) (kg : q_kc S J P C V pl c z0 I0 (m + 1) R Q) (kb : q_kw S J P pl N I0 R Q) : ∀ lvv, am_ld1 lvv 0 = some (.ref 96) → am_ld1 lvv 1 = some (.int (nI c)) → am_wp pr (d + 43) 71 199 lvv [] (S, I, J, P) Q := by
  have tr := E.2.2.1
  have L := E.1
  intro lvv l0 l1
  have no : ∀ lvv I', am_ld1 lvv 0 = some (.ref 96) → Q (some (.int 0)) (S, I', J, P) → am_wp pr (d + 43) 71 219 lvv [] (S, I', J, P) Q := by
    intro lvv I' l0 k
    refine w71_219 ?_
    refine w71_220 (by first | rfl | exact am_narrow_b _) ?_
    exact k
  unfold p_rest at h
  rw [if_pos o] at h
  refine w71_199 l0 ?_
  refine w71_200 l1 ?_
  rcases pBind_some h with ⟨t, j2, l2, h1, h2⟩ | ⟨j2, h1, h2⟩
  · have tl := p_times_le tr.1 h1 hi
    refine w71_201 (k := c84 (d := d + 40) h1 hc hi E A H (fun t' j I' hR hij H' A' => ?_) (fun j I' hR => by cases hR))
    cases hR
    refine w71_204 (fun w => absurd w (by decide)) (fun _ => ?_)
    refine w71_207 l0 ?_
    refine w71_208 l1 ?_
    rcases pBind_some h2 with ⟨te, j3, l3, h3, h4⟩ | ⟨j3, h3, h4⟩
    · refine w71_209 (k := c85 (d := d) h3 hc tl.1 hl (E.L2 H H') A' H' (by omega) hm (fun te' j' lv' z' I2 hR hC A2 hz' => ?_) (fun j I' hR => by cases hR))
      cases hR
      refine w71_212 (fun hQ => absurd hQ (by decide)) (fun _ => ?_)
      refine w71_215 ?_
      refine w71_216 ?_
      refine w71_220 (by first | rfl | exact am_narrow_b _) ?_
      exact kg _ _ _ z' I2 (Option.some.inj h4).symm hC A2 (by omega)
    · refine w71_209 (k := c85 (d := d) h3 hc tl.1 hl (E.L2 H H') A' H' (by omega) hm (fun te' j' lv' z' I2 hR => by cases hR) (fun j I' hR hj hW h3' => ?_))
      cases hR
      exact w71_212 (fun _ => no _ _ l0 (kb _ _ h4 hj hW h3')) (fun w => absurd rfl w)
  · refine w71_201 (k := c84 (d := d + 40) h1 hc hi E A H (fun t' j I' hR => by cases hR) (fun j I' hR hj hW h3' => ?_))
    cases hR
    exact w71_204 (fun _ => no _ _ l0 (kb _ _ h2 hj hW h3')) (fun w => absurd rfl w)
/-- readOrder -/
theorem c71 (o : T.2.2 = true) {R : (Cl × Nat × Nat) ⊕ Nat} (h : p_cl T f i lv = some R) (hc : c < 12) (hi : i ≤ N) (hl : lv ≤ 50) (E : q_E S I P T N C V pl) (A : q_A C V pl I i lv z) (H : q_H c z I I z kd [] 1) (hz : z ≤ i + m) (hm : m ≤ 60) (kg : q_kc S J P C V pl c z I (m + 4) R Q) (kb : q_kw S J P pl N I R Q) : am_ev pr (d + 43) 71 [.ref 96, .int (nI c)] (S, I, J, P) Q := by
  have L := E.1
  have h0 := E.2.2.1.1
  have H1 : ∀ I1, q_S I I1 → q_H c z I I1 z kd [] 1 := fun I1 s => q_H_S H s
  show am_wp pr (d + 43) 71 0 [(0, .ref 96), (1, .int (nI c))] [] _ _
  rw [p_cl_eq] at h
  unfold p_head at h
  rw [if_pos o] at h
  refine w71_0 rfl ?_
  refine w71_1 ?_
  · refine w71_4 (k := c72 (x := 303) (y := 21) E A (by decide) (fun q hi2 I1 s1 A1 => ?_) (fun q1 => ?_))
    · rw [if_neg (by rw [show T.1 i = nI 21 from q]; decide), if_pos (show T.1 i = 21 from q)] at h
      refine w71_7 (fun w => absurd w (by decide)) (fun _ => ?_)
      refine w71_10 rfl ?_
      refine w71_11 rfl ?_
      refine w71_12 ?_
      refine w71_13 ?_
      rcases pBind_some h with ⟨hv, j1, l1, h1, h2⟩ | ⟨j1, h1, h2⟩
      · obtain ⟨a, h3, rfl⟩ := pMap_ok h1
        have sl := p_sum_le h0 h3 hi2
        have sv := (p_sum_len h3).2.2 hl
        refine w71_14 (k := c73 (d := d + 12) (es := []) (x := 0) h3 hc (by decide) hi2 hl (E.F s1.F) A1 (H1 I1 s1) (show z ≤ i + 1 + m by omega) (by omega) (fun e' j lv' z' I' hR H' A' hz' => ?_) (fun j I' hR => by cases hR))
        cases hR
        refine w71_17 (fun w => absurd w (by decide)) (fun _ => ?_)
        exact c71t_20 (hd := (21, [a])) o h2 hc sl sv (E.L2 H H') A' H' hz' (by omega) (kg.mo (by omega)) kb _ rfl rfl
      · rcases pMap_some h1 with ⟨a, ia, la, h3, h4⟩ | ⟨ja, h3, h4⟩
        · cases h4
        · cases h4
          refine w71_14 (k := c73 (d := d + 12) (es := []) (x := 0) h3 hc (by decide) hi2 hl (E.F s1.F) A1 (H1 I1 s1) (show z ≤ i + 1 + m by omega) (by omega) (fun e' j lv' z' I' hR => by cases hR) (fun j I' hR hj hW h33 => ?_))
          cases hR
          refine w71_17 (fun _ => ?_) (fun w => absurd rfl w)
          refine w71_40 ?_
          refine w71_41 (by first | rfl | exact am_narrow_b _) ?_
          exact kb _ _ h2 hj hW h33
    · refine w71_7 (fun _ => ?_) (fun w => absurd rfl w)
      refine w71_42 rfl ?_
      refine w71_43 ?_
      refine w71_46 (k := c72 (x := 304) (y := 22) E A (by decide) (fun q hi2 I1 s1 A1 => ?_) (fun q2 => ?_))
      · rw [if_neg (by rw [show T.1 i = nI 22 from q]; decide), if_neg (show ¬ T.1 i = 21 from q1), if_pos (show T.1 i = 22 from q)] at h
        refine w71_49 (fun w => absurd w (by decide)) (fun _ => ?_)
        refine w71_52 rfl ?_
        refine w71_53 rfl ?_
        refine w71_54 ?_
        refine w71_55 ?_
        rcases pBind_some h with ⟨hv, j1, l1, h1, h2⟩ | ⟨j1, h1, h2⟩
        · obtain ⟨a, h3, rfl⟩ := pMap_ok h1
          have sl := p_sum_le h0 h3 hi2
          have sv := (p_sum_len h3).2.2 hl
          refine w71_56 (k := c73 (d := d + 12) (es := []) (x := 1) h3 hc (by decide) hi2 hl (E.F s1.F) A1 (H1 I1 s1) (show z ≤ i + 1 + m by omega) (by omega) (fun e' j lv' z' I' hR H' A' hz' => ?_) (fun j I' hR => by cases hR))
          cases hR
          refine w71_59 (fun w => absurd w (by decide)) (fun _ => ?_)
          exact c71t_62 (hd := (22, [a])) o h2 hc sl sv (E.L2 H H') A' H' hz' (by omega) (kg.mo (by omega)) kb _ rfl rfl
        · rcases pMap_some h1 with ⟨a, ia, la, h3, h4⟩ | ⟨ja, h3, h4⟩
          · cases h4
          · cases h4
            refine w71_56 (k := c73 (d := d + 12) (es := []) (x := 1) h3 hc (by decide) hi2 hl (E.F s1.F) A1 (H1 I1 s1) (show z ≤ i + 1 + m by omega) (by omega) (fun e' j lv' z' I' hR => by cases hR) (fun j I' hR hj hW h33 => ?_))
            cases hR
            refine w71_59 (fun _ => ?_) (fun w => absurd rfl w)
            refine w71_82 ?_
            refine w71_83 (by first | rfl | exact am_narrow_b _) ?_
            exact kb _ _ h2 hj hW h33
      · refine w71_49 (fun _ => ?_) (fun w => absurd rfl w)
        refine w71_84 rfl ?_
        refine w71_85 ?_
        refine w71_88 (k := c72 (x := 305) (y := 23) E A (by decide) (fun q hi2 I1 s1 A1 => ?_) (fun q3 => ?_))
        · rw [if_pos (show T.1 i = 23 from q), pBind_as] at h
          refine w71_91 (fun w => absurd w (by decide)) (fun _ => ?_)
          have no : ∀ I', Q (some (.int 0)) (S, I', J, P) → ∀ lvv, am_wp pr (d + 43) 71 178 lvv [] (S, I', J, P) Q := by
            intro I' k lvv
            exact w71_178 (w71_179 rfl k)
          refine w71_94 rfl ?_
          refine w71_95 rfl ?_
          refine w71_96 ?_
          refine w71_97 ?_
          rcases pBind_some h with ⟨a, j1, l1, h1, h2⟩ | ⟨j1, h1, h2⟩
          · have sl1 := p_sum_le h0 h1 hi2
            have sv1 := (p_sum_len h1).2.2 hl
            refine w71_98 (k := c73 (d := d + 12) (es := []) (x := 2) h1 hc (by decide) hi2 hl (E.F s1.F) A1 (H1 I1 s1) (show z ≤ i + 1 + m by omega) (by omega) (fun e' j lv' z' I2 hR H2 A2 hz2 => ?_) (fun j I' hR => by cases hR))
            cases hR
            have E2 := E.L2 H H2
            rw [pBind_as] at h2
            refine w71_101 (fun w => absurd w (by decide)) (fun _ => ?_)
            refine w71_104 rfl ?_
            refine w71_105 ?_
            unfold p_more at h2
            refine w71_108 (k := c72 (x := 307) (y := 24) E2 A2 (by decide) (fun y hi3 I3 s3 A3 => ?_) (fun y => ?_))
            · rw [if_pos (show T.1 j1 = 24 from y)] at h2
              refine w71_111 (fun _ => ?_) (fun w => absurd (by decide) w)
              refine w71_121 rfl ?_
              refine w71_122 rfl ?_
              refine w71_123 ?_
              refine w71_124 ?_
              rcases pBind_some h2 with ⟨b, j2, l2, h3, h4⟩ | ⟨j2, h3, h4⟩
              · have sl2 := p_sum_le h0 h3 hi3
                have sv2 := (p_sum_len h3).2.2 sv1
                refine w71_125 (k := c73 (d := d + 12) (es := [a]) (x := 2) (m := m + 1) h3 hc (by show 1 < 3; omega) hi3 sv1 (E2.F s3.F) A3 (q_H_S H2 s3) (by omega) (by omega) (fun e' j lv' z' I4 hR H4 A4 hz4 => ?_) (fun j I' hR => by cases hR))
                cases hR
                have E4 := E.L2 H H4
                rw [pBind_as] at h4
                refine w71_128 (fun w => absurd w (by decide)) (fun _ => ?_)
                refine w71_131 rfl ?_
                refine w71_132 ?_
                refine w71_135 (k := c72 (x := 308) (y := 25) E4 A4 (by decide) (fun y2 hi5 I5 s5 A5 => ?_) (fun y2 => ?_))
                · rw [if_pos (show T.1 j2 = 25 from y2)] at h4
                  refine w71_138 (fun _ => ?_) (fun w => absurd (by decide) w)
                  refine w71_148 rfl ?_
                  refine w71_149 rfl ?_
                  refine w71_150 ?_
                  refine w71_151 ?_
                  rcases pBind_some h4 with ⟨cc, j3, l3, h5, h6⟩ | ⟨j3, h5, h6⟩
                  · have sl3 := p_sum_le h0 h5 hi5
                    have sv3 := (p_sum_len h5).2.2 sv2
                    refine w71_152 (k := c73 (d := d + 12) (es := [a, b]) (x := 2) (m := m + 2) h5 hc (by show 2 < 3; omega) hi5 sv2 (E4.F s5.F) A5 (q_H_S H4 s5) (by omega) (by omega) (fun e' j lv' z' I6 hR H6 A6 hz6 => ?_) (fun j I' hR => by cases hR))
                    cases hR
                    refine w71_155 (fun w => absurd w (by decide)) (fun _ => ?_)
                    exact c71t_158 (hd := (23, [a, b, cc])) (m := m + 3) o h6 hc sl3 sv3 (E.L2 H H6) A6 H6 hz6 (by omega) kg kb _ rfl rfl
                  · refine w71_152 (k := c73 (d := d + 12) (es := [a, b]) (x := 2) (m := m + 2) h5 hc (by show 2 < 3; omega) hi5 sv2 (E4.F s5.F) A5 (q_H_S H4 s5) (by omega) (by omega) (fun e' j lv' z' I6 hR => by cases hR) (fun j I' hR hj hW h33 => ?_))
                    cases hR
                    exact w71_155 (fun _ => no _ (kb _ _ h6 hj hW h33) _) (fun w => absurd rfl w)
                · rw [if_neg (show ¬ T.1 j2 = 25 from y2)] at h4
                  refine w71_138 (fun w => absurd rfl w) (fun _ => ?_)
                  refine w71_141 rfl ?_
                  refine w71_142 (k := c74 L A4.2.2.2.1 ?_)
                  exact w71_145 (fun _ => no _ (kb _ _ (Option.some.inj h4).symm sl2 (H4.1.W.tr q_F_3.W) am_u_self) _) (fun w => absurd rfl w)
              · refine w71_125 (k := c73 (d := d + 12) (es := [a]) (x := 2) (m := m + 1) h3 hc (by show 1 < 3; omega) hi3 sv1 (E2.F s3.F) A3 (q_H_S H2 s3) (by omega) (by omega) (fun e' j lv' z' I4 hR => by cases hR) (fun j I' hR hj hW h33 => ?_))
                cases hR
                exact w71_128 (fun _ => no _ (kb _ _ h4 hj hW h33) _) (fun w => absurd rfl w)
            · rw [if_neg (show ¬ T.1 j1 = 24 from y)] at h2
              refine w71_111 (fun w => absurd rfl w) (fun _ => ?_)
              refine w71_114 rfl ?_
              refine w71_115 (k := c74 L A2.2.2.2.1 ?_)
              exact w71_118 (fun _ => no _ (kb _ _ (Option.some.inj h2).symm sl1 (H2.1.W.tr q_F_3.W) am_u_self) _) (fun w => absurd rfl w)
          · refine w71_98 (k := c73 (d := d + 12) (es := []) (x := 2) h1 hc (by decide) hi2 hl (E.F s1.F) A1 (H1 I1 s1) (show z ≤ i + 1 + m by omega) (by omega) (fun e' j lv' z' I2 hR => by cases hR) (fun j I' hR hj hW h33 => ?_))
            cases hR
            exact w71_101 (fun _ => no _ (kb _ _ h2 hj hW h33) _) (fun w => absurd rfl w)
        · rw [if_neg (show ¬ T.1 i = 23 from q3), if_neg (show ¬ T.1 i = 21 from q1), if_neg (show ¬ T.1 i = 22 from q2)] at h
          refine w71_91 (fun _ => ?_) (fun w => absurd rfl w)
          refine w71_180 rfl ?_
          refine w71_181 ?_
          refine w71_184 (k := c72 (x := 306) (y := 26) E A (by decide) (fun q hi2 I1 s1 A1 => ?_) (fun q4 => ?_))
          · rw [if_pos (show T.1 i = 26 from q)] at h
            have h2 : p_rest T f (26, []) (i + 1) lv = some R := h
            have H' : q_H c z I (am_u I1 102 c 3) z 3 [] 1 := q_H_k (H1 I1 s1)
            have A' : q_A C V pl (am_u I1 102 c 3) (i + 1) lv z := q_A_L A1 (am_u_ne (by decide)) (am_u_ne (by decide))
            refine w71_187 (fun hQ => absurd hQ (by decide)) (fun _ => ?_)
            refine w71_190 rfl ?_
            refine w71_191 (L.2 _ _ _ rfl) ?_
            refine w71_194 rfl ?_
            refine w71_195 ?_
            refine w71_196 (k := c75 L hc ?_)
            exact c71t_199 (hd := (26, [])) (m := m) o h2 hc hi2 hl (E.L2 H H') A' H' (by omega) (by omega) (kg.mo (by omega)) kb _ rfl rfl
          · rw [if_neg (show ¬ T.1 i = 26 from q4)] at h
            refine w71_187 (fun _ => ?_) (fun w => absurd rfl w)
            refine w71_221 rfl ?_
            refine w71_222 (k := c74 L A.2.2.2.1 ?_)
            refine w71_225 (by first | rfl | exact am_narrow_b _) ?_
            exact kb i _ (Option.some.inj h).symm hi (q_F_3 (I := I)).W am_u_self
end
