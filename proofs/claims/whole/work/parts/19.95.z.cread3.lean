/-! the class reads: tests -/
section
variable {pr : am_Pr} {S : List (Nat × Nat)} {I : Nat → Nat → Int32} {J : Nat → Nat → Int64} {P : Nat → Nat → Option Nat} {Q : Option Value → am_H → Prop} {T : Tk} {N i lv z d : Nat} {C V : Nat → Int32} {pl : Nat → Nat}
def q_kt (S : List (Nat × Nat)) (J : Nat → Nat → Int64) (P : Nat → Nat → Option Nat) (C V : Nat → Int32) (pl : Nat → Nat) (I : Nat → Nat → Int32) (z : Nat) (R : (Te × Nat × Nat) ⊕ Nat) (Q : Option Value → am_H → Prop) : Prop := ∀ e' j lv' I', R = .inl (e', j, lv') → q_K I I' z → q_A C V pl I' j lv' (z + (e'.2 z).length) → k_at (I' 106) (I' 107) z (e'.2 z) → k_DT (I' 101 2) e' → Q (some (.int 1)) (S, I', J, P)
theorem q_kt.tr {I1 : Nat → Nat → Int32} {R : (Te × Nat × Nat) ⊕ Nat} (kg : q_kt S J P C V pl I z R Q) (h : q_K I I1 z) : q_kt S J P C V pl I1 z R Q := fun e' j lv' I' hR hK hA hk hD => kg e' j lv' I' hR (h.tr hK (Nat.le_refl z)) hA hk hD
theorem c87x (k : Q (some (.int 0)) (S, I, J, P)) : ∀ lvv r, am_ld1 lvv 2 = some (.int 0) → am_ld1 lvv 3 = some (.int r) → am_wp pr d 87 8 lvv [] (S, I, J, P) Q := by
  intro lvv r l2 l3
  have fin : am_wp pr d 87 62 lvv [] (S, I, J, P) Q := w87_62 l2 (w87_63 rfl k)
  refine w87_8 l3 ?_
  refine w87_9 ?_
  refine w87_12 (fun _ => fin) (fun _ => ?_)
  refine w87_15 l2 ?_
  exact w87_16 (fun _ => fin) (fun q => absurd rfl q)
theorem c86x (k : Q (some (.int 0)) (S, I, J, P)) : ∀ lvv r, am_ld1 lvv 2 = some (.int 0) → am_ld1 lvv 3 = some (.int r) → am_wp pr d 86 8 lvv [] (S, I, J, P) Q := by
  intro lvv r l2 l3
  have fin : am_wp pr d 86 62 lvv [] (S, I, J, P) Q := w86_62 l2 (w86_63 rfl k)
  refine w86_8 l3 ?_
  refine w86_9 ?_
  refine w86_12 (fun _ => fin) (fun _ => ?_)
  refine w86_15 l2 ?_
  exact w86_16 (fun _ => fin) (fun q => absurd rfl q)
/-- rows of "not" -/
theorem c88n (E : q_E S I P T N C V pl) {x : Int32} {D : Nat} : ∀ (f : Nat) (b : Bool) (i : Nat) (b' : Bool) (j : Nat) (I1 : Nat → Nat → Int32) (r : Nat), p_nots T f b i = some (b', j) → r ≤ i → i ≤ N → q_S I I1 → q_A C V pl I1 i lv z → (∀ I2, q_S I I2 → q_A C V pl I2 j lv z → ∀ lvv, am_ld1 lvv 0 = some (.ref 96) → am_ld1 lvv 1 = some (.int x) → am_ld1 lvv 2 = some (.int (if b' = true then 1 else 0)) → am_wp pr (D + 2) 88 37 lvv [] (S, I2, J, P) Q) → ∀ lvv, am_ld1 lvv 0 = some (.ref 96) → am_ld1 lvv 1 = some (.int x) → am_ld1 lvv 2 = some (.int (if b = true then 1 else 0)) → am_ld1 lvv 3 = some (.int (nI r)) → am_wp pr (D + 2) 88 4 lvv [] (S, I1, J, P) Q
  | 0, _, _, _, _, _, _, h, _, _, _, _, _ => by cases h
  | f + 1, b, i, b', j, I1, r, h, hr, hi, s1, A1, k => by
    intro lvv l0 l1 l2 l3
    have L := E.1
    have hN4 := E.2.1
    have h0 := E.2.2.1.1
    have E1 := E.F s1.F
    unfold p_nots at h
    by_cases hr4 : r < 400
    · refine w88_4 l3 ?_
      refine w88_5 ?_
      refine w88_8 (fun hQ => absurd hQ (am_nlt (n := 400) hr4 (by decide))) (fun _ => ?_)
      refine w88_11 l0 ?_
      refine w88_12 ?_
      refine w88_15 (k := c72 (x := 313) (y := 7) E1 A1 (by decide) (fun q hi2 I2 s2 A2 => ?_) (fun q => ?_))
      · rw [if_pos (show T.1 i = 7 from q)] at h
        have s12 : q_S I I2 := ⟨fun a ha => (s2.1 a ha).trans (s1.1 a ha), s2.2.1.trans s1.2.1, s2.2.2.trans s1.2.2⟩
        refine w88_18 (fun w => absurd w (by decide)) (fun _ => ?_)
        cases b with
        | true =>
          refine w88_21 l2 ?_
          refine w88_22 (fun _ => ?_) (fun hQ => absurd (by decide) hQ)
          refine w88_29 ?_
          refine w88_30 ?_
          refine w88_31 l3 ?_
          refine w88_34 ?_
          exact c88n E f _ _ _ _ _ (r + 1) h (by omega) hi2 s12 A2 k _ l0 l1 rfl (am_nx r)
        | false =>
          refine w88_21 l2 ?_
          refine w88_22 (fun hQ => absurd hQ (fun q => q rfl)) (fun _ => ?_)
          refine w88_25 ?_
          refine w88_26 ?_
          refine w88_30 ?_
          refine w88_31 l3 ?_
          refine w88_34 ?_
          exact c88n E f _ _ _ _ _ (r + 1) h (by omega) hi2 s12 A2 k _ l0 l1 rfl (am_nx r)
      · rw [if_neg (show ¬ T.1 i = 7 from q)] at h
        cases h
        exact w88_18 (fun _ => k I1 s1 A1 _ l0 l1 l2) (fun w => absurd rfl w)
    · have e : i = N := by omega
      rw [if_neg (show ¬ T.1 i = 7 from by rw [h0 i (by omega)]; decide)] at h
      cases h
      refine w88_4 l3 ?_
      refine w88_5 ?_
      exact w88_8 (fun _ => k I1 s1 A1 _ l0 l1 l2) (fun w => absurd (nI_le (a := 400) (by omega) (by omega)) w)
/-- the end of a plain test -/
theorem c88e (L : am_Lay S P) {I1 : Nat → Nat → Int32} {t : Te} {b : Bool} {j lv' : Nat} {R : (Te × Nat × Nat) ⊕ Nat} (hR : R = .inl (if b then y_neg t else t, j, lv')) (hz : z + (t.2 z).length < 480) (K1 : q_K I I1 z) (A1 : q_A C V pl I1 j lv' (z + (t.2 z).length)) (hk : k_at (I1 106) (I1 107) z (t.2 z)) (hD : k_DT (I1 101 2) t) (kg : q_kt S J P C V pl I z R Q) : ∀ lvv, am_ld1 lvv 0 = some (.ref 96) → am_ld1 lvv 2 = some (.int (if b = true then 1 else 0)) → am_wp pr (d + 1) 88 140 lvv [] (S, I1, J, P) Q := by
  intro lvv l0 l2
  cases b with
  | true =>
    refine w88_140 l2 ?_
    refine w88_141 (fun hQ => absurd hQ (by decide)) (fun _ => ?_)
    refine w88_144 l0 ?_
    refine w88_145 (L.2 _ _ _ rfl) ?_
    refine w88_148 ?_
    refine w88_150 ?_
    refine w88_151 (k := c83 L A1.2.2.2.2.2 hz ?_)
    refine w88_154 rfl ?_
    refine w88_155 ?_
    refine w88_156 (by first | rfl | exact am_narrow_b _) ?_
    refine kg (y_neg t) j lv' _ hR (K1.tr (tx_K (by omega)) (Nat.le_refl z)) ?_ ?_ ?_
    · rw [y_neg_len, ← Nat.add_assoc]
      exact tx_A A1
    · exact tx_at hk rfl
    · have e : tx_ad I1 (z + (t.2 z).length) 11 0 101 2 = I1 101 2 := by
        unfold tx_ad
        rw [am_u_at (by decide), am_u_ne (by decide), am_u_ne (by decide)]
      show k_DT (tx_ad I1 (z + (t.2 z).length) 11 0 101 2) _
      rw [e]
      exact k_DT_neg hD
  | false =>
    refine w88_140 l2 ?_
    refine w88_141 (fun _ => ?_) (fun hQ => absurd rfl hQ)
    refine w88_155 ?_
    refine w88_156 (by first | rfl | exact am_narrow_b _) ?_
    exact kg t j lv' I1 hR K1 A1 hk hD
/-- two sums with a sign between them -/
theorem c88c {f dp : Nat} {b : Bool} {x : PR Te} {R : (Te × Nat × Nat) ⊕ Nat} (hx : x = p_cmp T f dp i lv) (h : p_turn b x = some R) (hdp : dp ≤ 8) (hi : i ≤ N) (hl : lv ≤ 50) (E : q_E S I P T N C V pl) {I1 : Nat → Nat → Int32} (K1 : q_K I I1 z) (A : q_A C V pl I1 i lv z) (hz : z + (N - i) ≤ 479) (kg : q_kt S J P C V pl I z R Q) (kb : q_kb S J P pl N I R Q) : ∀ lvv, am_ld1 lvv 0 = some (.ref 96) → am_ld1 lvv 1 = some (.int (nI dp)) → am_ld1 lvv 2 = some (.int (if b = true then 1 else 0)) → am_wp pr (d + 3 * (8 - dp) + 6) 88 56 lvv [] (S, I1, J, P) Q := by
  have L := E.1
  have tr := E.2.2.1
  have h0 := tr.1
  have E1 := E.F K1.1
  intro lvv l0 l1 l2
  refine w88_56 l0 ?_
  refine w88_57 l1 ?_
  have hcmp : ∀ R2, p_cmp T f dp i lv = some R2 → R = (match R2 with | .inl (t, j, l) => .inl (if b then y_neg t else t, j, l) | .inr j => .inr j) := by
    intro R2 h2
    rw [hx, h2] at h
    match R2, h with
    | .inl (t, j, l), h => exact (Option.some.inj h).symm
    | .inr j, h => exact (Option.some.inj h).symm
  have hne : p_cmp T f dp i lv ≠ none := fun q => by rw [hx, q] at h; cases h
  obtain ⟨R2, h2⟩ := Option.ne_none_iff_exists'.mp hne
  have hR := hcmp R2 h2
  unfold p_cmp at h2
  rcases pBind_some h2 with ⟨a, j1, l1', h1, h3⟩ | ⟨j1, h1, h3⟩
  · have hlen := p_sum_len h1
    refine w88_58 (k := c76 h1 hdp hi hl E1 A hz (fun e' j lv' I2 hR2 K2 A2 hk hD => ?_) (fun j I2 hR2 => by cases hR2))
    first | obtain ⟨rfl, rfl, rfl⟩ := s_inl3 hR2 | obtain rfl := s_inr hR2 | cases hR2
    have hj := p_sum_le h0 h1 hi
    have E2 := E1.F K2.1
    have K12 := K1.tr K2 (Nat.le_refl z)
    have k109 : ∀ (op : Nat) (I3 : Nat → Nat → Int32) (c : Int32), p_opc (T.1 j) = some op → c = nI (8 + op) → op < 3 → j < N → q_S I2 I3 → q_A C V pl I3 (j + 1) lv' (z + e'.2.length) → ∀ lvv, am_ld1 lvv 0 = some (.ref 96) → am_ld1 lvv 1 = some (.int (nI dp)) → am_ld1 lvv 2 = some (.int (if b = true then 1 else 0)) → am_wp pr (d + 3 * (8 - dp) + 6) 88 109 lvv [.int c] (S, I3, J, P) Q := by
      intro op I3 c hop hc hop3 hj2 s3 A3 lvv l0 l1 l2
      rw [hop] at h3
      rw [hc]
      have E3 := E2.F s3.F
      refine w88_109 ?_
      refine w88_110 rfl ?_
      refine w88_111 ?_
      refine w88_112 (fun _ => ?_) (fun hQ => absurd (nI_nm1 (by omega)) hQ)
      refine w88_120 l0 ?_
      refine w88_121 l1 ?_
      rcases pBind_some h3 with ⟨b2, j2, l2', h4, h5⟩ | ⟨j2, h4, h5⟩
      · have hlen4 := p_sum_len h4
        refine w88_122 (k := c76 h4 hdp hj2 (hlen.2.2 hl) E3 A3 (by omega) (fun e2 jj lw I4 hR4 K4 A4 hk4 hD4 => ?_) (fun j I2 hR2 => by cases hR2))
        first | obtain ⟨rfl, rfl, rfl⟩ := s_inl3 hR4 | obtain rfl := s_inr hR4 | cases hR4
        have hjjN := p_sum_le h0 h4 hj2
        have hlen4 := p_sum_len h4
        have hR5 := (Option.some.inj h5).symm
        subst hR5
        have K34 : q_K I2 I4 (z + e'.2.length) := (s3.K).tr K4 (Nat.le_refl _)
        have hka := k_at_ap (k_at_K hk K34 (Nat.le_refl _)) hk4
        have K14 : q_K I I4 z := K12.tr (q_K_0.tr K34 (by omega)) (Nat.le_refl z)
        refine w88_125 (fun _ => ?_) (fun hQ => absurd (by decide) hQ)
        refine w88_130 l0 ?_
        refine w88_131 (L.2 _ _ _ rfl) ?_
        refine w88_134 rfl ?_
        refine w88_135 ?_
        refine w88_136 (k := c83 L A4.2.2.2.2.2 (by omega) ?_)
        refine w88_139 rfl ?_
        have hl5 : ((y_cmp op e' e2).2 z).length = e'.2.length + e2.2.length + 1 := by
          show (e'.2 ++ e2.2 ++ [(8 + op, (0 : Int32))]).length = _
          rw [List.length_append, List.length_append]
          rfl
        refine c88e (t := y_cmp op e' e2) (d := d + 3 * (8 - dp) + 5) L hR (by omega) (K14.tr (tx_K (x := nI (8 + op)) (y := 0) (show z ≤ z + e'.2.length + e2.2.length by omega)) (Nat.le_refl z)) ?_ ?_ ?_ kg _ l0 l2
        · rw [hl5, show z + (e'.2.length + e2.2.length + 1) = z + e'.2.length + e2.2.length + 1 by omega]
          exact tx_A A4
        · exact tx_at (l := e'.2 ++ e2.2) hka (by rw [List.length_append]; omega)
        · have e : tx_ad I4 (z + e'.2.length + e2.2.length) (nI (8 + op)) 0 101 2 = I4 101 2 := by
            unfold tx_ad
            rw [am_u_at (by decide), am_u_ne (by decide), am_u_ne (by decide)]
          rw [e]
          exact k_DT_cmp (k_DX_mo K34.2.1 hD) hD4
      · refine w88_122 (k := c76 h4 hdp hj2 (hlen.2.2 hl) E3 A3 (by omega) (fun e2 jj lw I4 hR4 => by cases hR4) (fun jj I4 hR4 hj4 hF4 h34 => ?_))
        first | obtain ⟨rfl, rfl, rfl⟩ := s_inl3 hR4 | obtain rfl := s_inr hR4 | cases hR4
        have hR5 := h5
        subst hR5
        refine w88_125 (fun hQ => absurd hQ (fun q => q rfl)) (fun _ => ?_)
        refine w88_128 ?_
        refine w88_129 (by first | rfl | exact am_narrow_b _) ?_
        exact kb jj I4 hR hj4 ((K12.1.tr s3.F).tr hF4) h34
    refine w88_61 (fun _ => ?_) (fun hQ => absurd (by decide) hQ)
    refine w88_66 l0 ?_
    refine w88_67 ?_
    refine w88_69 (k := c72 (x := 60) (y := 160) E2 A2 (by decide) (fun q hi2 I3 s3 A3 => ?_) (fun q1 => ?_))
    · refine w88_72 (fun w => absurd w (by decide)) (fun _ => ?_)
      refine w88_75 ?_
      refine w88_77 ?_
      exact k109 0 I3 _ (by unfold p_opc; rw [if_pos (show T.1 j = (160 : Int32) from q)]) rfl (by decide) hi2 s3 A3 _ l0 l1 l2
    · refine w88_72 (fun _ => ?_) (fun w => absurd rfl w)
      refine w88_80 l0 ?_
      refine w88_81 ?_
      refine w88_83 (k := c72 (x := 62) (y := 162) E2 A2 (by decide) (fun q hi2 I3 s3 A3 => ?_) (fun q2 => ?_))
      · refine w88_86 (fun w => absurd w (by decide)) (fun _ => ?_)
        refine w88_89 ?_
        refine w88_91 ?_
        exact k109 1 I3 _ (by unfold p_opc; rw [if_neg (show ¬ T.1 j = (160 : Int32) from q1), if_pos (show T.1 j = (162 : Int32) from q)]) rfl (by decide) hi2 s3 A3 _ l0 l1 l2
      · refine w88_86 (fun _ => ?_) (fun w => absurd rfl w)
        refine w88_94 l0 ?_
        refine w88_95 ?_
        refine w88_97 (k := c72 (x := 61) (y := 161) E2 A2 (by decide) (fun q hi2 I3 s3 A3 => ?_) (fun q3 => ?_))
        · refine w88_100 (fun w => absurd w (by decide)) (fun _ => ?_)
          refine w88_103 ?_
          refine w88_105 ?_
          exact k109 2 I3 _ (by unfold p_opc; rw [if_neg (show ¬ T.1 j = (160 : Int32) from q1), if_neg (show ¬ T.1 j = (162 : Int32) from q2), if_pos (show T.1 j = (161 : Int32) from q)]) rfl (by decide) hi2 s3 A3 _ l0 l1 l2
        · have hop : p_opc (T.1 j) = none := by unfold p_opc; rw [if_neg (show ¬ T.1 j = (160 : Int32) from q1), if_neg (show ¬ T.1 j = (162 : Int32) from q2), if_neg (show ¬ T.1 j = (161 : Int32) from q3)]
          rw [hop] at h3
          have hR5 := (Option.some.inj h3).symm
          subst hR5
          refine w88_100 (fun _ => ?_) (fun w => absurd rfl w)
          refine w88_108 ?_
          refine w88_109 ?_
          refine w88_110 rfl ?_
          refine w88_111 ?_
          refine w88_112 (fun hQ => absurd hQ (fun q => q rfl)) (fun _ => ?_)
          refine w88_115 l0 ?_
          refine w88_116 (k := c74 L A2.2.2.2.1 ?_)
          refine w88_119 (by first | rfl | exact am_narrow_b _) ?_
          exact kb j _ hR hj (K12.1.tr q_F_3) am_u_self
  · refine w88_58 (k := c76 h1 hdp hi hl E1 A hz (fun e' j lv' I2 hR2 => by cases hR2) (fun j I2 hR2 hj hF h33 => ?_))
    first | obtain ⟨rfl, rfl, rfl⟩ := s_inl3 hR2 | obtain rfl := s_inr hR2 | cases hR2
    subst h3
    refine w88_61 (fun hQ => absurd hQ (fun q => q rfl)) (fun _ => ?_)
    refine w88_64 ?_
    refine w88_65 (by first | rfl | exact am_narrow_b _) ?_
    exact kb j I2 hR hj (K1.1.tr hF) h33
def s_T (pr : am_Pr) (S : List (Nat × Nat)) (J : Nat → Nat → Int64) (P : Nat → Nat → Option Nat) (N : Nat) (C V : Nat → Int32) (pl : Nat → Nat) (d : Nat) (Q : Option Value → am_H → Prop) (I : Nat → Nat → Int32) (e : Te) (i lv dp z m : Nat) : Prop :=
  (m = 0 → q_A C V pl I i lv z → z + (N - i) ≤ 479 → am_ev pr (d + 7) 88 [.ref 96, .int (nI dp)] (S, I, J, P) Q)
  ∧ (m = 1 → q_A C V pl I i lv z → z + (N - i) ≤ 479 → am_ev pr (d + 8) 87 [.ref 96, .int (nI dp)] (S, I, J, P) Q)
  ∧ (m = 2 → q_A C V pl I i lv (z + (e.2 z).length) → z + (e.2 z).length + (N - i) ≤ 479 → k_at (I 106) (I 107) z (e.2 z) → k_DT (I 101 2) e → ∀ r, r < i → ∀ lvv, am_ld1 lvv 0 = some (.ref 96) → am_ld1 lvv 1 = some (.int (nI dp)) → am_ld1 lvv 2 = some (.int 1) → am_ld1 lvv 3 = some (.int (nI r)) → am_wp pr (d + 8) 87 8 lvv [] (S, I, J, P) Q)
  ∧ (m = 3 → q_A C V pl I i lv z → z + (N - i) ≤ 479 → am_ev pr (d + 9) 86 [.ref 96, .int (nI dp)] (S, I, J, P) Q)
  ∧ (4 ≤ m → q_A C V pl I i lv (z + (e.2 z).length) → z + (e.2 z).length + (N - i) ≤ 479 → k_at (I 106) (I 107) z (e.2 z) → k_DT (I 101 2) e → ∀ r, r < i → ∀ lvv, am_ld1 lvv 0 = some (.ref 96) → am_ld1 lvv 1 = some (.int (nI dp)) → am_ld1 lvv 2 = some (.int 1) → am_ld1 lvv 3 = some (.int (nI r)) → am_wp pr (d + 9) 86 8 lvv [] (S, I, J, P) Q)
theorem t_go : ∀ (f m dp : Nat) (e : Te) (i lv : Nat) (R : (Te × Nat × Nat) ⊕ Nat), q_go T f m dp e i lv = some R → dp ≤ 8 → i ≤ N → lv ≤ 50 → ∀ (d z : Nat) (I : Nat → Nat → Int32) (Q : Option Value → am_H → Prop), q_E S I P T N C V pl → q_kt S J P C V pl I z R Q → q_kb S J P pl N I R Q → s_T pr S J P N C V pl (d + 4 * (8 - dp)) Q I e i lv dp z m := by
  intro f
  induction f with
  | zero => intro m dp e i lv R h; cases h
  | succ f ih =>
    intro m dp e i lv R h hdp hi hl d z I Q E kg kb
    have L := E.1
    have hN4 := E.2.1
    have tr := E.2.2.1
    have h0 := tr.1
    unfold q_go at h
    unfold s_T
    split at h
    · rename_i hm
      subst hm
      refine ⟨fun _ A hz => ?_, fun y => absurd y (by decide), fun y => absurd y (by decide), fun y => absurd y (by decide), fun y => absurd y (by decide)⟩
      split at h
      · cases h
      · rename_i bb jj hn
        obtain ⟨n1, n2⟩ := p_nots_len f _ _ _ _ hn
        obtain ⟨hjj, -⟩ := p_nots_le h0 f _ _ _ _ hn hi
        show am_wp pr _ 88 0 [(0, .ref 96), (1, .int (nI dp))] [] _ _
        refine w88_0 ?_
        refine w88_1 ?_
        refine w88_2 ?_
        refine w88_3 ?_
        refine c88n (D := d + 4 * (8 - dp) + 5) E f _ _ _ _ I 0 hn (by omega) hi ⟨fun _ _ => rfl, rfl, rfl⟩ A (fun I1 s1 A1 => ?_) _ rfl rfl rfl rfl
        intro lvv l0 l1 l2
        have E1 := E.F s1.F
        by_cases h140 : T.1 jj = 140
        · have hC : C jj = nI 40 := (tr.2.2.1 jj 40 140 (by decide)).mpr h140
          have hi2 : jj < N := p_lt h0 (by rw [h140]; decide)
          rw [if_pos h140] at h
          refine w88_37 l0 ?_
          refine w88_38 ?_
          rw [A1.2.1]
          refine w88_41 ?_
          refine w88_43 (fun hQ => absurd hQ (fun q => q hC)) (fun _ => ?_)
          refine w88_46 l0 ?_
          refine w88_47 l1 ?_
          by_cases hdp8 : dp = 8
          · rw [if_pos hdp8] at h
            refine w88_48 (k := ?_)
            show am_wp pr _ 89 0 [(0, .ref 96), (1, .int (nI dp))] [] _ _
            refine w89_0 rfl ?_
            refine w89_1 ?_
            refine w89_3 (fun hQ => absurd hQ (by rw [hdp8]; decide)) (fun _ => ?_)
            refine w89_6 rfl ?_
            refine w89_7 (k := c74 L A1.2.2.2.1 ?_)
            refine w89_10 rfl ?_
            refine w88_51 (fun hQ => absurd hQ (fun q => q rfl)) (fun _ => ?_)
            refine w88_54 ?_
            refine w88_55 (by first | rfl | exact am_narrow_b _) ?_
            exact kb jj _ (Option.some.inj h).symm hjj (s1.F.tr q_F_3) am_u_self
          · rw [if_neg hdp8] at h
            rw [show d + 4 * (8 - dp) + 5 + 2 = (d + 4 * (8 - (dp + 1)) + 9) + 2 by omega]
            refine w88_48 (k := ?_)
            show am_wp pr _ 89 0 [(0, .ref 96), (1, .int (nI dp))] [] _ _
            refine w89_0 rfl ?_
            refine w89_1 ?_
            refine w89_3 (fun _ => ?_) (fun hQ => absurd (nI_lt (b := 8) (by omega) (by decide)) hQ)
            refine w89_11 rfl ?_
            refine w89_12 (k := c70a E1 A1 hi2 (fun I2 s2 A2 => ?_))
            have E2 := E1.F s2.F
            have K12 : q_K I I2 z := (s1.K).tr s2.K (Nat.le_refl z)
            refine w89_15 rfl ?_
            refine w89_16 rfl ?_
            refine w89_17 ?_
            refine w89_18 ?_
            rw [nI_1]
            rcases pMap_some h with ⟨a, ia, la, h1, h2⟩ | ⟨ja, h1, h2⟩
            · obtain ⟨i2, y1, y2, y3⟩ := p_must_ok h1
              have hlen := q_go_len f _ _ _ _ _ _ _ _ y1
              have hlen2 := (hlen.2.1 (Or.inr (Or.inr rfl))).2 z
              have hlen1 := (hlen.2.1 (Or.inr (Or.inr rfl))).1
              refine w89_19 (k := (ih 3 (dp + 1) e (jj + 1) lv _ y1 (by omega) hi2 hl d z I2 _ E2 (fun e' j lv' I3 hR K3 A3 hk hD => ?_) (fun j I2 hR => by cases hR)).2.2.2.1 rfl A2 (by omega))
              first | obtain ⟨rfl, rfl, rfl⟩ := s_inl3 hR | obtain rfl := s_inr hR | cases hR
              have E3 := E2.F K3.1
              have hj := q_go_le h0 f _ _ _ _ _ _ _ _ y1 hi2
              refine w89_22 (fun hQ => absurd hQ (by decide)) (fun _ => ?_)
              refine w89_25 rfl ?_
              refine w89_26 ?_
              refine w89_28 (k := c72 (x := 41) (y := 141) E3 A3 (by decide) (fun _ _ I4 s4 A4 => ?_) (fun q => absurd y2 q))
              refine w89_31 (fun _ => ?_) (fun hQ => absurd (by decide) hQ)
              refine w89_41 ?_
              refine w89_42 ?_
              refine w89_46 rfl ?_
              refine w88_51 (fun _ => ?_) (fun w => absurd (by decide) w)
              exact c88e (d := d + 4 * (8 - (dp + 1)) + 10) L (by rw [h2, y3]) (by omega) (K12.tr (K3.tr s4.K (Nat.le_refl z)) (Nat.le_refl z)) A4 (by rw [s4.1 106 (by decide), s4.1 107 (by decide)]; exact hk) (by rw [s4.1 101 (by decide)]; exact hD) kg _ l0 l2
            · rcases p_must_some h1 with ⟨a, i2, l2', y1, y2, y3⟩ | ⟨a, i2, l2', y1, y2, y3⟩ | ⟨j2, y1, y2⟩
              · cases y3
              · cases y3
                refine w89_19 (k := (ih 3 (dp + 1) e (jj + 1) lv _ y1 (by omega) hi2 hl d z I2 _ E2 (fun e' j lv' I3 hR K3 A3 hk hD => ?_) (fun j I2 hR => by cases hR)).2.2.2.1 rfl A2 (by omega))
                first | obtain ⟨rfl, rfl, rfl⟩ := s_inl3 hR | obtain rfl := s_inr hR | cases hR
                have E3 := E2.F K3.1
                have hj := q_go_le h0 f _ _ _ _ _ _ _ _ y1 hi2
                refine w89_22 (fun hQ => absurd hQ (by decide)) (fun _ => ?_)
                refine w89_25 rfl ?_
                refine w89_26 ?_
                refine w89_28 (k := c72 (x := 41) (y := 141) E3 A3 (by decide) (fun q => absurd q y2) (fun q => ?_))
                refine w89_31 (fun hQ => absurd hQ (fun q => q rfl)) (fun _ => ?_)
                refine w89_34 rfl ?_
                refine w89_35 (k := c74 L A3.2.2.2.1 ?_)
                refine w89_38 (fun _ => ?_) (fun hQ => absurd rfl hQ)
                refine w89_45 ?_
                refine w89_46 rfl ?_
                refine w88_51 (fun hQ => absurd hQ (fun q => q rfl)) (fun _ => ?_)
                refine w88_54 ?_
                refine w88_55 (by first | rfl | exact am_narrow_b _) ?_
                exact kb _ _ h2 hj (K12.1.tr (K3.1.tr q_F_3)) am_u_self
              · cases y2
                refine w89_19 (k := (ih 3 (dp + 1) e (jj + 1) lv _ y1 (by omega) hi2 hl d z I2 _ E2 (fun e' j lv' I3 hR => by cases hR) (fun j I3 hR hj hF h3 => ?_)).2.2.2.1 rfl A2 (by omega))
                first | obtain ⟨rfl, rfl, rfl⟩ := s_inl3 hR | obtain rfl := s_inr hR | cases hR
                refine w89_22 (fun _ => ?_) (fun hQ => absurd rfl hQ)
                refine w89_45 ?_
                refine w89_46 rfl ?_
                refine w88_51 (fun hQ => absurd hQ (fun q => q rfl)) (fun _ => ?_)
                refine w88_54 ?_
                refine w88_55 (by first | rfl | exact am_narrow_b _) ?_
                exact kb _ _ h2 hj (K12.1.tr hF) h3
        · have hC : ¬ C jj = nI 40 := fun q => h140 ((tr.2.2.1 jj 40 140 (by decide)).mp q)
          rw [if_neg h140] at h
          refine w88_37 l0 ?_
          refine w88_38 ?_
          rw [A1.2.1]
          refine w88_41 ?_
          refine w88_43 (fun _ => ?_) (fun hQ => absurd hC hQ)
          rw [show d + 4 * (8 - dp) + 5 + 2 = (d + (8 - dp) + 1) + 3 * (8 - dp) + 6 by omega]
          exact c88c rfl h hdp hjj hl E s1.K A1 (by omega) kg kb _ l0 l1 l2
    · split at h
      · rename_i hm0 hm
        subst hm
        refine ⟨fun y => absurd y (by decide), fun _ A hz => ?_, fun y => absurd y (by decide), fun y => absurd y (by decide), fun y => absurd y (by decide)⟩
        show am_wp pr _ 87 0 [(0, .ref 96), (1, .int (nI dp))] [] _ _
        refine w87_0 rfl ?_
        refine w87_1 rfl ?_
        rcases pBind_some h with ⟨e1, i1, l1, h1, h2⟩ | ⟨j1, h1, h2⟩
        · have hlen := (q_go_len f _ _ _ _ _ _ _ _ h1)
          refine w87_2 (k := (ih 0 dp e i lv _ h1 hdp hi hl d z I _ E (fun e' j lv' I1 hR K1 A1 hk hD => ?_) (fun j I2 hR => by cases hR)).1 rfl A hz)
          first | obtain ⟨rfl, rfl, rfl⟩ := s_inl3 hR | obtain rfl := s_inr hR | cases hR
          have hj := q_go_le h0 f _ _ _ _ _ _ _ _ h1 hi
          have hlen2 := (hlen.2.1 (Or.inl rfl)).2 z
          have hlen1 := (hlen.2.1 (Or.inl rfl)).1
          refine w87_5 ?_
          refine w87_6 ?_
          refine w87_7 ?_
          exact (ih 2 dp e' j lv' R h2 hdp hj (hlen.2.2.2 hl) d z I1 Q (E.F K1.1) (kg.tr K1) (kb.tr K1.1)).2.2.1 rfl A1 (by omega) hk hD 0 (by omega) _ rfl rfl rfl rfl
        · refine w87_2 (k := (ih 0 dp e i lv _ h1 hdp hi hl d z I _ E (fun e' j lv' I1 hR => by cases hR) (fun j I1 hR hj hF h3 => ?_)).1 rfl A hz)
          first | obtain ⟨rfl, rfl, rfl⟩ := s_inl3 hR | obtain rfl := s_inr hR | cases hR
          refine w87_5 ?_
          refine w87_6 ?_
          refine w87_7 ?_
          exact c87x (kb j I1 h2 hj hF h3) _ _ rfl rfl
      · split at h
        · rename_i hm0 hm1 hm
          subst hm
          refine ⟨fun y => absurd y (by decide), fun y => absurd y (by decide), fun _ A hz hk hD r hr => ?_, fun y => absurd y (by decide), fun y => absurd y (by decide)⟩
          intro lvv l0 l1 l2 l3
          have fin : ¬ T.1 i = 6 → ∀ lvv, am_ld1 lvv 2 = some (.int 1) → am_wp pr (d + 4 * (8 - dp) + 8) 87 62 lvv [] (S, I, J, P) Q := by
            intro q lvv l2
            rw [if_neg q] at h
            refine w87_62 l2 ?_
            refine w87_63 (by first | rfl | exact am_narrow_b _) ?_
            exact kg e i lv I (Option.some.inj h).symm q_K_0 A hk hD
          refine w87_8 l3 ?_
          refine w87_9 ?_
          refine w87_12 (fun q => absurd q (am_nlt (n := 400) ?_ (by decide))) (fun _ => ?_)
          · omega
          refine w87_15 l2 ?_
          refine w87_16 (fun q => absurd q (by decide)) (fun _ => ?_)
          refine w87_19 l0 ?_
          refine w87_20 ?_
          refine w87_23 (k := c72 (x := 312) (y := 6) E A (by decide) (fun q hi2 I1 s1 A1 => ?_) (fun q => ?_))
          · rw [if_pos (show T.1 i = 6 from q)] at h
            have E1 := E.F s1.F
            refine w87_26 (fun w => absurd w (by decide)) (fun _ => ?_)
            refine w87_29 l0 ?_
            refine w87_30 (L.2 _ _ _ rfl) ?_
            refine w87_33 ?_
            refine w87_35 ?_
            refine w87_36 (k := c83 L A1.2.2.2.2.2 (by omega) ?_)
            have hK1 : q_K I (tx_ad I1 (z + (e.2 z).length) 13 0) (z + (e.2 z).length) := (s1.K).tr (tx_K (Nat.le_refl _)) (Nat.le_refl _)
            have A2 := tx_A (x := 13) (y := 0) A1
            obtain ⟨t1, t2⟩ := tx_1 (I := I1) (z := z + (e.2 z).length) (x := 13) (y := 0)
            generalize tx_ad I1 (z + (e.2 z).length) 13 0 = I2 at *
            have E2 := E.F hK1.1
            refine w87_39 ?_
            refine w87_41 l0 ?_
            refine w87_42 l1 ?_
            rcases pBind_some h with ⟨e1, i1, l1', h1, h2⟩ | ⟨j1, h1, h2⟩
            · have hlen := (q_go_len f _ _ _ _ _ _ _ _ h1)
              have hlen2 := hlen.2.1 (Or.inl rfl)
              refine w87_43 (k := (ih 0 dp e (i + 1) lv _ h1 hdp hi2 hl d (z + (e.2 z).length + 1) I2 _ E2 (fun e' j lv' I3 hR K3 A3 hk3 hD3 => ?_) (fun j I2 hR => by cases hR)).1 rfl A2 (by omega))
              first | obtain ⟨rfl, rfl, rfl⟩ := s_inl3 hR | obtain rfl := s_inr hR | cases hR
              have hj := q_go_le h0 f _ _ _ _ _ _ _ _ h1 hi2
              have hb := hlen2.2 (z + (e.2 z).length + 1)
              have K13 : q_K I I3 (z + (e.2 z).length) := hK1.tr K3 (by omega)
              refine w87_46 ?_
              refine w87_47 l0 ?_
              refine w87_48 (L.2 _ _ _ rfl) ?_
              refine w87_51 rfl ?_
              refine w87_53 (k := c90 L (by omega) A3.2.2.2.2.2 ?_)
              have K4 : q_K I3 (am_u I3 107 (z + (e.2 z).length) (nI (z + (e.2 z).length + 1 + (e'.2 (z + (e.2 z).length + 1)).length))) (z + (e.2 z).length) := ⟨⟨fun a _ _ _ a4 => am_u_ne a4, by rw [am_u_ne (by decide)], by rw [am_u_ne (by decide)]⟩, fun k _ w => by rw [am_u_ne (by decide)]; exact w, by rw [am_u_ne (by decide)], fun k hk' => ⟨by rw [am_u_ne (by decide)], am_u_at (by omega)⟩⟩
              have K14 := K13.tr K4 (Nat.le_refl _)
              have K40 : q_K I (am_u I3 107 (z + (e.2 z).length) (nI (z + (e.2 z).length + 1 + (e'.2 (z + (e.2 z).length + 1)).length))) z := q_K_0.tr K14 (by omega)
              have hl3 := y_and_len e e' z
              refine w87_56 l3 ?_
              refine w87_59 ?_
              refine (ih 2 dp (y_and e e') j lv' R h2 hdp hj (hlen.2.2.2 hl) d z _ Q (E.F K40.1) (kg.tr K40) (kb.tr K40.1)).2.2.1 rfl ?_ (by omega) ?_ ?_ (r + 1) (by omega) _ l0 l1 rfl (am_nx r)
              · rw [hl3, show z + ((e.2 z).length + 1 + (e'.2 (z + (e.2 z).length + 1)).length) = z + (e.2 z).length + 1 + (e'.2 (z + (e.2 z).length + 1)).length by omega]
                obtain ⟨a1, a2, a3, a4, a5, a6⟩ := A3
                unfold q_A
                rw [am_u_ne (show (96 : Nat) ≠ 107 by decide), am_u_ne (show (101 : Nat) ≠ 107 by decide)]
                exact ⟨a1, a2, a3, a4, a5, a6⟩
              · show k_at _ _ z (e.2 z ++ (13, nI (z + (e.2 z).length + 1 + (e'.2 (z + (e.2 z).length + 1)).length)) :: e'.2 (z + (e.2 z).length + 1))
                refine k_at_ap (k_at_K hk K14 (Nat.le_refl _)) ?_
                refine k_at_ap (a := [(13, _)]) (k_at_1 ?_ am_u_self) ?_
                · rw [am_u_ne (by decide), (K3.2.2.2 _ (by omega)).1]
                  exact t1
                · refine k_at_cg (fun k q1 _ => ⟨by rw [am_u_ne (by decide)], am_u_at ?_⟩) hk3
                  have : z + (e.2 z).length + 1 ≤ k := q1
                  omega
              · rw [am_u_ne (by decide)]
                exact k_DT_and (k_DT_mo K13.2.1 hD) hD3
            · refine w87_43 (k := (ih 0 dp e (i + 1) lv _ h1 hdp hi2 hl d (z + (e.2 z).length + 1) I2 _ E2 (fun e' j lv' I3 hR => by cases hR) (fun j I3 hR hj hF h3 => ?_)).1 rfl A2 (by omega))
              first | obtain ⟨rfl, rfl, rfl⟩ := s_inl3 hR | obtain rfl := s_inr hR | cases hR
              refine w87_46 ?_
              refine w87_47 l0 ?_
              refine w87_48 (L.2 _ _ _ rfl) ?_
              refine w87_51 rfl ?_
              refine w87_53 (k := c90x L (fun I4 f1 => ?_))
              have hF4 : q_F I I4 := (hK1.1.tr hF).tr ⟨fun a _ _ _ a4 => f1 a a4, by rw [f1 96 (by decide)], by rw [f1 101 (by decide)]⟩
              refine w87_56 l3 ?_
              refine w87_59 ?_
              exact c87x (kb j I4 h2 hj hF4 (by rw [f1 96 (by decide)]; exact h3)) _ _ rfl rfl
          · exact w87_26 (fun _ => fin q _ l2) (fun w => absurd rfl w)
        · split at h
          · rename_i hm0 hm1 hm2 hm
            subst hm
            refine ⟨fun y => absurd y (by decide), fun y => absurd y (by decide), fun y => absurd y (by decide), fun _ A hz => ?_, fun y => absurd y (by decide)⟩
            show am_wp pr _ 86 0 [(0, .ref 96), (1, .int (nI dp))] [] _ _
            refine w86_0 rfl ?_
            refine w86_1 rfl ?_
            rcases pBind_some h with ⟨e1, i1, l1, h1, h2⟩ | ⟨j1, h1, h2⟩
            · have hlen := (q_go_len f _ _ _ _ _ _ _ _ h1)
              refine w86_2 (k := (ih 1 dp e i lv _ h1 hdp hi hl d z I _ E (fun e' j lv' I1 hR K1 A1 hk hD => ?_) (fun j I2 hR => by cases hR)).2.1 rfl A hz)
              first | obtain ⟨rfl, rfl, rfl⟩ := s_inl3 hR | obtain rfl := s_inr hR | cases hR
              have hj := q_go_le h0 f _ _ _ _ _ _ _ _ h1 hi
              have hlen2 := (hlen.2.1 (Or.inr (Or.inl rfl))).2 z
              have hlen1 := (hlen.2.1 (Or.inr (Or.inl rfl))).1
              refine w86_5 ?_
              refine w86_6 ?_
              refine w86_7 ?_
              exact (ih 4 dp e' j lv' R h2 hdp hj (hlen.2.2.2 hl) d z I1 Q (E.F K1.1) (kg.tr K1) (kb.tr K1.1)).2.2.2.2 (Nat.le_refl 4) A1 (by omega) hk hD 0 (by omega) _ rfl rfl rfl rfl
            · refine w86_2 (k := (ih 1 dp e i lv _ h1 hdp hi hl d z I _ E (fun e' j lv' I1 hR => by cases hR) (fun j I1 hR hj hF h3 => ?_)).2.1 rfl A hz)
              first | obtain ⟨rfl, rfl, rfl⟩ := s_inl3 hR | obtain rfl := s_inr hR | cases hR
              refine w86_5 ?_
              refine w86_6 ?_
              refine w86_7 ?_
              exact c86x (kb j I1 h2 hj hF h3) _ _ rfl rfl
          · rename_i hm0 hm1 hm2 hm3
            refine ⟨fun y => absurd y hm0, fun y => absurd y hm1, fun y => absurd y hm2, fun y => absurd y hm3, fun _ A hz hk hD r hr => ?_⟩
            intro lvv l0 l1 l2 l3
            have fin : ¬ T.1 i = 5 → ∀ lvv, am_ld1 lvv 2 = some (.int 1) → am_wp pr (d + 4 * (8 - dp) + 9) 86 62 lvv [] (S, I, J, P) Q := by
              intro q lvv l2
              rw [if_neg q] at h
              refine w86_62 l2 ?_
              refine w86_63 (by first | rfl | exact am_narrow_b _) ?_
              exact kg e i lv I (Option.some.inj h).symm q_K_0 A hk hD
            refine w86_8 l3 ?_
            refine w86_9 ?_
            refine w86_12 (fun q => absurd q (am_nlt (n := 400) ?_ (by decide))) (fun _ => ?_)
            · omega
            refine w86_15 l2 ?_
            refine w86_16 (fun q => absurd q (by decide)) (fun _ => ?_)
            refine w86_19 l0 ?_
            refine w86_20 ?_
            refine w86_23 (k := c72 (x := 311) (y := 5) E A (by decide) (fun q hi2 I1 s1 A1 => ?_) (fun q => ?_))
            · rw [if_pos (show T.1 i = 5 from q)] at h
              have E1 := E.F s1.F
              refine w86_26 (fun w => absurd w (by decide)) (fun _ => ?_)
              refine w86_29 l0 ?_
              refine w86_30 (L.2 _ _ _ rfl) ?_
              refine w86_33 ?_
              refine w86_35 ?_
              refine w86_36 (k := c83 L A1.2.2.2.2.2 (by omega) ?_)
              have hK1 : q_K I (tx_ad I1 (z + (e.2 z).length) 12 0) (z + (e.2 z).length) := (s1.K).tr (tx_K (Nat.le_refl _)) (Nat.le_refl _)
              have A2 := tx_A (x := 12) (y := 0) A1
              obtain ⟨t1, t2⟩ := tx_1 (I := I1) (z := z + (e.2 z).length) (x := 12) (y := 0)
              generalize tx_ad I1 (z + (e.2 z).length) 12 0 = I2 at *
              have E2 := E.F hK1.1
              refine w86_39 ?_
              refine w86_41 l0 ?_
              refine w86_42 l1 ?_
              rcases pBind_some h with ⟨e1, i1, l1', h1, h2⟩ | ⟨j1, h1, h2⟩
              · have hlen := (q_go_len f _ _ _ _ _ _ _ _ h1)
                have hlen2 := hlen.2.1 (Or.inr (Or.inl rfl))
                refine w86_43 (k := (ih 1 dp e (i + 1) lv _ h1 hdp hi2 hl d (z + (e.2 z).length + 1) I2 _ E2 (fun e' j lv' I3 hR K3 A3 hk3 hD3 => ?_) (fun j I2 hR => by cases hR)).2.1 rfl A2 (by omega))
                first | obtain ⟨rfl, rfl, rfl⟩ := s_inl3 hR | obtain rfl := s_inr hR | cases hR
                have hj := q_go_le h0 f _ _ _ _ _ _ _ _ h1 hi2
                have hb := hlen2.2 (z + (e.2 z).length + 1)
                have K13 : q_K I I3 (z + (e.2 z).length) := hK1.tr K3 (by omega)
                refine w86_46 ?_
                refine w86_47 l0 ?_
                refine w86_48 (L.2 _ _ _ rfl) ?_
                refine w86_51 rfl ?_
                refine w86_53 (k := c90 L (by omega) A3.2.2.2.2.2 ?_)
                have K4 : q_K I3 (am_u I3 107 (z + (e.2 z).length) (nI (z + (e.2 z).length + 1 + (e'.2 (z + (e.2 z).length + 1)).length))) (z + (e.2 z).length) := ⟨⟨fun a _ _ _ a4 => am_u_ne a4, by rw [am_u_ne (by decide)], by rw [am_u_ne (by decide)]⟩, fun k _ w => by rw [am_u_ne (by decide)]; exact w, by rw [am_u_ne (by decide)], fun k hk' => ⟨by rw [am_u_ne (by decide)], am_u_at (by omega)⟩⟩
                have K14 := K13.tr K4 (Nat.le_refl _)
                have K40 : q_K I (am_u I3 107 (z + (e.2 z).length) (nI (z + (e.2 z).length + 1 + (e'.2 (z + (e.2 z).length + 1)).length))) z := q_K_0.tr K14 (by omega)
                have hl3 := y_or_len e e' z
                refine w86_56 l3 ?_
                refine w86_59 ?_
                refine (ih 4 dp (y_or e e') j lv' R h2 hdp hj (hlen.2.2.2 hl) d z _ Q (E.F K40.1) (kg.tr K40) (kb.tr K40.1)).2.2.2.2 (Nat.le_refl 4) ?_ (by omega) ?_ ?_ (r + 1) (by omega) _ l0 l1 rfl (am_nx r)
                · rw [hl3, show z + ((e.2 z).length + 1 + (e'.2 (z + (e.2 z).length + 1)).length) = z + (e.2 z).length + 1 + (e'.2 (z + (e.2 z).length + 1)).length by omega]
                  obtain ⟨a1, a2, a3, a4, a5, a6⟩ := A3
                  unfold q_A
                  rw [am_u_ne (show (96 : Nat) ≠ 107 by decide), am_u_ne (show (101 : Nat) ≠ 107 by decide)]
                  exact ⟨a1, a2, a3, a4, a5, a6⟩
                · show k_at _ _ z (e.2 z ++ (12, nI (z + (e.2 z).length + 1 + (e'.2 (z + (e.2 z).length + 1)).length)) :: e'.2 (z + (e.2 z).length + 1))
                  refine k_at_ap (k_at_K hk K14 (Nat.le_refl _)) ?_
                  refine k_at_ap (a := [(12, _)]) (k_at_1 ?_ am_u_self) ?_
                  · rw [am_u_ne (by decide), (K3.2.2.2 _ (by omega)).1]
                    exact t1
                  · refine k_at_cg (fun k q1 _ => ⟨by rw [am_u_ne (by decide)], am_u_at ?_⟩) hk3
                    have : z + (e.2 z).length + 1 ≤ k := q1
                    omega
                · rw [am_u_ne (by decide)]
                  exact k_DT_or (k_DT_mo K13.2.1 hD) hD3
              · refine w86_43 (k := (ih 1 dp e (i + 1) lv _ h1 hdp hi2 hl d (z + (e.2 z).length + 1) I2 _ E2 (fun e' j lv' I3 hR => by cases hR) (fun j I3 hR hj hF h3 => ?_)).2.1 rfl A2 (by omega))
                first | obtain ⟨rfl, rfl, rfl⟩ := s_inl3 hR | obtain rfl := s_inr hR | cases hR
                refine w86_46 ?_
                refine w86_47 l0 ?_
                refine w86_48 (L.2 _ _ _ rfl) ?_
                refine w86_51 rfl ?_
                refine w86_53 (k := c90x L (fun I4 f1 => ?_))
                have hF4 : q_F I I4 := (hK1.1.tr hF).tr ⟨fun a _ _ _ a4 => f1 a a4, by rw [f1 96 (by decide)], by rw [f1 101 (by decide)]⟩
                refine w86_56 l3 ?_
                refine w86_59 ?_
                exact c86x (kb j I4 h2 hj hF4 (by rw [f1 96 (by decide)]; exact h3)) _ _ rfl rfl
            · exact w86_26 (fun _ => fin q _ l2) (fun w => absurd rfl w)
/-- readTest -/
theorem c86 {f dp : Nat} {R : (Te × Nat × Nat) ⊕ Nat} (h : p_test T f dp i lv = some R) (hdp : dp ≤ 8) (hi : i ≤ N) (hl : lv ≤ 50) (E : q_E S I P T N C V pl) (A : q_A C V pl I i lv z) (hz : z + (N - i) ≤ 479) (kg : q_kt S J P C V pl I z R Q) (kb : q_kb S J P pl N I R Q) : am_ev pr (d + 4 * (8 - dp) + 9) 86 [.ref 96, .int (nI dp)] (S, I, J, P) Q := (t_go f 3 dp y_0 i lv R h hdp hi hl d z I Q E kg kb).2.2.2.1 rfl A hz
end
