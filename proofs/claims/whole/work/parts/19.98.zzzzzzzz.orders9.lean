/-! orders run: the reference's orders -/
/-- a row with a text laid into it as the seventh one -/
def o_k1 (kp : Nat → Int32) (T : Tk) (N : Nat) : Nat → Int32 := fun j => if j = 83 then nI N else if 2484 ≤ j ∧ j < 2484 + N then T.1 (j - 2484) else if 5284 ≤ j ∧ j < 5284 + N then T.2.1 (j - 5284) else kp j
theorem o_k1_ne {kp : Nat → Int32} {T : Tk} {N j : Nat} (h1 : j ≠ 83) (h2 : ¬ (2484 ≤ j ∧ j < 2484 + N)) (h3 : ¬ (5284 ≤ j ∧ j < 5284 + N)) : o_k1 kp T N j = kp j := by
  unfold o_k1
  rw [if_neg h1, if_neg h2, if_neg h3]
theorem o_k1_t {kp : Nat → Int32} {T : Tk} {N : Nat} (hN : N ≤ 400) : ∀ i, i < N → T.1 i = o_k1 kp T N (2484 + i) ∧ T.2.1 i = o_k1 kp T N (5284 + i) := by
  intro i hi
  unfold o_k1
  rw [if_neg (by omega), if_pos (by omega), if_neg (by omega), if_neg (by omega), if_pos (by omega), Nat.add_sub_cancel_left, Nat.add_sub_cancel_left]
  exact ⟨rfl, rfl⟩
theorem o_k1_TK {kp : Nat → Int32} {T : Tk} {N i : Nat} {o : Bool} {xs : List Cl} (hN : N ≤ 400) (hi : i < 6) (h : am_TK o kp i xs) : am_TK o (o_k1 kp T N) i xs := am_TK_i (o_k1_ne (by omega) (by omega) (by omega)) (fun k _ => o_k1_ne (by omega) (by omega) (by omega)) (fun k _ => o_k1_ne (by omega) (by omega) (by omega)) h
theorem o_k1_lw {kp : Nat → Int32} {T : Tk} {N : Nat} (hN : N ≤ 400) {lw : Option (List Cl)} (h : m_lw kp lw) : m_lw (o_k1 kp T N) lw := by
  rcases h with ⟨a, b⟩ | ⟨f, xs, a, b, c, g⟩
  · exact Or.inl ⟨(o_k1_ne (by decide) (by omega) (by omega)).trans a, b⟩
  · exact Or.inr ⟨f, xs, a, (o_k1_ne (by decide) (by omega) (by omega)).trans b, c, o_k1_TK hN a g⟩
section
variable {pr : am_Pr} {d : Nat} {S : List (Nat × Nat)} {I I' M M' : Nat → Nat → Int32} {J : Nat → Nat → Int64} {P : Nat → Nat → Option Nat} {Q : Option Value → am_H → Prop} {n u0 : Nat} {lw : Option (List Cl)} {T : Tk} {N f : Nat}
/-- all clauses -/
theorem c290L (L : am_Lay S P) (hT : T.2.2 = true) (hN : N ≤ 400) (h0 : ∀ i, N ≤ i → T.1 i = 0) (n7 : n ≤ 7) {ed : Int32} : ∀ (r i lvs : Nat) (xs : List Cl) (lvs' c : Nat) (σ : OS) (I : Nat → Nat → Int32) (J : Nat → Nat → Int64), p_list T N f r i lvs = pOk xs N lvs' → (∀ x ∈ xs, k_cl true x) → (∀ x ∈ xs, k_DC ed x) → I 124 41 = nI (2400 + i) → (∀ i, i < N → T.1 i = σ.1 (2484 + i) ∧ T.2.1 i = σ.1 (5284 + i)) → HM I σ.1 σ.2.1 σ.2.2.1 → σ.1 73 = nI n → m_lw σ.1 lw → o_U σ → I 124 27 = σ.2.2.2.1 → I 124 28 = σ.2.2.2.2 → (∀ σ' I' J', o_all n lw xs c σ = .inl σ' → o_R I I' → HM I' σ'.1 σ'.2.1 σ'.2.2.1 → I' 124 27 = σ'.2.2.2.1 → (∀ lvv, am_ld1 lvv 0 = some (.ref 124) → am_wp pr (d + 49) 290 173 lvv [] (S, I', J', P) Q)) → (∀ c' I' J', o_all n lw xs c σ = .inr c' → o_R I I' → (∀ j, 44 ≤ j → I' 126 j = I 126 j) → (∀ lvv, am_ld1 lvv 0 = some (.ref 124) → am_ld1 lvv 1 = some (.int (nI u0)) → am_ld1 lvv 3 = some (.int (nI c')) → am_wp pr (d + 49) 290 114 lvv [] (S, I', J', P) Q)) → ∀ lvv, am_ld1 lvv 0 = some (.ref 124) → am_ld1 lvv 1 = some (.int (nI u0)) → am_ld1 lvv 2 = some (.int (nI (2400 + N))) → am_ld1 lvv 3 = some (.int (nI c)) → am_wp pr (d + 49) 290 95 lvv [] (S, I, J, P) Q
  | 0, _, _, _, _, _, _, _, _, h, _, _, _, _, _, _, _, _, _, _, _, _ => by cases h
  | r + 1, i, lvs, xs, lvs', c, σ, I, J, h, hcl, hDC, h41, htk, hM, hn, hlw, hU, h27, h28, kg, kf => by
    unfold p_list at h
    obtain ⟨X, j, l1', h1, h2⟩ := pBind_ok h
    obtain ⟨ij, jN, -⟩ := p_cl_le h0 h1
    have hX : ∃ cs, xs = X :: cs := by
      split at h2
      · obtain ⟨rfl, -, -⟩ := pOk_inj h2
        exact ⟨[], rfl⟩
      · split at h2
        · obtain ⟨cs, h3, rfl⟩ := pMap_ok h2
          exact ⟨cs, rfl⟩
        · exact (pBad_no h2).elim
    have hmX : X ∈ xs := by
      obtain ⟨cs, rfl⟩ := hX
      exact List.mem_cons_self
    intro lvv l0 l1 l2 l3
    refine w290_95 l0 ?_
    refine w290_96 ?_
    rw [h41]
    refine w290_99 l2 ?_
    refine w290_100 (fun hQ => absurd hQ (am_nlt (by omega) (by omega))) (fun _ => ?_)
    refine w290_103 l0 ?_
    refine w290_104 l2 ?_
    refine w290_105 (k := c292 (d := d) L hT h1 (hcl X hmX) (hDC X hmX) hN h41 htk h0 hM hn n7 hlw hU h27 h28 (fun σ1 I1 J1 eq F1 hM1 k27 k28 k41 hU1 ek => ?_) (fun eq I1 J1 F1 k44 => ?_))
    · refine w290_108 (fun hQ => absurd hQ (by decide)) (fun _ => ?_)
      refine w290_111 ?_
      refine w290_167 l3 ?_
      refine w290_170 ?_
      split at h2
      · rename_i hj
        obtain ⟨rfl, -, -⟩ := pOk_inj h2
        have eo : o_all n lw [X] c σ = .inl σ1 := by
          show (match o_rep n lw X X.2.2.1 σ with | none => (Sum.inr c : OS ⊕ Nat) | some σ1 => o_all n lw [] (c + 1) σ1) = .inl σ1
          rw [eq]
          rfl
        refine w290_95 l0 ?_
        refine w290_96 ?_
        rw [k41]
        refine w290_99 l2 ?_
        refine w290_100 (fun _ => ?_) (fun hQ => absurd (nI_le (by omega) (by omega)) hQ)
        exact kg σ1 I1 J1 eo F1 hM1 k27 _ l0
      · split at h2
        · obtain ⟨cs, h3, rfl⟩ := pMap_ok h2
          have eo : o_all n lw (X :: cs) c σ = o_all n lw cs (c + 1) σ1 := by
            show (match o_rep n lw X X.2.2.1 σ with | none => (Sum.inr c : OS ⊕ Nat) | some σ1 => o_all n lw cs (c + 1) σ1) = _
            rw [eq]
          have e126 : ∀ j, 44 ≤ j → I1 126 j = I 126 j := fun j hj => by rw [hM1.1, hM.1]; exact ek j hj
          rw [eo] at kg kf
          exact c290L L hT hN h0 n7 r (j + 1) _ cs lvs' (c + 1) σ1 I1 J1 h3 (fun x hx => hcl x (List.mem_cons_of_mem _ hx)) (fun x hx => hDC x (List.mem_cons_of_mem _ hx)) k41 (fun q hq => by rw [ek _ (by omega), ek _ (by omega)]; exact htk q hq) hM1 ((ek 73 (by decide)).trans hn) (m_lw_k ek hlw) hU1 k27 k28 (fun σ' I' J' e2 F' hM' k' => kg σ' I' J' e2 (F1.tr F') hM' k') (fun c' I' J' e2 F' k' => kf c' I' J' e2 (F1.tr F') (fun j hj => (k' j hj).trans (e126 j hj))) _ l0 l1 l2 (am_nx c)
        · exact (pBad_no h2).elim
    · obtain ⟨cs, rfl⟩ := hX
      have eo : o_all n lw (X :: cs) c σ = .inr c := by
        show (match o_rep n lw X X.2.2.1 σ with | none => (Sum.inr c : OS ⊕ Nat) | some σ1 => o_all n lw cs (c + 1) σ1) = .inr c
        rw [eq]
      refine w290_108 (fun _ => ?_) (fun hQ => absurd rfl hQ)
      exact kf c I1 J1 eo F1 k44 _ l0 l1 l3
/-- what the reference's orders leave alone -/
def o_H (I I' : Nat → Nat → Int32) : Prop := (∀ a, a ≠ 124 → a ≠ 126 → a ≠ 129 → (a < 133 ∨ 142 < a) → I' a = I a) ∧ I' 124 6 = I 124 6 ∧ I' 124 48 = I 124 48 ∧ I' 124 13 = 0
/-- orders -/
theorem c290 (L : am_Lay S P) {b : Nat → Nat} {z : Nat} (z400 : z ≤ 400) (hz : I 124 13 = nI z) (hw : ∀ k x, am_wds[k]? = some x → I 130 k = nI x) (hb : ∀ j, j < z → I 131 j = sb (b j)) (hb2 : ∀ j, j < z → b j < 256) {ts : List (Nat × Nat)} (hts : ts = sc b z (z + 1) 0) (hN : ts.length ≤ 400) (h0 : ∀ i, ts.length ≤ i → (x_T b ts true).1 i = 0) {R : (List Cl × Nat × Nat) ⊕ Nat} (hR : p_read (x_T b ts true) ts.length = some R) {kp lf : Nat → Int32} (hk : I 126 = kp) (hu : I 124 35 = nI u0) (hlf : I 141 = lf) (hn : kp 73 = nI n) (n7 : n ≤ 7) (hlw : m_lw kp lw) (u16 : u0 ≤ 16) (t43 : ∃ t, t ≤ 999 ∧ kp 43 = nI t) (hDC : ∀ xs lv', R = .inl (xs, ts.length, lv') → ∃ e : Int32, ∀ (q : Nat) (x : Cl), xs[q]? = some x → k_DC e x) (kg : ∀ xs lv' σ' I' J', R = .inl (xs, ts.length, lv') → o_all n lw xs 0 (o_k1 kp (x_T b ts true) ts.length, lf, u0, 0, -1) = .inl σ' → o_H I I' → I' 124 40 = -1 → I' 124 14 = -1 → I' 124 0 = 0 → HM I' σ'.1 σ'.2.1 σ'.2.2.1 → Q (some (.int σ'.2.2.2.1)) (S, I', J', P)) (kf : ∀ xs lv' c I' J', R = .inl (xs, ts.length, lv') → o_all n lw xs 0 (o_k1 kp (x_T b ts true) ts.length, lf, u0, 0, -1) = .inr c → o_H I I' → I' 124 40 = nI c → I' 124 14 = -1 → HM I' (o_k1 kp (x_T b ts true) ts.length) lf u0 → Q (some (.int (-3))) (S, rf_m I' (-3), J', P)) (kb : ∀ j I', R = .inr j → j ≤ ts.length → r_F (am_u I 124 40 (-1)) I' → I' 124 14 = nI (t_P z ts j) → Q (some (.int (-6))) (S, rf_m I' (-6), J, P)) : am_ev pr (d + 49) 290 [.ref 124] (S, I, J, P) Q := by
  show am_wp pr (d + 49) 290 0 [(0, .ref 124)] [] _ _
  refine w290_0 rfl ?_
  refine w290_1 ?_
  refine w290_2 ?_
  refine w290_5 rfl ?_
  refine w290_6 ?_
  refine w290_7 (k := c220 (d := d + 11) (o := true) L z400 (by rw [am_u_at (by decide)]; exact hz) (by rw [am_u_ne (by decide)]; exact hw) (by rw [am_u_ne (by decide)]; exact hb) hb2 hts hR (fun xs lv' I1 hR1 F1 h14 h18 hT1 => ?_) (fun j I1 hR1 hj F1 h14 => ?_))
  · have hcl : ∀ x ∈ xs, k_cl true x := by
      rw [hR1] at hR
      exact (p_read_good hR).1
    obtain ⟨ed, hDC⟩ := hDC xs lv' hR1
    have hDC : ∀ x ∈ xs, k_DC ed x := fun x hx => by
      obtain ⟨q, hq⟩ := List.mem_iff_getElem?.mp hx
      exact hDC q x hq
    refine w290_10 (fun _ => ?_) (fun hQ => absurd (by decide) hQ)
    refine w290_20 rfl ?_
    refine w290_21 ?_
    refine w290_22 (k := c291b L (fun I2 f2 g2 => ?_))
    refine w290_25 ?_
    refine w290_26 ?_
    refine am_for (fun b => ∀ I3 : Nat → Nat → Int32, (∀ a, a ≠ 142 → I3 a = I2 a) → (∀ j, j < b → I3 142 j = I2 141 j) → ∀ lvv, am_ld1 lvv 0 = some (.ref 124) → am_ld1 lvv 1 = some (.int (nI b)) → am_wp pr (d + 49) 290 27 lvv [] (S, I3, J, P) Q) 720 ?_ ?_ I2 (fun _ _ => rfl) (fun j hj => absurd hj (Nat.not_lt_zero j)) _ rfl rfl
    · intro b hb ih I3 e1 e2 lvv l0 l1
      have e3 : I3 141 b = I2 141 b := by rw [e1 141 (by decide)]
      refine w290_27 l1 ?_
      refine w290_28 ?_
      refine w290_31 (fun hQ => absurd hQ (am_nlt (n := 720) hb (by decide))) (fun _ => ?_)
      refine w290_34 l0 ?_
      refine w290_35 (L.2 _ _ _ rfl) ?_
      refine w290_38 l1 ?_
      refine w290_39 l0 ?_
      refine w290_40 (L.2 _ _ _ rfl) ?_
      refine w290_43 l1 ?_
      refine w290_44 (L.sh rfl) (am_in_nI (by omega) (by decide)) ?_
      rw [am_clN (by omega), e3]
      refine w290_45 (L.sh rfl) (am_in_nI (by omega) (by decide)) ?_
      rw [am_clN (by omega)]
      refine w290_46 l1 ?_
      refine w290_49 ?_
      refine ih _ (fun a ha => by rw [am_u_ne ha]; exact e1 a ha) (fun j hj => ?_) _ l0 (am_nx b)
      by_cases y : j = b
      · rw [y, am_u_self]
      · rw [am_u_at y]; exact e2 j (by omega)
    · intro I3 e1 e2 lvv l0 l1
      have k35 : I3 124 35 = nI u0 := by rw [e1 124 (by decide), f2 124 (by decide), F1.2.1 35 (by decide) (by decide) (by decide) (by decide) (by decide) (by decide), am_u_at (by decide)]; exact hu
      have k18 : I3 124 18 = nI ts.length := by rw [e1 124 (by decide), f2 124 (by decide)]; exact h18
      have k126 : I3 126 = kp := by rw [e1 126 (by decide), f2 126 (by decide), F1.1 126 (by decide) (by decide) (by decide) (by decide), am_u_ne (by decide)]; exact hk
      refine w290_27 l1 ?_
      refine w290_28 ?_
      refine w290_31 (fun _ => ?_) (fun hQ => absurd (Int32.le_refl _) hQ)
      refine w290_52 l0 ?_
      refine w290_53 ?_
      rw [k35]
      refine w290_56 ?_
      refine w290_57 l0 ?_
      refine w290_58 ?_
      refine w290_60 (k := c242 L (t := 6) k18 hN (by decide) (fun I4 f4 g4 g83 g4t => ?_))
      have q126 : I4 126 = o_k1 kp (x_T b ts true) ts.length := by
        funext j
        unfold o_k1
        by_cases y1 : j = 83
        · rw [if_pos y1, y1]; exact g83
        · rw [if_neg y1]
          by_cases y2 : 2484 ≤ j ∧ j < 2484 + ts.length
          · rw [if_pos y2]
            have q := (g4t (j - 2484) (by omega)).1
            rw [show 84 + 400 * 6 + (j - 2484) = j by omega, e1 133 (by decide), f2 133 (by decide), (hT1 (j - 2484) (by omega)).1] at q
            exact q
          · rw [if_neg y2]
            by_cases y3 : 5284 ≤ j ∧ j < 5284 + ts.length
            · rw [if_pos y3]
              have q := (g4t (j - 5284) (by omega)).2
              rw [show 2884 + 400 * 6 + (j - 5284) = j by omega, e1 134 (by decide), f2 134 (by decide), (hT1 (j - 5284) (by omega)).2] at q
              exact q
            · rw [if_neg y3, ← k126]
              exact g4 j (by omega) (by omega) (by omega)
      have e83 : am_u (am_u (am_u I4 124 27 0) 124 28 (-1)) 124 41 2400 126 83 = nI ts.length := by rw [am_u_ne (by decide), am_u_ne (by decide), am_u_ne (by decide)]; exact g83
      refine w290_63 l0 ?_
      refine w290_64 ?_
      refine w290_65 ?_
      refine w290_68 l0 ?_
      refine w290_69 ?_
      refine w290_70 ?_
      refine w290_73 l0 ?_
      refine w290_74 ?_
      refine w290_77 ?_
      refine w290_80 l0 ?_
      refine w290_81 ?_
      rw [am_u_self]
      refine w290_84 l0 ?_
      refine w290_85 (L.2 _ _ _ rfl) ?_
      refine w290_88 ?_
      refine w290_90 (L.sh rfl) (by decide) ?_
      rw [show Int32.toNatClampNeg 83 = 83 from rfl, e83]
      refine w290_91 ?_
      rw [show (2400 : Int32) + nI ts.length = nI (2400 + ts.length) from nI_add 2400 _]
      refine w290_92 ?_
      refine w290_93 ?_
      refine w290_94 ?_
      generalize hI5 : am_u (am_u (am_u I4 124 27 0) 124 28 (-1)) 124 41 2400 = I5
      have a5 : ∀ a, a ≠ 124 → I5 a = I4 a := fun a ha => by rw [← hI5, am_u_ne ha, am_u_ne ha, am_u_ne ha]
      have b5 : ∀ q, q ≠ 27 → q ≠ 28 → q ≠ 41 → I5 124 q = I4 124 q := fun q q1 q2 q3 => by rw [← hI5, am_u_at q3, am_u_at q2, am_u_at q1]
      have s27 : I5 124 27 = 0 := by rw [← hI5, am_u_at (by decide), am_u_at (by decide), am_u_self]
      have s28 : I5 124 28 = -1 := by rw [← hI5, am_u_at (by decide), am_u_self]
      have s41 : I5 124 41 = nI (2400 + 0) := by rw [← hI5, am_u_self]; decide
      have E : ∀ a, a ≠ 124 → a ≠ 126 → a ≠ 129 → (a < 133 ∨ 135 < a) → a ≠ 142 → I5 a = I a := fun a a1 a2 a3 a4 a5' => by rw [a5 a a1, f4 a a2, e1 a a5', f2 a a3, F1.1 a a1 (by omega) (by omega) (by omega), am_u_ne a1]
      have E124 : ∀ q, q ≠ 27 → q ≠ 28 → q ≠ 41 → I5 124 q = I1 124 q := fun q q1 q2 q3 => by rw [b5 q q1 q2 q3, f4 124 (by decide), e1 124 (by decide), f2 124 (by decide)]
      have E129 : ∀ j, j < 44 → I5 129 (44 + j) = kp j := fun j hj => by rw [a5 129 (by decide), f4 129 (by decide), e1 129 (by decide), g2 j hj, F1.1 126 (by decide) (by decide) (by decide) (by decide), am_u_ne (by decide), hk]
      have E142 : ∀ j, j < 720 → I5 142 j = lf j := fun j hj => by rw [a5 142 (by decide), f4 142 (by decide), e2 j hj, f2 141 (by decide), F1.1 141 (by decide) (by decide) (by decide) (by decide), am_u_ne (by decide), hlf]
      have E126 : I5 126 = o_k1 kp (x_T b ts true) ts.length := by rw [a5 126 (by decide)]; exact q126
      have E35 : I5 124 35 = nI u0 := by rw [b5 35 (by decide) (by decide) (by decide), f4 124 (by decide)]; exact k35
      have E141 : I5 141 = lf := by rw [E 141 (by decide) (by decide) (by decide) (by decide) (by decide)]; exact hlf
      have E40 : I5 124 40 = -1 := by rw [E124 40 (by decide) (by decide) (by decide), F1.2.1 40 (by decide) (by decide) (by decide) (by decide) (by decide) (by decide), am_u_self]
      have E14 : I5 124 14 = -1 := by rw [E124 14 (by decide) (by decide) (by decide)]; exact h14
      have E13 : I5 124 13 = 0 := by rw [E124 13 (by decide) (by decide) (by decide)]; exact F1.2.2
      have E6 : I5 124 6 = I 124 6 := by rw [E124 6 (by decide) (by decide) (by decide), F1.2.1 6 (by decide) (by decide) (by decide) (by decide) (by decide) (by decide), am_u_at (by decide)]
      have E48 : I5 124 48 = I 124 48 := by rw [E124 48 (by decide) (by decide) (by decide), F1.2.1 48 (by decide) (by decide) (by decide) (by decide) (by decide) (by decide), am_u_at (by decide)]
      have hM5 : HM I5 (o_k1 kp (x_T b ts true) ts.length) lf u0 := ⟨E126, E35, fun i _ j _ => by rw [E141]⟩
      have hU5 : o_U (o_k1 kp (x_T b ts true) ts.length, lf, u0, 0, -1) := by
        obtain ⟨t, t9, ht⟩ := t43
        show u0 ≤ 16 ∧ ∃ t, t ≤ 999 ∧ o_k1 kp (x_T b ts true) ts.length 43 = nI t
        exact ⟨u16, t, t9, (o_k1_ne (by decide) (by omega) (by omega)).trans ht⟩
      have hR2 : p_list (x_T b ts true) ts.length p_fuel 12 0 0 = pOk xs ts.length lv' := by
        rw [hR1] at hR
        exact hR
      clear hI5 E124 a5 b5 e83 q126 g4t g4 f4 g83 k126 k18 k35 e1 e2 f2 g2 hT1
      refine c290L (d := d) (u0 := u0) (f := p_fuel) (lw := lw) (N := ts.length) L rfl hN h0 n7 12 0 0 xs lv' 0 (o_k1 kp (x_T b ts true) ts.length, lf, u0, 0, -1) I5 J hR2 hcl hDC s41 (o_k1_t hN) hM5 ((show o_k1 kp (x_T b ts true) ts.length 73 = kp 73 from o_k1_ne (by decide) (by omega) (by omega)).trans hn) (o_k1_lw hN hlw) hU5 s27 s28 (fun σ' I6 J6 eo F6 hM6 k27 => ?_) (fun c I6 J6 eo F6 k44 => ?_) _ l0 rfl rfl rfl
      · intro lvv l0
        refine w290_173 l0 ?_
        refine w290_174 l0 ?_
        refine w290_175 ?_
        rw [k27]
        refine w290_178 (k := c166 L ?_)
        refine w290_181 ?_
        refine kg xs lv' σ' (am_u I6 124 0 0) J6 hR1 eo ⟨fun a a1 a2 a3 a4 => ?_, ?_, ?_, ?_⟩ ?_ ?_ am_u_self (HM_u (by decide) hM6)
        · rw [am_u_ne a1, F6.1 a a1 a2 (by omega)]; exact E a a1 a2 a3 (by omega) (by omega)
        · rw [am_u_at (by decide), F6.2 6 (by decide) (by decide) (by decide) (by decide) (by decide)]; exact E6
        · rw [am_u_at (by decide), F6.2 48 (by decide) (by decide) (by decide) (by decide) (by decide)]; exact E48
        · rw [am_u_at (by decide), F6.2 13 (by decide) (by decide) (by decide) (by decide) (by decide)]; exact E13
        · rw [am_u_at (by decide), F6.2 40 (by decide) (by decide) (by decide) (by decide) (by decide)]; exact E40
        · rw [am_u_at (by decide), F6.2 14 (by decide) (by decide) (by decide) (by decide) (by decide)]; exact E14
      · intro lvv l0 l1 l3
        refine w290_114 l0 ?_
        refine w290_115 ?_
        refine w290_116 (k := c297b L (fun I7 f7 g7 => ?_))
        refine w290_119 ?_
        refine w290_120 ?_
        refine am_for (fun b => ∀ I8 : Nat → Nat → Int32, (∀ a, a ≠ 141 → I8 a = I7 a) → (∀ j, j < b → I8 141 j = I7 142 j) → ∀ lvv, am_ld1 lvv 0 = some (.ref 124) → am_ld1 lvv 1 = some (.int (nI u0)) → am_ld1 lvv 3 = some (.int (nI c)) → am_ld1 lvv 4 = some (.int (nI b)) → am_wp pr (d + 49) 290 122 lvv [] (S, I8, J6, P) Q) 720 ?_ ?_ I7 (fun _ _ => rfl) (fun j hj => absurd hj (Nat.not_lt_zero j)) _ l0 l1 l3 rfl
        · intro b hb ih I8 e1 e2 lvv l0 l1 l3 l4
          have e3 : I8 142 b = I7 142 b := by rw [e1 142 (by decide)]
          refine w290_122 l4 ?_
          refine w290_124 ?_
          refine w290_127 (fun hQ => absurd hQ (am_nlt (n := 720) hb (by decide))) (fun _ => ?_)
          refine w290_130 l0 ?_
          refine w290_131 (L.2 _ _ _ rfl) ?_
          refine w290_134 l4 ?_
          refine w290_136 l0 ?_
          refine w290_137 (L.2 _ _ _ rfl) ?_
          refine w290_140 l4 ?_
          refine w290_142 (L.sh rfl) (am_in_nI (by omega) (by decide)) ?_
          rw [am_clN (by omega), e3]
          refine w290_143 (L.sh rfl) (am_in_nI (by omega) (by decide)) ?_
          rw [am_clN (by omega)]
          refine w290_144 l4 ?_
          refine w290_147 ?_
          refine ih _ (fun a ha => by rw [am_u_ne ha]; exact e1 a ha) (fun j hj => ?_) _ l0 l1 l3 (am_nx b)
          by_cases y : j = b
          · rw [y, am_u_self]
          · rw [am_u_at y]; exact e2 j (by omega)
        · intro I8 e1 e2 lvv l0 l1 l3 l4
          refine w290_122 l4 ?_
          refine w290_124 ?_
          refine w290_127 (fun _ => ?_) (fun hQ => absurd (Int32.le_refl _) hQ)
          refine w290_150 l0 ?_
          refine w290_151 l1 ?_
          refine w290_152 ?_
          refine w290_155 l0 ?_
          refine w290_156 l3 ?_
          refine w290_157 ?_
          refine w290_160 l0 ?_
          refine w290_161 ?_
          refine w290_163 (k := c165 L (by decide) ?_)
          refine w290_166 ?_
          have G : ∀ a, a ≠ 124 → a ≠ 141 → am_u (am_u I8 124 35 (nI u0)) 124 40 (nI c) a = I7 a := fun a a1 a2 => by rw [am_u_ne a1, am_u_ne a1, e1 a a2]
          have G124 : ∀ q, q ≠ 35 → q ≠ 40 → am_u (am_u I8 124 35 (nI u0)) 124 40 (nI c) 124 q = I6 124 q := fun q q1 q2 => by rw [am_u_at q2, am_u_at q1, e1 124 (by decide), f7 124 (by decide)]
          refine kf xs lv' c _ J6 hR1 eo ⟨fun a a1 a2 a3 a4 => ?_, ?_, ?_, ?_⟩ am_u_self ?_ ⟨?_, ?_, fun i hi j hj => ?_⟩
          · rw [G a a1 (by omega), f7 a a2, F6.1 a a1 a2 (by omega)]; exact E a a1 a2 a3 (by omega) (by omega)
          · rw [G124 6 (by decide) (by decide), F6.2 6 (by decide) (by decide) (by decide) (by decide) (by decide)]; exact E6
          · rw [G124 48 (by decide) (by decide), F6.2 48 (by decide) (by decide) (by decide) (by decide) (by decide)]; exact E48
          · rw [G124 13 (by decide) (by decide), F6.2 13 (by decide) (by decide) (by decide) (by decide) (by decide)]; exact E13
          · rw [G124 14 (by decide) (by decide), F6.2 14 (by decide) (by decide) (by decide) (by decide) (by decide)]; exact E14
          · rw [G 126 (by decide) (by decide)]
            funext j
            rw [g7 j]
            by_cases y : j < 44
            · rw [if_pos y, F6.1 129 (by decide) (by decide) (by decide), E129 j y, o_k1_ne (by omega) (by omega) (by omega)]
            · rw [if_neg y, k44 j (by omega), E126]
          · rw [am_u_at (by decide), am_u_self]
          · have q : 45 * i + j < 720 := by omega
            rw [am_u_ne (by decide), am_u_ne (by decide), e2 _ q, f7 142 (by decide), F6.1 142 (by decide) (by decide) (by decide), E142 _ q]
  · refine w290_10 (fun hQ => absurd hQ (fun q => q rfl)) (fun _ => ?_)
    refine w290_13 rfl ?_
    refine w290_14 ?_
    refine w290_16 (k := c165 L (by decide) ?_)
    refine w290_19 ?_
    exact kb j I1 hR1 hj F1 h14
end
