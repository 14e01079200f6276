/-! orders run: the reference runs a clause -/
def o_x (es : List Ex) (F : Nat → Int64) (q : Nat) : Int32 := match es[q]? with | none => 0 | some _ => (F q).toInt32
theorem o_v_x {w : Nat → Nat → Int32} {es : List Ex} {F : Nat → Int64} (hv : ∀ (q : Nat) (e : Ex), es[q]? = some e → e.1 w = some (F q)) (q : Nat) : o_v w es q = some (o_x es F q) := by
  unfold o_v o_x
  cases hc : es[q]? with
  | none => rfl
  | some e =>
    show (e.1 w).map _ = some (F q).toInt32
    rw [hv q e hc]
    rfl
theorem o_x_y {es : List Ex} {F : Nat → Int64} {q : Nat} (h : q < es.length) : o_x es F q = (F q).toInt32 := by
  unfold o_x
  rw [List.getElem?_eq_getElem h]
theorem o_D_x {n u u' : Nat} {lw : Option (List Cl)} {kp lf kp' lf' : Nat → Int32} {v : Int32} {X : Cl} {w : Nat → Nat → Int32} {F : Nat → Int64} (hcl : k_cl true X) (n7 : n ≤ 7) (hv : ∀ (q : Nat) (e : Ex), X.2.1[q]? = some e → e.1 w = some (F q)) : o_D n lw kp lf u X.1 (o_sm (F 0)) (o_sm (F 1)) (o_sm (F 2)) v kp' lf' u' ↔ o_D n lw kp lf u X.1 (o_x X.2.1 F 0) (o_x X.2.1 F 1) (o_x X.2.1 F 2) v kp' lf' u' := by
  have g := hcl.1
  rw [if_pos rfl] at g
  have one : ∀ q, q < X.2.1.length → ∀ m, m < 10 → (o_sm (F q) = nI m ↔ o_x X.2.1 F q = nI m) := by
    intro q hq m hm
    rw [o_x_y hq]
    refine ⟨o_sm_n hm, fun h => o_sm_y hm ?_ h⟩
    have e := List.getElem?_eq_getElem hq
    exact (hcl.2.1 _ (List.mem_of_getElem? e)).1.2 w _ (hv q _ e)
  constructor
  · exact o_D_sm n7 (fun h m hm => (one 0 (by omega) m hm).mp) (fun h m hm => (one 1 (by omega) m hm).mp) (fun h m hm => (one 2 (by omega) m hm).mp)
  · exact o_D_sm n7 (fun h m hm => (one 0 (by omega) m hm).mpr) (fun h m hm => (one 1 (by omega) m hm).mpr) (fun h m hm => (one 2 (by omega) m hm).mpr)
theorem o_D_k {n u hd u' : Nat} {lw : Option (List Cl)} {kp lf kp' lf' : Nat → Int32} {x y z v : Int32} (n7 : n ≤ 7) (D : o_D n lw kp lf u hd x y z v kp' lf' u') : ∀ j, 44 ≤ j → kp' j = kp j := by
  intro j hj
  rcases D with ⟨-, p, hp, -, -, -, e, -, -⟩ | ⟨-, p, hp, -, -, e, -, -⟩ | ⟨-, p, q, w, hp, hq, -, -, -, -, -, -, e, -, -⟩ | ⟨-, t, -, -, -, e, -, -⟩
  · rw [e]
    show (if j = 42 then _ else kp j) = kp j
    rw [if_neg (by omega)]
  · rw [e]
    show (if j = 35 + p then _ else kp j) = kp j
    rw [if_neg (by omega)]
  · rw [e]
    show (if j = p * 5 + q then _ else kp j) = kp j
    rw [if_neg (by omega)]
  · rw [e]
    show (if j = 43 then _ else if 35 ≤ j ∧ j < 35 + n then _ else kp j) = kp j
    rw [if_neg (by omega), if_neg (by omega)]
theorem m_lw_k {kp kp' : Nat → Int32} {lw : Option (List Cl)} (e : ∀ j, 44 ≤ j → kp' j = kp j) (h : m_lw kp lw) : m_lw kp' lw := by
  rcases h with ⟨a, b⟩ | ⟨f, xs, a, b, c, g⟩
  · exact Or.inl ⟨(e 76 (by decide)).trans a, b⟩
  · exact Or.inr ⟨f, xs, a, (e 76 (by decide)).trans b, c, am_TK_i (e _ (by omega)) (fun k _ => e _ (by omega)) (fun k _ => e _ (by omega)) g⟩
section
variable {pr : am_Pr} {d : Nat} {S : List (Nat × Nat)} {I I' M M' : Nat → Nat → Int32} {J : Nat → Nat → Int64} {P : Nat → Nat → Option Nat} {Q : Option Value → am_H → Prop} {n : Nat} {lw : Option (List Cl)} {T : Tk} {N : Nat}
/-- runs -/
theorem c292 (L : am_Lay S P) (hT : T.2.2 = true) {X : Cl} {f i lv j lv' : Nat} (hp : p_cl T f i lv = pOk X j lv') (hcl : k_cl true X) {qd : Int32} (hDC : k_DC qd X) (hN : N ≤ 400) (h41 : I 124 41 = nI (2400 + i)) {σ : OS} (htk : ∀ i, i < N → T.1 i = σ.1 (2484 + i) ∧ T.2.1 i = σ.1 (5284 + i)) (h0 : ∀ i, N ≤ i → T.1 i = 0) (h : HM I σ.1 σ.2.1 σ.2.2.1) (hn : σ.1 73 = nI n) (n7 : n ≤ 7) (hlw : m_lw σ.1 lw) (hU : o_U σ) (h27 : I 124 27 = σ.2.2.2.1) (h28 : I 124 28 = σ.2.2.2.2) (ky : ∀ σ' I' J', o_rep n lw X X.2.2.1 σ = some σ' → o_R I I' → HM I' σ'.1 σ'.2.1 σ'.2.2.1 → I' 124 27 = σ'.2.2.2.1 → I' 124 28 = σ'.2.2.2.2 → I' 124 41 = nI (2400 + (j + 1)) → o_U σ' → (∀ j, 44 ≤ j → σ'.1 j = σ.1 j) → Q (some (.int 1)) (S, I', J', P)) (kn : o_rep n lw X X.2.2.1 σ = none → ∀ I' J', o_R I I' → (∀ j, 44 ≤ j → I' 126 j = I 126 j) → Q (some (.int 0)) (S, I', J', P)) : am_ev pr (d + 48) 292 [.ref 124, .int (nI (2400 + N))] (S, I, J, P) Q := by
  have hk := h.1
  obtain ⟨t1, t20⟩ := hcl.2.2.1
  have g := hcl.1
  rw [if_pos rfl] at g
  have hhd : X.1 = 21 ∨ X.1 = 22 ∨ X.1 = 23 ∨ X.1 = 26 := by omega
  have hlen : X.2.1.length ≤ 3 := by omega
  have hMo : ∀ {I1 I2 : Nat → Nat → Int32} {kp lf : Nat → Int32} {u : Nat}, o_M I1 I2 → HM I1 kp lf u → HM I2 kp lf u := fun F q => HM_cg (F.1 126 (by decide) (by decide)) (F.2 35 (by decide) (by decide)) (F.1 141 (by decide) (by decide)) q
  show am_wp pr (d + 48) 292 0 [(0, .ref 124), (1, .int (nI (2400 + N)))] [] _ _
  refine w292_0 rfl ?_
  refine w292_1 rfl ?_
  refine w292_2 ?_
  refine w292_3 (k := c293 (d := d + 1) (al := false) L hT hp hN h41 (fun q hq => by rw [hk]; exact htk q hq) h0 hk hn n7 hlw (by decide) (fun I1 J1 w1 _ F1 e42 e22 _ => ?_))
  refine w292_6 rfl ?_
  refine w292_7 ?_
  rw [e42]
  refine w292_10 ?_
  refine w292_11 rfl ?_
  refine w292_12 ?_
  rw [e22]
  refine w292_15 ?_
  refine w292_16 ?_
  refine w292_17 ?_
  refine am_for (fun t => ∀ (σ1 : OS) (I2 : Nat → Nat → Int32) (J2 : Nat → Nat → Int64), o_R I I2 → HM I2 σ1.1 σ1.2.1 σ1.2.2.1 → I2 124 27 = σ1.2.2.2.1 → I2 124 28 = σ1.2.2.2.2 → I2 124 41 = nI (2400 + i) → o_U σ1 → (∀ j, 44 ≤ j → σ1.1 j = σ.1 j) → o_rep n lw X (X.2.2.1 - t) σ1 = o_rep n lw X X.2.2.1 σ → ∀ lvv, am_ld1 lvv 0 = some (.ref 124) → am_ld1 lvv 1 = some (.int (nI (2400 + N))) → am_ld1 lvv 2 = some (.int (nI X.2.2.1)) → am_ld1 lvv 3 = some (.int (nI (2400 + (j + 1)))) → am_ld1 lvv 4 = some (.int (nI t)) → am_wp pr (d + 48) 292 19 lvv [] (S, I2, J2, P) Q) X.2.2.1 ?_ ?_ σ I1 J1 F1.R (hMo F1 h) ((F1.2 27 (by decide) (by decide)).trans h27) ((F1.2 28 (by decide) (by decide)).trans h28) ((F1.2 41 (by decide) (by decide)).trans h41) hU (fun _ _ => rfl) rfl _ rfl rfl rfl rfl rfl
  · intro t ht ih σ1 I2 J2 F2 hM g27 g28 g41 hU1 ek eq lvv l0 l1 l2 l3 l4
    have et : X.2.2.1 - t = (X.2.2.1 - (t + 1)) + 1 := by omega
    rw [et] at eq
    have eq : (o_one n lw X σ1).bind (o_rep n lw X (X.2.2.1 - (t + 1))) = o_rep n lw X X.2.2.1 σ := eq
    have hn1 : σ1.1 73 = nI n := (ek 73 (by decide)).trans hn
    have hlw1 : m_lw σ1.1 lw := m_lw_k ek hlw
    refine w292_19 l4 ?_
    refine w292_21 l2 ?_
    refine w292_22 (fun hQ => absurd hQ (am_nlt ht (by omega))) (fun _ => ?_)
    refine w292_25 l0 ?_
    refine w292_26 l1 ?_
    refine w292_27 ?_
    refine w292_28 (k := c293 (d := d + 1) (al := true) L hT hp hN g41 (fun q hq => by rw [hM.1, ek _ (by omega), ek _ (by omega)]; exact htk q hq) h0 hM.1 hn1 n7 hlw1 (by decide) (fun I3 J3 w0 hw F3 e42' e22' hq => ?_))
    obtain ⟨e43, e45, oS⟩ := hq rfl
    have hM3 := hMo F3 hM
    have hW : ∀ c k, k_dm qd c k → w0 c k = o_e n lw σ1 c k := fun c k hc => by rw [hw rfl qd c k hc, g27, g28]; rfl
    have hif : e_if w0 X.2.2.2 = e_if (o_e n lw σ1) X.2.2.2 := e_if_DT hDC.2 hW
    have hov : ∀ q, o_v w0 X.2.1 q = o_v (o_e n lw σ1) X.2.1 q := o_v_DX hDC.1 hW
    have k27 : I3 124 27 = σ1.2.2.2.1 := (F3.2 27 (by decide) (by decide)).trans g27
    have k28 : I3 124 28 = σ1.2.2.2.2 := (F3.2 28 (by decide) (by decide)).trans g28
    have k41 : I3 124 41 = nI (2400 + i) := (F3.2 41 (by decide) (by decide)).trans g41
    have k44 : ∀ j, 44 ≤ j → I3 126 j = I 126 j := fun j hj => by rw [hM3.1, hk]; exact ek j hj
    rw [hif] at e45
    cases hb : e_if (o_e n lw σ1) X.2.2.2 with
    | false =>
      rw [hb, am_b_f (by decide)] at e45
      rw [o_one_y n7 (show o_T n lw X σ1 σ1 from Or.inl ⟨hb, rfl⟩)] at eq
      refine w292_31 l0 ?_
      refine w292_32 ?_
      rw [e45]
      refine w292_35 (fun hQ => absurd hQ (fun q => q rfl)) (fun _ => ?_)
      refine w292_38 ?_
      refine w292_67 l4 ?_
      refine w292_70 ?_
      exact ih σ1 I3 J3 (F2.tr F3.R) hM3 k27 k28 k41 hU1 ek eq _ l0 l1 l2 l3 (am_nx t)
    | true =>
      rw [hb, am_b_t rfl] at e45
      have bad : (¬ ∃ σ', o_T n lw X σ1 σ') → ∀ (I4 : Nat → Nat → Int32) (J4 : Nat → Nat → Int64), o_R I I4 → (∀ j, 44 ≤ j → I4 126 j = I 126 j) → ∀ lvv, am_wp pr (d + 48) 292 55 lvv [] (S, I4, J4, P) Q := by
        intro nT I4 J4 F4 k4 lvv
        rw [o_one_n nT] at eq
        refine w292_55 ?_
        refine w292_56 (by first | rfl | exact am_narrow_b _) ?_
        exact kn eq.symm I4 J4 F4 k4
      refine w292_31 l0 ?_
      refine w292_32 ?_
      rw [e45]
      refine w292_35 (fun _ => ?_) (fun hQ => absurd (by decide) hQ)
      refine w292_41 l0 ?_
      rcases oS with ⟨ok, hv⟩ | ⟨ok, q, e, hq1, hq2⟩
      · have hxx : ∀ q, o_v (o_e n lw σ1) X.2.1 q = some (o_x X.2.1 (J3 147) q) := fun q => by rw [← hov]; exact o_v_x hv q
        have back : ∀ {σ' : OS}, o_T n lw X σ1 σ' → ∃ v kp' lf' u', o_D n lw σ1.1 σ1.2.1 σ1.2.2.1 X.1 (o_sm (J3 147 0)) (o_sm (J3 147 1)) (o_sm (J3 147 2)) v kp' lf' u' ∧ ¬ v < 0 := by
          intro σ' a
          rcases a with ⟨a, -⟩ | ⟨-, a, b, c, v', kp2, lf2, u2, ha, hb', hc, D', nv, -⟩
          · rw [hb] at a
            cases a
          · rw [hxx 0] at ha
            rw [hxx 1] at hb'
            rw [hxx 2] at hc
            cases ha
            cases hb'
            cases hc
            exact ⟨v', kp2, lf2, u2, (o_D_x hcl n7 hv).mpr D', nv⟩
        refine w292_42 ?_
        rw [ok]
        refine w292_45 (fun hQ => absurd hQ (by decide)) (fun _ => ?_)
        refine w292_48 l0 ?_
        refine w292_49 (k := c295 (d := d) L hM3 hU1.1 hn1 n7 hlw1 hU1.2 hhd e43 (fun v kp' lf' u' D I4 F4 hM4 g4 => ?_) (fun nD v I4 hv4 F4 e4 => ?_))
        · by_cases hv0 : v < 0
          · refine w292_52 (fun q => absurd hv0 (Int32.not_lt.mpr q)) (fun _ => ?_)
            refine bad ?_ I4 J3 ((F2.tr F3.R).tr F4.R) (fun j hj => ?_) _
            · rintro ⟨σ', a⟩
              obtain ⟨v', kp2, lf2, u2, D', nv⟩ := back a
              rw [(o_D_fun n7 D D').1] at nv
              exact nv hv0
            · rw [hM4.1, o_D_k n7 D j hj, hk]; exact ek j hj
          · have hTT : o_T n lw X σ1 (kp', lf', u', σ1.2.2.2.1 + 1, if X.1 = 21 then v else σ1.2.2.2.2) := Or.inr ⟨hb, _, _, _, v, kp', lf', u', hxx 0, hxx 1, hxx 2, (o_D_x hcl n7 hv).mp D, hv0, rfl⟩
            rw [o_one_y n7 hTT] at eq
            have e27 : I4 124 27 = σ1.2.2.2.1 := (F4.2 27 (by decide) (by decide) (by decide)).trans k27
            refine w292_52 (fun _ => ?_) (fun hQ => absurd (Int32.not_lt.mp hv0) hQ)
            refine w292_57 l0 ?_
            refine w292_58 rfl ?_
            refine w292_59 ?_
            rw [e27]
            refine w292_62 ?_
            refine w292_63 ?_
            refine w292_64 ?_
            refine w292_67 l4 ?_
            refine w292_70 ?_
            refine ih (kp', lf', u', σ1.2.2.2.1 + 1, if X.1 = 21 then v else σ1.2.2.2.2) _ J3 (((F2.tr F3.R).tr F4.R).tr ⟨fun a a1 _ _ => am_u_ne a1, fun q _ q2 _ _ _ => am_u_at q2⟩) (HM_u (by decide) hM4) am_u_self ?_ ?_ (o_T_U n7 hU1 hTT) (fun j hj => (o_T_k n7 hTT j hj).trans (ek j hj)) eq _ l0 l1 l2 l3 (am_nx t)
            · rw [am_u_at (by decide), g4 hv0, k28]
            · rw [am_u_at (by decide), F4.2 41 (by decide) (by decide) (by decide)]; exact k41
        · refine w292_52 (fun q => absurd hv4 (Int32.not_lt.mpr q)) (fun _ => ?_)
          refine bad ?_ I4 J3 ((F2.tr F3.R).tr F4.R) (fun j hj => ?_) _
          · rintro ⟨σ', a⟩
            obtain ⟨v', kp2, lf2, u2, D', nv⟩ := back a
            exact nD ⟨v', kp2, lf2, u2, D'⟩
          · rw [e4]; exact k44 j hj
      · refine w292_42 ?_
        rw [ok]
        refine w292_45 (fun _ => ?_) (fun hQ => absurd rfl hQ)
        refine bad ?_ I3 J3 (F2.tr F3.R) k44 _
        have hno : o_v (o_e n lw σ1) X.2.1 q = none := by
          rw [← hov]
          unfold o_v
          rw [hq1]
          show (e.1 w0).map _ = none
          rw [hq2]
          rfl
        have q3 : q < 3 := by
          have := (List.getElem?_eq_some_iff.mp hq1).1
          omega
        rintro ⟨σ', a⟩
        rcases a with ⟨a, -⟩ | ⟨-, a, b, c, v', kp2, lf2, u2, ha, hb', hc, D', nv, -⟩
        · rw [hb] at a
          cases a
        · match q, q3, hno with
          | 0, _, hno => rw [hno] at ha; cases ha
          | 1, _, hno => rw [hno] at hb'; cases hb'
          | 2, _, hno => rw [hno] at hc; cases hc
  · intro σ1 I2 J2 F2 hM g27 g28 g41 hU1 ek eq lvv l0 l1 l2 l3 l4
    rw [Nat.sub_self] at eq
    have eq3 : o_rep n lw X X.2.2.1 σ = some σ1 := eq.symm
    refine w292_19 l4 ?_
    refine w292_21 l2 ?_
    refine w292_22 (fun _ => ?_) (fun hQ => absurd (Int32.le_refl _) hQ)
    refine w292_73 l0 ?_
    refine w292_74 l3 ?_
    refine w292_75 ?_
    refine w292_78 ?_
    refine w292_79 (by first | rfl | exact am_narrow_b _) ?_
    exact ky σ1 _ J2 eq3 (F2.tr ⟨fun a a1 _ _ => am_u_ne a1, fun q _ _ _ _ q5 => am_u_at (by omega)⟩) (HM_u (by decide) hM) (by rw [am_u_at (by decide)]; exact g27) (by rw [am_u_at (by decide)]; exact g28) am_u_self hU1 ek
end
