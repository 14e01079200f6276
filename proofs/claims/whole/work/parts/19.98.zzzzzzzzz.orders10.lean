/-! orders: both sides' call -/
section
variable {pr : am_Pr} {d : Nat} {S : List (Nat × Nat)} {I I' : Nat → Nat → Int32} {J : Nat → Nat → Int64} {P P' : Nat → Nat → Option Nat} {n l s u u' tp : Nat} {kp kp' lf : Nat → Int32}
theorem am_HR_k7 (ek : ∀ j, j < 77 → kp' j = kp j) (hr : am_HR I 65 kp n l s) : am_HR I 65 kp' n l s := by
  have n7 := hr.n7
  have eh : ∀ j, j < 6 → I 65 j = I 65 j := fun _ _ => rfl
  have er : ∀ a, (66 ≤ a ∧ a ≤ 72) → I a = I a := fun _ _ => rfl
  refine am_HR_mk ?_ ?_ ?_ ?_ ?_ ?_ ?_ ?_ ?_ ?_ ?_ ?_ ?_ ?_ ?_ ?_
  · exact ⟨hr.n7, hr.l6, hr.s6⟩
  · show I 65 0 = nI n ∧ kp' 73 = nI n
    rw [eh 0 (by omega), ek 73 (by omega)]
    exact hr 1
  · intro mq hmq
    by_cases hmz : mq < n
    · show am_bit (I 65 1) mq = 1 ↔ mq < n ∧ kp' (35 + mq) = 1
      rw [eh 1 (by omega), ek (35 + mq) (by omega)]
      exact hr 2 mq hmq
    · show am_bit (I 65 1) mq = 1 ↔ mq < n ∧ kp' (35 + mq) = 1
      rw [eh 1 (by omega), hr.he mq hmq]
      exact ⟨fun q => absurd q.1 hmz, fun q => absurd q.1 hmz⟩
  · intro mq hmq
    show kp' (35 + mq) = 0 ∨ kp' (35 + mq) = 1
    rw [ek (35 + mq) (by omega)]
    exact hr 3 mq hmq
  · show I 65 2 = kp' 42 ∧ ∃ x, x < 32 ∧ kp' 42 = nI x
    rw [eh 2 (by omega), ek 42 (by omega)]
    exact hr 4
  · show I 65 3 = nI l ∧ kp' 75 = nI l
    rw [eh 3 (by omega), ek 75 (by omega)]
    exact hr 5
  · show I 65 4 = kp' 76 ∧ (kp' 76 = -1 ∨ ∃ f, f < l ∧ kp' 76 = nI f)
    rw [eh 4 (by omega), ek 76 (by omega)]
    exact hr 6
  · show I 65 5 = nI s ∧ kp' 74 = nI s
    rw [eh 5 (by omega), ek 74 (by omega)]
    exact hr 7
  · intro mq hmq
    show I 66 mq = kp' (44 + mq) ∧ ∃ x, 1 ≤ x ∧ x ≤ 9 ∧ kp' (44 + mq) = nI x
    rw [er 66 (by omega), ek (44 + mq) (by omega)]
    exact hr 8 mq hmq
  · intro mq hmq
    show I 67 mq = kp' (51 + mq)
    rw [er 67 (by omega), ek (51 + mq) (by omega)]
    exact hr 9 mq hmq
  · intro jq hjq
    show I 68 jq = kp' jq ∧ ∃ x, x ≤ 9 ∧ kp' jq = nI x
    rw [er 68 (by omega), ek jq (by omega)]
    exact hr 10 jq hjq
  · show I 69 0 = kp' 43 ∧ ∃ x, x ≤ 999 ∧ kp' 43 = nI x
    rw [er 69 (by omega), ek 43 (by omega)]
    exact hr 11
  · show I 69 1 = kp' 70 ∧ ∃ x, x ≤ 10 ∧ kp' 70 = nI x
    rw [er 69 (by omega), ek 70 (by omega)]
    exact hr 12
  · show I 69 2 = kp' 71
    rw [er 69 (by omega), ek 71 (by omega)]
    exact hr 13
  · show I 69 3 = kp' 72 ∧ ∃ x, x ≤ 99 ∧ kp' 72 = nI x
    rw [er 69 (by omega), ek 72 (by omega)]
    exact hr 14
  · intro iq hiq
    have hs6 := hr.s6
    show ∃ a b, a < 5 ∧ b < 5 ∧ I 71 iq = nI a ∧ kp' (58 + 2 * iq) = nI a ∧ I 72 iq = nI b ∧ kp' (58 + 2 * iq + 1) = nI b
    rw [er 71 (by omega), er 72 (by omega), ek (58 + 2 * iq) (by omega), ek (58 + 2 * iq + 1) (by omega)]
    exact hr 15 iq hiq
/-- both sides' memories belong together, once orders were run or not -/
theorem am_R_or (r : am_R S I P n l s u tp) (L : am_Lay S P') (eP : ∀ a, a ≠ 78 → P' a = P a) {T : Tk} {N : Nat} (hN : N ≤ 400) (e : ∀ a, (81 ≤ a ∧ a ≤ 88) ∨ a = 127 ∨ a = 128 ∨ a = 130 ∨ a = 148 ∨ 149 ≤ a → I' a = I a) (ek : ∀ j, 77 ≤ j → I' 126 j = o_k1 (I 126) T N j) (i1 : am_HR I' 65 (I' 126) n l s) (i6 : u' ≤ 16 ∧ I' 90 0 = nI u' ∧ I' 124 35 = nI u' ∧ am_PA (I' 91) (I' 141) (I' 126) n u') (e94 : I' 94 0 = 0) (e13 : I' 124 13 = 0) (e48 : I' 124 48 = I 124 48) (i8 : I' 96 3 = I' 124 14 ∧ I' 64 13 = I' 124 40 ∧ I' 64 14 = I' 124 6 ∧ I' 64 16 = I' 124 0) (i9 : ∀ k, k < 7 → I' 123 k = I' 125 k) : am_R S I' P' n l s u' 0 := by
  have l6 := r.hr.l6
  have e149 : ∀ a, 149 ≤ a → P' a = P a := fun a ha => eP a (by omega)
  have e89 : P' 89 = P 89 := eP 89 (by decide)
  have e70 : P' 70 = P 70 := eP 70 (by decide)
  intro q
  match q with
  | 0 => exact L
  | 1 => exact i1
  | 2 =>
    show am_LW S I' P' (P' 70) (I' 126) l
    rw [e70]
    intro i hi
    obtain ⟨t, xs, h1, h2, h3, h4⟩ := (r 2 : am_LW S I P (P 70) (I 126) l) i hi
    refine ⟨t, xs, h1, h2, am_TI_cg (fun _ _ z => z) (e149 t h2) (fun a a1 a2 => e a (by omega)) h3, ?_⟩
    exact am_TK_i (ek _ (by omega)) (fun k _ => ek _ (by omega)) (fun k _ => ek _ (by omega)) (o_k1_TK (T := T) hN (by omega) h4)
  | 3 =>
    show am_LS S P' (P' 70)
    rw [e70]
    exact am_LS_P e89 (r 3)
  | 4 =>
    intro q hq
    unfold am_IM
    rw [e89, e 127 (by omega), e 128 (by omega)]
    rcases (r 4 : ∀ q, q < 2 → am_IM S I P q) q hq with z | ⟨z, h, n1, l1, s1, z1, z2, z3, z4, z5, z6, z7⟩
    · exact Or.inl z
    · refine Or.inr ⟨z, h, n1, l1, s1, z1, z2, z3, am_Hs_cg (eP h (by omega)) z4, am_HR_cg h (fun a a1 a2 => e a (by omega)) rfl z5, ?_, ?_⟩
      · rw [eP (h + 1 + 4) (by omega)]; exact am_LW_P e149 (am_LW_cg (fun a ha => e a (by omega)) z6)
      · rw [eP (h + 1 + 4) (by omega)]; exact am_LS_P e89 z7
  | 5 =>
    show ∀ h0 h1, P' 89 0 = some h0 → P' 89 1 = some h1 → h0 + 7 < h1 ∨ h1 + 7 < h0
    rw [e89]
    exact r 5
  | 6 => exact i6
  | 7 => exact ⟨by omega, e94, e13, fun k hk => absurd hk (Nat.not_lt_zero k)⟩
  | 8 => exact i8
  | 9 => exact i9
  | 10 =>
    show am_DR (I' 81) (I' 84) (I' 148) (I' 124 48)
    rw [e 81 (by omega), e 84 (by omega), e 148 (by omega), e48]
    exact r.draw
  | 11 =>
    show ∀ k x, am_wds[k]? = some x → I' 130 k = nI x
    rw [e 130 (by omega)]
    exact r 11
  | q + 12 => exact trivial
/-- orders -/
theorem op_10 (r : am_R S I P n l s u tp) : am_op pr (d + 60) S I J P 94 [.ref 64] 290 [.ref 124] := by
  have hr := r.hr
  have L := r.L
  have l6 := hr.l6
  have n7 := hr.n7
  obtain ⟨t400, t2, t3, t4⟩ := r.tape
  obtain ⟨b, hb, hbm, hb2⟩ := r.bytes
  obtain ⟨u16, u90, u35, hPA⟩ := r.past
  have hw : ∀ k x, am_wds[k]? = some x → I 130 k = nI x := r 11
  obtain ⟨ts, hts⟩ : ∃ ts, ts = sc b tp (tp + 1) 0 := ⟨_, rfl⟩
  have hN : ts.length ≤ 400 := by
    have q := sc_len (b := b) (z := tp) (tp + 1) 0 (by omega)
    rw [← hts] at q
    omega
  have tr := tk_R_of (o := true) hb2 hts
  obtain ⟨R, hR⟩ := Option.ne_none_iff_exists'.mp (p_read_ne tr.1 hN)
  obtain ⟨kp1, hkp1⟩ : ∃ kp1, kp1 = o_k1 (I 126) (x_T b ts true) ts.length := ⟨_, rfl⟩
  have ek1 : ∀ j, j < 77 → kp1 j = I 126 j := fun j hj => by rw [hkp1]; exact o_k1_ne (by omega) (by omega) (by omega)
  obtain ⟨lw, hx⟩ := r.lw
  have hlw := hx.m l6
  have hx1 : am_lw S I P (P 70) kp1 l (kp1 76) lw := by
    rw [ek1 76 (by decide)]
    rcases hx with h | ⟨f, t, xs, h1, h2, h3, h4, h5, h6, h7⟩
    · exact Or.inl h
    · exact Or.inr ⟨f, t, xs, h1, h2, h3, h4, h5, h6, by rw [hkp1]; exact o_k1_TK hN (by omega) h7⟩
  have hC : HC I kp1 (I 141) n l s u := ⟨am_HR_k7 ek1 hr, u16, u90, am_PA_cg (fun j hj => ek1 j (by omega)) hPA⟩
  show am_ev pr (d + 60) 94 [.ref 64] (S, I, J, P) _
  refine c94 (d := d + 15) (kp := kp1) (lf := I 141) L hC hx1 (r 3) t400 t2 hb hb2 hts hR (fun xs lv' σ' I1 J1 P1 hR1 hDC eo G1 hC1 ek e13 e16 e96 eP => ⟨_, rfl, ?_⟩) (fun xs lv' c I1 J1 P1 hR1 hDC eo G1 hC1 e13 e96 eP => ⟨_, rfl, ?_⟩) (fun j I1 hR1 hj V1 e96 => ⟨_, rfl, ?_⟩)
  · have L1 : am_Lay S P1 := am_Lay_78 L eP
    have g : ∀ a, 119 < a → I1 a = I a := fun a ha => G1.1 a (by omega) (by omega) (by omega)
    show am_ev pr (d + 60) 290 [.ref 124] (S, I1, J1, P1) _
    refine c290 (d := d + 11) (n := n) (u0 := u) (lw := lw.map Prod.snd) (kp := I 126) (lf := I 141) L1 t400 (by rw [g 124 (by decide)]; exact t3) (by rw [g 130 (by decide)]; exact hw) (by rw [g 131 (by decide)]; exact hbm) hb2 hts hN tr.1 hR (g 126 (by decide)) (by rw [g 124 (by decide)]; exact u35) (g 141 (by decide)) hr.kn n7 hlw u16 hr.dr (fun xs2 lv2 h2 => by rw [hR1] at h2; cases h2; exact hDC) (fun xs2 lv2 σ2 I2 J2 hR2 eo2 H2 e40 e14 e0 hM2 => ?_) (fun xs2 lv2 c2 I2 J2 hR2 eo2 => ?_) (fun j2 I2 hR2 => by rw [hR1] at hR2; cases hR2)
    · rw [hR1] at hR2
      cases hR2
      rw [← hkp1, eo] at eo2
      cases eo2
      have G2 : ∀ a, a ≠ 124 → a ≠ 126 → a ≠ 129 → (a < 133 ∨ 142 < a) → I2 a = I1 a := H2.1
      have G : ∀ a, a ≠ 64 → (a < 65 ∨ 80 < a) → (a < 90 ∨ a = 95 ∨ 119 < a) → a ≠ 124 → a ≠ 126 → a ≠ 129 → (a < 133 ∨ 142 < a) → I2 a = I a := fun a a1 a2 a3 a4 a5 a6 a7 => by rw [G2 a a4 a5 a6 a7, G1.1 a a1 a2 a3]
      refine am_oi_0 (am_R_or (T := x_T b ts true) (N := ts.length) (u' := σ'.2.2.1) r L1 eP hN (fun a ha => G a (by omega) (by omega) (by omega) (by omega) (by omega) (by omega) (by omega)) (fun j hj => ?_) ?_ ⟨hC1.2.1, ?_, hM2.2.1, ?_⟩ ?_ H2.2.2.2 ?_ ⟨?_, ?_, ?_, ?_⟩ (fun k hk => ?_)) rfl
      · rw [hM2.1, ek j (by omega), hkp1]
      · rw [hM2.1]
        exact am_HR_cg 65 (fun a a1 a2 => G2 a (by omega) (by omega) (by omega) (by omega)) rfl hC1.1
      · rw [G2 90 (by decide) (by decide) (by decide) (by decide)]; exact hC1.2.2.1
      · rw [hM2.1, G2 91 (by decide) (by decide) (by decide) (by decide)]
        exact am_PA_lf n7 hM2.2.2 hC1.2.2.2
      · rw [G2 94 (by decide) (by decide) (by decide) (by decide)]; exact G1.2.2
      · rw [H2.2.2.1, g 124 (by decide)]
      · rw [G2 96 (by decide) (by decide) (by decide) (by decide), e96, e14]
      · rw [G2 64 (by decide) (by decide) (by decide) (by decide), e13, e40]
      · rw [G2 64 (by decide) (by decide) (by decide) (by decide), G1.2.1 14 (by decide) (by decide), H2.2.1, g 124 (by decide)]; exact r.i8.2.2.1
      · rw [G2 64 (by decide) (by decide) (by decide) (by decide), e16, e0]
      · rw [G 123 (by decide) (by decide) (by decide) (by decide) (by decide) (by decide) (by decide), G 125 (by decide) (by decide) (by decide) (by decide) (by decide) (by decide) (by decide)]; exact r.i9 k hk
    · rw [hR1] at hR2
      cases hR2
      rw [← hkp1, eo] at eo2
      cases eo2
  · have L1 : am_Lay S P1 := am_Lay_78 L eP
    have g : ∀ a, 119 < a → a ≠ 123 → rf_c I1 (-3) a = I a := fun a ha h => by rw [rf_c_ne (by omega) h]; exact G1.1 a (by omega) (by omega) (by omega)
    show am_ev pr (d + 60) 290 [.ref 124] (S, rf_c I1 (-3), J1, P1) _
    refine c290 (d := d + 11) (n := n) (u0 := u) (lw := lw.map Prod.snd) (kp := I 126) (lf := I 141) L1 t400 (by rw [g 124 (by decide) (by decide)]; exact t3) (by rw [g 130 (by decide) (by decide)]; exact hw) (by rw [g 131 (by decide) (by decide)]; exact hbm) hb2 hts hN tr.1 hR (g 126 (by decide) (by decide)) (by rw [g 124 (by decide) (by decide)]; exact u35) (g 141 (by decide) (by decide)) hr.kn n7 hlw u16 hr.dr (fun xs2 lv2 h2 => by rw [hR1] at h2; cases h2; exact hDC) (fun xs2 lv2 σ2 I2 J2 hR2 eo2 => ?_) (fun xs2 lv2 c2 I2 J2 hR2 eo2 H2 e40 e14 hM2 => ?_) (fun j2 I2 hR2 => by rw [hR1] at hR2; cases hR2)
    · rw [hR1] at hR2
      cases hR2
      rw [← hkp1, eo] at eo2
      cases eo2
    · rw [hR1] at hR2
      cases hR2
      rw [← hkp1, eo] at eo2
      cases eo2
      rw [← hkp1] at hM2
      have G2 : ∀ a, a ≠ 124 → a ≠ 125 → a ≠ 126 → a ≠ 129 → (a < 133 ∨ 142 < a) → rf_m I2 (-3) a = rf_c I1 (-3) a := fun a a1 a2 a3 a4 a5 => by rw [rf_m_ne a1 a2]; exact H2.1 a a1 a3 a4 a5
      have G : ∀ a, a ≠ 64 → a ≠ 123 → (a < 65 ∨ 80 < a) → (a < 90 ∨ a = 95 ∨ 119 < a) → a ≠ 124 → a ≠ 125 → a ≠ 126 → a ≠ 129 → (a < 133 ∨ 142 < a) → rf_m I2 (-3) a = I a := fun a a0 a1 a2 a3 a4 a5 a6 a7 a8 => by rw [G2 a a4 a5 a6 a7 a8, rf_c_ne a0 a1, G1.1 a a0 a2 a3]
      have G3 : ∀ a, a ≠ 64 → a < 123 → rf_m I2 (-3) a = I1 a := fun a a0 a1 => by rw [G2 a (by omega) (by omega) (by omega) (by omega) (by omega), rf_c_ne a0 (by omega)]
      have m126 : rf_m I2 (-3) 126 = kp1 := by rw [rf_m_ne (by decide) (by decide)]; exact hM2.1
      refine am_oi_0 (am_R_or (T := x_T b ts true) (N := ts.length) (u' := u) r L1 eP hN (fun a ha => G a (by omega) (by omega) (by omega) (by omega) (by omega) (by omega) (by omega) (by omega) (by omega)) (fun j hj => ?_) ?_ ⟨hC1.2.1, ?_, ?_, ?_⟩ ?_ ?_ ?_ ⟨?_, ?_, ?_, ?_⟩ (fun k hk => ?_)) rfl
      · rw [m126, hkp1]
      · rw [m126]
        exact am_HR_cg 65 (fun a a1 a2 => G3 a (by omega) (by omega)) rfl hC1.1
      · rw [G3 90 (by decide) (by decide)]; exact hC1.2.2.1
      · rw [rf_m_124 (by decide)]; exact hM2.2.1
      · rw [m126, G3 91 (by decide) (by decide), rf_m_ne (show 141 ≠ 124 by decide) (by decide)]
        exact am_PA_lf n7 hM2.2.2 hC1.2.2.2
      · rw [G3 94 (by decide) (by decide)]; exact G1.2.2
      · rw [rf_m_124 (by decide)]; exact H2.2.2.2
      · rw [rf_m_124 (by decide), H2.2.2.1, g 124 (by decide) (by decide)]
      · rw [G3 96 (by decide) (by decide), e96, rf_m_124 (by decide), e14]
      · rw [G2 64 (by decide) (by decide) (by decide) (by decide) (by decide), rf_c_64 (by decide), e13, rf_m_124 (by decide), e40]
      · rw [G2 64 (by decide) (by decide) (by decide) (by decide) (by decide), rf_c_64 (by decide), G1.2.1 14 (by decide) (by decide), rf_m_124 (by decide), H2.2.1, g 124 (by decide) (by decide)]; exact r.i8.2.2.1
      · rw [G2 64 (by decide) (by decide) (by decide) (by decide) (by decide), rf_c_16, rf_m_0]
      · rw [rf_m_125, G2 123 (by decide) (by decide) (by decide) (by decide) (by decide), rf_c_123, H2.1 125 (by decide) (by decide) (by decide) (by decide), rf_c_ne (show 125 ≠ 64 by decide) (by decide), G1.1 123 (by decide) (by decide) (by decide), G1.1 125 (by decide) (by decide) (by decide), r.i9 k hk]
  · have hc : ∀ a, a ≠ 64 → a ≠ 94 → (a < 96 ∨ 107 < a) → I1 a = I a := fun a a1 a2 a3 => by rw [V1.1 a a2 a3, am_u_ne a1]
    have g : ∀ a, 107 < a → a ≠ 123 → rf_c I1 (-6) a = I a := fun a ha h => by rw [rf_c_ne (by omega) h]; exact hc a (by omega) (by omega) (by omega)
    show am_ev pr (d + 60) 290 [.ref 124] (S, rf_c I1 (-6), J, P) _
    refine c290 (d := d + 11) (n := n) (u0 := u) (lw := lw.map Prod.snd) (kp := I 126) (lf := I 141) L t400 (by rw [g 124 (by decide) (by decide)]; exact t3) (by rw [g 130 (by decide) (by decide)]; exact hw) (by rw [g 131 (by decide) (by decide)]; exact hbm) hb2 hts hN tr.1 hR (g 126 (by decide) (by decide)) (by rw [g 124 (by decide) (by decide)]; exact u35) (g 141 (by decide) (by decide)) hr.kn n7 hlw u16 hr.dr (fun xs2 lv2 h2 => by rw [hR1] at h2; cases h2) (fun xs2 lv2 σ2 I2 J2 hR2 => by rw [hR1] at hR2; cases hR2) (fun xs2 lv2 c2 I2 J2 hR2 => by rw [hR1] at hR2; cases hR2) (fun j2 I2 hR2 hj2 F2 h14 => ?_)
    rw [hR1] at hR2
    cases hR2
    have q : ∀ j, j ≠ 8 → j ≠ 9 → j ≠ 10 → j ≠ 13 → j ≠ 14 → (j < 18 ∨ 21 < j) → j ≠ 40 → I2 124 j = I 124 j := fun j j1 j2 j3 j4 j5 j6 j7 => by rw [F2.2.1 j j1 j2 j3 j4 j5 j6, am_u_at j7, g 124 (by decide) (by decide)]
    refine am_oi_0 (am_R_rx (Ic := I1) (Im := I2) (x := -6) r hc V1.2.1 (fun a a1 a2 a3 a4 => by rw [F2.1 a a1 a2 a3 a4, am_u_ne a1]) F2.2.2 (e96.trans h14.symm) ?_ ?_ (q 35 (by decide) (by decide) (by decide) (by decide) (by decide) (by decide) (by decide)) (q 48 (by decide) (by decide) (by decide) (by decide) (by decide) (by decide) (by decide))) rfl
    · rw [V1.1 64 (by decide) (by decide), am_u_self, F2.2.1 40 (by decide) (by decide) (by decide) (by decide) (by decide) (by decide), am_u_self]
    · rw [q 6 (by decide) (by decide) (by decide) (by decide) (by decide) (by decide) (by decide), V1.1 64 (by decide) (by decide), am_u_at (by decide)]; exact r.i8.2.2.1
end
