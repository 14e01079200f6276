/-! an image made -/
section
variable {pr : am_Pr} {d : Nat} {S S0 : List (Nat × Nat)} {I I' : Nat → Nat → Int32} {J J' : Nat → Nat → Int64} {P P' : Nat → Nat → Option Nat} {Q : Option Value → am_H → Prop} {n l s u tp : Nat} {kp lf kp' : Nat → Int32}
theorem c158r {q h : Nat} {lv : List (Nat × Value)} (hq : q < 2) (x : am_RX S I P n l s u tp q h) (gr : am_gr S0 S) (l0 : am_ld1 lv 0 = some (.ref 64)) (l2 : am_ld1 lv 2 = some (.ref h)) : am_wp pr (d + 60) 158 41 lv [] (S, I, J, P) (fun r τ => ∃ v, r = some (.int v) ∧ am_ev pr (d + 60) 163 [.ref 124, .int (nI q)] τ (am_oi S0 (.int v))) := by
  obtain ⟨x0, x4, e89, h149, hlen, hh, hls⟩ := x
  have L : am_Lay S P := x0 0 (by decide)
  have hr : am_HR I 65 (I 126) n l s := x0 1 (by decide)
  have lw : am_LW S I P (P 70) (I 126) l := x0 2 (by decide)
  have ls : am_LS S P (P 70) := x0 3 (by decide)
  have l6 := hr.l6
  refine w158_41 l2 ?_
  refine w158_42 l0 ?_
  refine w158_43 (L.2 _ _ _ rfl) ?_
  refine w158_46 (k := c95 (h := h) (g := 65) hh L.h65 (by omega) (fun i t z => (ls i t z).1) (fun I1 P1 f1 hC f2 f3 => ?_))
  have L1 : am_Lay S P1 := ⟨L.1, fun a b c z => by
    obtain ⟨z1, z2⟩ := am_ptr_lt z
    rw [f2 a (by omega)]
    exact L.2 a b c z⟩
  have hL1 := L1
  clear hL1
  refine w158_49 l0 ?_
  refine w158_50 ?_
  refine w158_51 (k := c14 L1 ?_)
  refine w158_54 ⟨_, rfl, ?_⟩
  refine c163 (q := q) L1 hq (fun I3 g1 g2 g3 g4 g5 g6 => ?_)
  have e1 : ∀ a, a ≠ 124 → a ≠ 127 → a ≠ 128 → a ≠ 64 → (a < h ∨ h + 7 < a) → I3 a = I a := fun a a1 a2 a3 a4 a5 => by rw [g1 a a1 a2 a3, am_u_ne a4, f1 a a5]
  have eh : ∀ a, h ≤ a → a ≤ h + 7 → I3 a = I1 a := fun a a1 a2 => by rw [g1 a (by omega) (by omega) (by omega), am_u_ne (by omega)]
  have e124 : ∀ j, j ≠ 0 → I3 124 j = I 124 j := fun j hj => by rw [g2 j hj, am_u_ne (by decide), f1 124 (by omega)]
  have e64 : ∀ j, j ≠ 16 → I3 64 j = I 64 j := fun j hj => by rw [g1 64 (by decide) (by decide) (by decide), am_u_at hj, f1 64 (by omega)]
  have e6416 : I3 64 16 = 0 := by rw [g1 64 (by decide) (by decide) (by decide), am_u_self]
  have e126 : I3 126 = I 126 := e1 126 (by decide) (by decide) (by decide) (by decide) (by omega)
  have p89 : P1 89 = P 89 := f2 89 (by omega)
  have p70 : P1 70 = P 70 := f2 70 (by omega)
  have ek : ∀ j, j < 5684 → I3 127 (5684 * q + j) = I 126 j := fun j hj => by rw [g4 j hj, am_u_ne (by decide), f1 126 (by omega)]
  have lwk : ∀ (p : Nat → Option Nat) (kp : Nat → Int32) (l : Nat), am_LS S P p → am_LW S I P p kp l → am_LW S I3 P1 p kp l := by
    intro p kp l lsp r i hi
    obtain ⟨t, xs, h1, h2, h3, h4⟩ := r i hi
    have ap := (lsp i t h1).2.2 q h hq e89
    exact ⟨t, xs, h1, h2, am_TI_cg (fun _ _ z => z) (f2 t (by omega)) (fun a a1 a2 => e1 a (by omega) (by omega) (by omega) (by omega) (by omega)) h3, h4⟩
  have E : ∀ a, a < 149 → a ≠ 124 → a ≠ 127 → a ≠ 128 → a ≠ 64 → I3 a = I a := fun a a0 a1 a2 a3 a4 => e1 a a1 a2 a3 a4 (by omega)
  refine ⟨rfl, gr, n, l, s, u, tp, ?_⟩
  show am_R S I3 P1 n l s u tp
  intro c
  match c with
  | 0 => exact L1
  | 1 => exact am_HR_cg 65 (fun a h1 h2 => E a (by omega) (by omega) (by omega) (by omega) (by omega)) e126 hr
  | 2 =>
    show am_LW S I3 P1 (P1 70) (I3 126) l
    rw [e126, p70]
    exact lwk _ _ _ ls lw
  | 3 =>
    show am_LS S P1 (P1 70)
    rw [p70]
    exact am_LS_P p89 ls
  | 4 =>
    intro p hp
    unfold am_IM
    rw [p89]
    by_cases z : p = q
    · subst z
      refine Or.inr ⟨g6, h, n, l, s, e89, h149, hlen, am_Hs_cg (f2 h (by omega)) hh, am_HR_k ek (am_HR_cg h (fun a a1 a2 => eh a a1 a2) rfl (hr_copy hr hC)), ?_, ?_⟩
      · intro i hi
        obtain ⟨t, xs, h1, h2, h3, h4⟩ := am_LW_k l6 ek (lwk _ _ _ ls lw) i hi
        exact ⟨t, xs, (f3 i).trans ((if_pos (by omega)).trans h1), h2, h3, h4⟩
      · intro i t y
        have y2 := (f3 i).symm.trans y
        by_cases y3 : i < 6
        · rw [if_pos y3] at y2
          exact am_LS_P p89 ls i t y2
        · rw [if_neg y3] at y2
          exact am_LS_P p89 hls i t y2
    · obtain ⟨k127, k128⟩ := g5 p hp z
      rw [am_u_ne (by decide), f1 128 (by omega)] at k128
      have kk : ∀ j, j < 5684 → I3 127 (5684 * p + j) = I 127 (5684 * p + j) := fun j hj => by rw [k127 j hj, am_u_ne (by decide), f1 127 (by omega)]
      rw [k128]
      rcases x4 p hp z with y | ⟨y, h', n2, l2', s2, y1, y2, y3, y4, y5, y6, y7⟩
      · exact Or.inl y
      · have ap : h' + 7 < h ∨ h + 7 < h' := by
          have x5 : ∀ h0 h1, P 89 0 = some h0 → P 89 1 = some h1 → h0 + 7 < h1 ∨ h1 + 7 < h0 := x0 5 (by decide)
          rcases (show (q = 0 ∧ p = 1) ∨ (q = 1 ∧ p = 0) by omega) with ⟨rfl, rfl⟩ | ⟨rfl, rfl⟩
          · exact (x5 _ _ e89 y1).symm
          · exact x5 _ _ y1 e89
        refine Or.inr ⟨y, h', n2, l2', s2, y1, y2, y3, am_Hs_cg (f2 h' (by omega)) y4, am_HR_k kk (am_HR_cg h' (fun a b1 b2 => e1 a (by omega) (by omega) (by omega) (by omega) (by omega)) rfl y5), ?_, ?_⟩
        · rw [f2 (h' + 1 + 4) (by omega)]
          exact am_LW_k y5.l6 kk (lwk _ _ _ y7 y6)
        · rw [f2 (h' + 1 + 4) (by omega)]
          exact am_LS_P p89 y7
  | 5 =>
    show ∀ h0 h1, P1 89 0 = some h0 → P1 89 1 = some h1 → h0 + 7 < h1 ∨ h1 + 7 < h0
    rw [p89]
    exact x0 5 (by decide)
  | 6 =>
    show u ≤ 16 ∧ I3 90 0 = nI u ∧ I3 124 35 = nI u ∧ am_PA (I3 91) (I3 141) (I3 126) n u
    rw [E 90 (by decide) (by decide) (by decide) (by decide) (by decide), e124 35 (by decide), E 91 (by decide) (by decide) (by decide) (by decide) (by decide), E 141 (by decide) (by decide) (by decide) (by decide) (by decide), e126]
    exact x0 6 (by decide)
  | 7 =>
    show tp ≤ 400 ∧ I3 94 0 = nI tp ∧ I3 124 13 = nI tp ∧ ∀ k, k < tp → (I3 95 k = I3 131 k &&& 255 ∧ (I3 131 k).toInt8.toInt32 = I3 131 k)
    rw [E 94 (by decide) (by decide) (by decide) (by decide) (by decide), e124 13 (by decide), E 95 (by decide) (by decide) (by decide) (by decide) (by decide), E 131 (by decide) (by decide) (by decide) (by decide) (by decide)]
    exact x0 7 (by decide)
  | 8 =>
    have x8 : I 96 3 = I 124 14 ∧ I 64 13 = I 124 40 ∧ I 64 14 = I 124 6 ∧ I 64 16 = I 124 0 := x0 8 (by decide)
    show I3 96 3 = I3 124 14 ∧ I3 64 13 = I3 124 40 ∧ I3 64 14 = I3 124 6 ∧ I3 64 16 = I3 124 0
    rw [E 96 (by decide) (by decide) (by decide) (by decide) (by decide), e124 14 (by decide), e64 13 (by decide), e124 40 (by decide), e64 14 (by decide), e124 6 (by decide), e6416, g3]
    exact ⟨x8.1, x8.2.1, x8.2.2.1, rfl⟩
  | 9 =>
    show ∀ k, k < 7 → I3 123 k = I3 125 k
    rw [E 123 (by decide) (by decide) (by decide) (by decide) (by decide), E 125 (by decide) (by decide) (by decide) (by decide) (by decide)]
    exact x0 9 (by decide)
  | 10 =>
    show am_DR (I3 81) (I3 84) (I3 148) (I3 124 48)
    rw [E 81 (by decide) (by decide) (by decide) (by decide) (by decide), E 84 (by decide) (by decide) (by decide) (by decide) (by decide), E 148 (by decide) (by decide) (by decide) (by decide) (by decide), e124 48 (by decide)]
    exact x0 10 (by decide)
  | 11 =>
    show ∀ k x, am_wds[k]? = some x → I3 130 k = nI x
    rw [E 130 (by decide) (by decide) (by decide) (by decide) (by decide)]
    exact x0 11 (by decide)
  | c + 12 => exact trivial
/-- image -/
theorem op_37 (r : am_R S I P n l s u tp) {x : Int32} : am_op pr (d + 60) S I J P 158 [.ref 64, .int x] 163 [.ref 124, .int x] := by
  have hr := r.hr
  have L := r.L
  by_cases hv : 0 ≤ x ∧ x ≤ 1
  · obtain ⟨q, hq, rfl⟩ := nI_of2 (M := 1) (n := 1) (by decide) (Int32.not_lt.mpr hv.1) hv.2
    have hq2 : nI q < 2 := nI_lt (b := 2) (by omega) (by decide)
    rcases (r 4 : ∀ q, q < 2 → am_IM S I P q) q (by omega) with ⟨z1, z2⟩ | ⟨z, h, n1, l1, s1, z1, z2, z3, z4, z5, z6, z7⟩
    · show am_wp pr (d + 60) 158 0 [(0, .ref 64), (1, .int (nI q))] [] _ _
      have hL := L.len
      have hS : (S ++ [(0, 13)]).length = S.length + 1 := by rw [List.length_append]; rfl
      have hs : am_sh (S ++ [(0, 13)]) S.length (0, 13) := ⟨by omega, by rw [List.getElem?_append_right (Nat.le_refl _), Nat.sub_self]; rfl⟩
      refine w158_0 rfl ?_
      refine w158_1 (fun hQ => absurd hQ (Int32.not_lt.mpr hv.1)) (fun _ => ?_)
      refine w158_4 rfl ?_
      refine w158_5 ?_
      refine w158_6 (fun _ => ?_) (fun hQ => absurd hq2 hQ)
      refine w158_15 rfl ?_
      refine w158_16 (L.2 _ _ _ rfl) ?_
      refine w158_19 rfl ?_
      refine w158_20H (L.sh rfl) (am_in_nI (by omega) (by decide)) ?_
      rw [am_clN (by omega), z2]
      refine w158_21N ?_
      refine w158_22N rfl ?_
      refine w158_23N ?_
      refine w158_26 ?_
      refine w158_29 rfl ?_
      refine w158_30 (k := c1 (h := S.length) hS hs (fun I1 J1 P1 f1 f2 f3 f4 f5 hH f6 => ?_))
      have eS : S ++ [(0, 13)] ++ am_hq = S ++ ([(0, 13)] ++ am_hq) := List.append_assoc _ _ _
      rw [eS] at hH ⊢
      have eI : ∀ a, a < S.length → I1 a = I a := fun a ha => by rw [f1 a ha, am_row_ne (by omega)]
      have eP : ∀ a, a < S.length → P1 a = P a := fun a ha => by rw [f5 a ha, am_row_ne (by omega)]
      have L2 : am_Lay (S ++ ([(0, 13)] ++ am_hq)) P1 := am_Lay_gr L (fun a h1 h2 => eP a (by omega))
      refine w158_33 ?_
      refine w158_34 rfl ?_
      refine w158_35 (L2.2 _ _ _ rfl) ?_ (L2.sh rfl)
      refine w158_38 rfl ?_
      refine w158_39 rfl ?_
      refine w158_40H (L2.sh rfl) (am_in_nI (by omega) (by decide)) hH.1 ?_
      rw [am_clN (by omega)]
      refine c158r (n := n) (l := l) (s := s) (u := u) (tp := tp) (h := S.length) (by omega) (am_RX_new (by omega) r (by decide) eI (fun a a1 a2 => by rw [am_u_ne a2, eP a a1]) (fun p hp => by rw [am_u_at hp, eP 89 (by omega)]) am_u_self (am_Hs_cg (am_u_ne (by omega)) hH) (fun i => by rw [am_u_ne (by omega)]; exact f6 4 (by decide) i)) ⟨_, rfl, by decide, by decide⟩ rfl rfl
    · show am_wp pr (d + 60) 158 0 [(0, .ref 64), (1, .int (nI q))] [] _ _
      refine w158_0 rfl ?_
      refine w158_1 (fun hQ => absurd hQ (Int32.not_lt.mpr hv.1)) (fun _ => ?_)
      refine w158_4 rfl ?_
      refine w158_5 ?_
      refine w158_6 (fun _ => ?_) (fun hQ => absurd hq2 hQ)
      refine w158_15 rfl ?_
      refine w158_16 (L.2 _ _ _ rfl) ?_
      refine w158_19 rfl ?_
      refine w158_20H (L.sh rfl) (am_in_nI (by omega) (by decide)) ?_
      rw [am_clN (by omega), z1]
      refine w158_21 ?_
      refine w158_22 rfl ?_
      refine w158_23 ?_
      exact c158r (by omega) ⟨fun c _ => r c, fun p hp _ => (r 4 : ∀ q, q < 2 → am_IM S I P q) p hp, z1, z2, z3, z4, z7⟩ (am_gr_0 S) rfl rfl
  · refine op_rf r (-1) (fun Q k => ?_) (fun I1 J1 f Q k => ?_)
    · show am_wp pr (d + 60) 158 0 [(0, .ref 64), (1, .int x)] [] _ _
      by_cases h0 : x < 0
      · refine w158_0 rfl ?_
        refine w158_1 (fun _ => ?_) (fun hQ => absurd h0 hQ)
        refine w158_9 rfl ?_
        refine w158_10 ?_
        refine w158_11 (k := c11 L (by decide) ?_)
        refine w158_14 ?_
        exact k
      · have h2 : ¬ x < 2 := fun z => hv ⟨Int32.not_lt.mp h0, Int32.lt_iff_toInt_lt.mp z |> fun w => Int32.le_iff_toInt_le.mpr (by have e2 : (2 : Int32).toInt = 2 := rfl; have e1 : (1 : Int32).toInt = 1 := rfl; omega)⟩
        refine w158_0 rfl ?_
        refine w158_1 (fun hQ => absurd hQ h0) (fun _ => ?_)
        refine w158_4 rfl ?_
        refine w158_5 ?_
        refine w158_6 (fun hQ => absurd hQ h2) (fun _ => ?_)
        refine w158_9 rfl ?_
        refine w158_10 ?_
        refine w158_11 (k := c11 L (by decide) ?_)
        refine w158_14 ?_
        exact k
    · show am_wp pr (d + 60) 163 0 [(0, .ref 124), (1, .int x)] [] _ _
      refine w163_0 rfl ?_
      refine w163_1 ?_
      refine w163_2 ?_
      refine w163_3 (k := c164 ?_)
      rw [am_b_f hv]
      refine w163_6 (fun hQ => absurd hQ (fun q => q rfl)) (fun _ => ?_)
      refine w163_9 rfl ?_
      refine w163_10 ?_
      refine w163_11 (k := c165 L (by decide) ?_)
      refine w163_14 ?_
      exact k
end
