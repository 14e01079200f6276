/-! both sides' calls: terms, laws in force, sights, counts, what was drawn -/
theorem am_sw13_16 (x : Int32) (h : x.toInt < 0 ∨ 12 < x.toInt) : x = 13 ∨ x = 14 ∨ x = 15 ∨ x = 16 ∨ (x.toInt < 0 ∨ 16 < x.toInt) := by
  simp only [← Int32.toInt_inj]
  have e13 : (13 : Int32).toInt = 13 := by decide
  have e14 : (14 : Int32).toInt = 14 := by decide
  have e15 : (15 : Int32).toInt = 15 := by decide
  have e16 : (16 : Int32).toInt = 16 := by decide
  omega
section
variable {pr : am_Pr} {d : Nat} {S : List (Nat × Nat)} {I I' : Nat → Nat → Int32} {J : Nat → Nat → Int64} {P : Nat → Nat → Option Nat} {Q : Option Value → am_H → Prop} {n l s u tp n' s' u' tp' : Nat} {kp kp' : Nat → Int32}
/-- forget -/
theorem op_30 (r : am_R S I P n l s u tp) : am_op pr d S I J P 146 [.ref 64] 281 [.ref 124] := by
  have hr := r.hr
  refine c146 r.L ⟨_, rfl, c281 r.L ?_⟩
  rw [am_u_ne (show 126 ≠ 65 by decide), hr.kss, hr.hs]
  generalize hI4 : am_u (am_u I 65 5 0) 126 74 0 = I4
  have eh : ∀ q, q ≠ 5 → I4 65 q = I 65 q := fun q hq => by rw [← hI4, am_u_ne (by decide), am_u_at hq]
  have er : ∀ a, a ≠ 65 ∧ a ≠ 126 → I4 a = I a := fun a ha => by rw [← hI4, am_u_ne ha.2, am_u_ne ha.1]
  have ek : ∀ j, j ≠ 74 → I4 126 j = I 126 j := fun j hj => by rw [← hI4, am_u_at hj, am_u_ne (by decide)]
  refine am_oi_0 (am_R_mk (n' := n) (s' := 0) (u' := u) (tp' := tp) r (fun a ha => er a (by omega)) (er _ (by decide)) (er _ (by decide)) (er _ (by decide)) (fun j hj => ek j (by omega)) ?_ ?_ ?_ ?_ ?_ ?_) rfl
  · have n7 := hr.n7
    refine am_HR_mk ?_ ?_ ?_ ?_ ?_ ?_ ?_ ?_ ?_ ?_ ?_ ?_ ?_ ?_ ?_ ?_
    · exact ⟨n7, hr.l6, by omega⟩
    · show I4 65 0 = nI n ∧ (I4 126) 73 = nI n
      rw [eh 0 (by omega), ek 73 (by omega)]
      exact hr 1
    · intro mq hmq
      by_cases hmz : mq < n
      · show am_bit (I4 65 1) mq = 1 ↔ mq < n ∧ (I4 126) (35 + mq) = 1
        rw [eh 1 (by omega), ek (35 + mq) (by omega)]
        exact hr 2 mq hmq
      · show am_bit (I4 65 1) mq = 1 ↔ mq < n ∧ (I4 126) (35 + mq) = 1
        rw [eh 1 (by omega), hr.he mq hmq]
        exact ⟨fun q => absurd q.1 hmz, fun q => absurd q.1 hmz⟩
    · intro mq hmq
      show (I4 126) (35 + mq) = 0 ∨ (I4 126) (35 + mq) = 1
      rw [ek (35 + mq) (by omega)]
      exact hr 3 mq hmq
    · show I4 65 2 = (I4 126) 42 ∧ ∃ x, x < 32 ∧ (I4 126) 42 = nI x
      rw [eh 2 (by omega), ek 42 (by omega)]
      exact hr 4
    · show I4 65 3 = nI l ∧ (I4 126) 75 = nI l
      rw [eh 3 (by omega), ek 75 (by omega)]
      exact hr 5
    · show I4 65 4 = (I4 126) 76 ∧ ((I4 126) 76 = -1 ∨ ∃ f, f < l ∧ (I4 126) 76 = nI f)
      rw [eh 4 (by omega), ek 76 (by omega)]
      exact hr 6
    · exact ⟨by rw [← hI4, am_u_ne (by decide), am_u_self]; rfl, by rw [← hI4, am_u_self]; rfl⟩
    · intro mq hmq
      show I4 66 mq = (I4 126) (44 + mq) ∧ ∃ x, 1 ≤ x ∧ x ≤ 9 ∧ (I4 126) (44 + mq) = nI x
      rw [er 66 (by omega), ek (44 + mq) (by omega)]
      exact hr 8 mq hmq
    · intro mq hmq
      show I4 67 mq = (I4 126) (51 + mq)
      rw [er 67 (by omega), ek (51 + mq) (by omega)]
      exact hr 9 mq hmq
    · intro jq hjq
      show I4 68 jq = (I4 126) jq ∧ ∃ x, x ≤ 9 ∧ (I4 126) jq = nI x
      rw [er 68 (by omega), ek jq (by omega)]
      exact hr 10 jq hjq
    · show I4 69 0 = (I4 126) 43 ∧ ∃ x, x ≤ 999 ∧ (I4 126) 43 = nI x
      rw [er 69 (by omega), ek 43 (by omega)]
      exact hr 11
    · show I4 69 1 = (I4 126) 70 ∧ ∃ x, x ≤ 10 ∧ (I4 126) 70 = nI x
      rw [er 69 (by omega), ek 70 (by omega)]
      exact hr 12
    · show I4 69 2 = (I4 126) 71
      rw [er 69 (by omega), ek 71 (by omega)]
      exact hr 13
    · show I4 69 3 = (I4 126) 72 ∧ ∃ x, x ≤ 99 ∧ (I4 126) 72 = nI x
      rw [er 69 (by omega), ek 72 (by omega)]
      exact hr 14
    · exact fun i hi => absurd hi (Nat.not_lt_zero i)
  · rw [er 90 (by decide), er 91 (by decide), er 141 (by decide), er 124 (by decide)]
    exact ⟨r.past.1, r.past.2.1, r.past.2.2.1, am_PA_cg (fun j hj => ek j (by omega)) r.past.2.2.2⟩
  · rw [er 94 (by decide), er 95 (by decide), er 131 (by decide), er 124 (by decide)]
    exact r.tape
  · rw [er 96 (by decide), er 64 (by decide), er 124 (by decide)]
    exact r.i8
  · rw [er 123 (by decide), er 125 (by decide)]
    exact r.i9
  · rw [er 81 (by decide), er 84 (by decide), er 148 (by decide), er 124 (by decide)]
    exact r.draw
/-- force -/
theorem am_lawx {x : Int32} (l6 : l ≤ 6) : (x = -1 ∨ ∃ f, f < l ∧ x = nI f) ↔ (-1 ≤ x ∧ x ≤ nI l - 1) := by
  have e1 := am_nm1 (n := l) (by omega)
  have e2 : (-1 : Int32).toInt = -1 := by decide
  have e3 : (0 : Int32).toInt = 0 := by decide
  constructor
  · rintro (rfl | ⟨f, hf, rfl⟩)
    · refine ⟨Int32.le_refl _, ?_⟩
      rw [Int32.le_iff_toInt_le, e1]
      omega
    · refine ⟨Int32.le_of_lt (nI_m1lt (by omega)), ?_⟩
      rw [nI_sub1 (by omega)]
      exact nI_le (by omega) (by omega)
  · rintro ⟨q1, q2⟩
    rw [Int32.le_iff_toInt_le] at q1 q2
    rw [e1] at q2
    by_cases y : x.toInt = -1
    · exact Or.inl (Int32.toInt_inj.mp (by omega))
    · refine Or.inr ((am_pk7 x (n := l) (by omega)).resolve_right (fun w => w ⟨?_, ?_⟩))
      · rw [Int32.le_iff_toInt_le]
        omega
      · rw [Int32.lt_iff_toInt_lt, nI_toInt (by omega)]
        omega
theorem am_lawc {x : Int32} (l6 : l ≤ 6) : (x = -1 ∨ ∃ f, f < l ∧ x = nI f) ↔ (x = -1 ∨ (0 ≤ x ∧ x < nI l ∧ x < 6)) := by
  constructor
  · rintro (h | ⟨f, hf, rfl⟩)
    · exact Or.inl h
    · exact Or.inr ⟨nI_pos' (by omega), nI_lt hf (by omega), nI_lt (b := 6) (by omega) (by decide)⟩
  · rintro (h | h)
    · exact Or.inl h
    · exact Or.inr ((am_pk7 x (n := l) (by omega)).resolve_right (fun w => w ⟨h.1, h.2.1⟩))
theorem op_13 (r : am_R S I P n l s u tp) {x : Int32} : am_op pr (d + 60) S I J P 108 [.ref 64, .int x] 244 [.ref 124, .int x] := by
  have hr := r.hr
  have n7 := hr.n7
  have l6 := hr.l6
  have L := r.L
  by_cases hx : x = -1 ∨ ∃ f, f < l ∧ x = nI f
  · refine c108 L (fun _ => ⟨_, rfl, c244 L (fun _ => ?_) (fun q => ?_)⟩) (fun q => absurd ((am_lawc l6).mp hx) (by rw [hr.hl] at q; exact q))
    · rw [am_u_ne (show 126 ≠ 64 by decide), am_u_ne (show 126 ≠ 65 by decide)]
      generalize hI : am_u (am_u (am_u (am_u I 65 4 x) 64 16 0) 126 76 x) 124 0 0 = I4
      have eh : ∀ q, q ≠ 4 → I4 65 q = I 65 q := fun q hq => by rw [← hI, am_u_ne (by decide), am_u_ne (by decide), am_u_ne (by decide), am_u_at hq]
      have er : ∀ a, a ≠ 65 ∧ a ≠ 126 ∧ a ≠ 64 ∧ a ≠ 124 → I4 a = I a := fun a ha => by rw [← hI, am_u_ne ha.2.2.2, am_u_ne ha.2.1, am_u_ne ha.2.2.1, am_u_ne ha.1]
      have ek : ∀ j, j ≠ 76 → I4 126 j = I 126 j := fun j hj => by rw [← hI, am_u_ne (by decide), am_u_at hj, am_u_ne (by decide), am_u_ne (by decide)]
      have e64 : ∀ q, q ≠ 16 → I4 64 q = I 64 q := fun q hq => by rw [← hI, am_u_ne (by decide), am_u_ne (by decide), am_u_at hq, am_u_ne (by decide)]
      have e124 : ∀ q, q ≠ 0 → I4 124 q = I 124 q := fun q hq => by rw [← hI, am_u_at hq, am_u_ne (by decide), am_u_ne (by decide), am_u_ne (by decide)]
      refine am_oi_0 (am_R_tk (n' := n) (s' := s) (u' := u) r (fun a ha => er a (by omega)) (fun j hj => ek j (by omega)) ⟨e64 13 (by decide), e64 14 (by decide), ?_⟩ ⟨?_, e124 6 (by decide), e124 13 (by decide), e124 14 (by decide), e124 40 (by decide), e124 48 (by decide)⟩ ?_ ⟨r.past.1, ?_, ?_, ?_⟩) hr.hf.symm
      · rw [← hI, am_u_ne (by decide), am_u_ne (by decide), am_u_self]
      · rw [← hI, am_u_self]
      · have z1 : I4 65 4 = x := by rw [← hI, am_u_ne (by decide), am_u_ne (by decide), am_u_ne (by decide), am_u_self]
        have z2 : I4 126 76 = x := by rw [← hI, am_u_ne (by decide), am_u_self]
        refine am_HR_mk ?_ ?_ ?_ ?_ ?_ ?_ ?_ ?_ ?_ ?_ ?_ ?_ ?_ ?_ ?_ ?_
        · exact ⟨hr.n7, hr.l6, hr.s6⟩
        · show I4 65 0 = nI n ∧ (I4 126) 73 = nI n
          rw [eh 0 (by omega), ek 73 (by omega)]
          exact hr 1
        · intro mq hmq
          by_cases hmz : mq < n
          · show am_bit (I4 65 1) mq = 1 ↔ mq < n ∧ (I4 126) (35 + mq) = 1
            rw [eh 1 (by omega), ek (35 + mq) (by omega)]
            exact hr 2 mq hmq
          · show am_bit (I4 65 1) mq = 1 ↔ mq < n ∧ (I4 126) (35 + mq) = 1
            rw [eh 1 (by omega), hr.he mq hmq]
            exact ⟨fun q => absurd q.1 hmz, fun q => absurd q.1 hmz⟩
        · intro mq hmq
          show (I4 126) (35 + mq) = 0 ∨ (I4 126) (35 + mq) = 1
          rw [ek (35 + mq) (by omega)]
          exact hr 3 mq hmq
        · show I4 65 2 = (I4 126) 42 ∧ ∃ x, x < 32 ∧ (I4 126) 42 = nI x
          rw [eh 2 (by omega), ek 42 (by omega)]
          exact hr 4
        · show I4 65 3 = nI l ∧ (I4 126) 75 = nI l
          rw [eh 3 (by omega), ek 75 (by omega)]
          exact hr 5
        · show I4 65 4 = I4 126 76 ∧ (I4 126 76 = -1 ∨ ∃ f, f < l ∧ I4 126 76 = nI f)
          rw [z1, z2]
          exact ⟨rfl, hx⟩
        · show I4 65 5 = nI s ∧ (I4 126) 74 = nI s
          rw [eh 5 (by omega), ek 74 (by omega)]
          exact hr 7
        · intro mq hmq
          show I4 66 mq = (I4 126) (44 + mq) ∧ ∃ x, 1 ≤ x ∧ x ≤ 9 ∧ (I4 126) (44 + mq) = nI x
          rw [er 66 (by omega), ek (44 + mq) (by omega)]
          exact hr 8 mq hmq
        · intro mq hmq
          show I4 67 mq = (I4 126) (51 + mq)
          rw [er 67 (by omega), ek (51 + mq) (by omega)]
          exact hr 9 mq hmq
        · intro jq hjq
          show I4 68 jq = (I4 126) jq ∧ ∃ x, x ≤ 9 ∧ (I4 126) jq = nI x
          rw [er 68 (by omega), ek jq (by omega)]
          exact hr 10 jq hjq
        · show I4 69 0 = (I4 126) 43 ∧ ∃ x, x ≤ 999 ∧ (I4 126) 43 = nI x
          rw [er 69 (by omega), ek 43 (by omega)]
          exact hr 11
        · show I4 69 1 = (I4 126) 70 ∧ ∃ x, x ≤ 10 ∧ (I4 126) 70 = nI x
          rw [er 69 (by omega), ek 70 (by omega)]
          exact hr 12
        · show I4 69 2 = (I4 126) 71
          rw [er 69 (by omega), ek 71 (by omega)]
          exact hr 13
        · show I4 69 3 = (I4 126) 72 ∧ ∃ x, x ≤ 99 ∧ (I4 126) 72 = nI x
          rw [er 69 (by omega), ek 72 (by omega)]
          exact hr 14
        · intro iq hiq
          have hs6 := hr.s6
          show ∃ a b, a < 5 ∧ b < 5 ∧ I4 71 iq = nI a ∧ (I4 126) (58 + 2 * iq) = nI a ∧ I4 72 iq = nI b ∧ (I4 126) (58 + 2 * iq + 1) = nI b
          rw [er 71 (by omega), er 72 (by omega), ek (58 + 2 * iq) (by omega), ek (58 + 2 * iq + 1) (by omega)]
          exact hr 15 iq hiq
      · rw [er 90 (by decide)]; exact r.past.2.1
      · rw [e124 35 (by decide)]; exact r.past.2.2.1
      · rw [er 91 (by decide), er 141 (by decide)]; exact am_PA_cg (fun j hj => ek j (by omega)) r.past.2.2.2
    · exact absurd (by rw [am_u_ne (show 126 ≠ 64 by decide), am_u_ne (show 126 ≠ 65 by decide), hr.kl]; exact (am_lawx l6).mp hx) q
  · refine op_rf r (-2) (fun Q k => c108 L (fun q => absurd ((am_lawc l6).mpr (by rw [hr.hl] at q; exact q)) hx) (fun _ => k)) (fun I1 J1 f Q k => c244 L (fun q => absurd ((am_lawx l6).mpr (by rw [f 126 (by decide) (by decide), hr.kl] at q; exact q)) hx) (fun _ => k))
/-- seen -/
theorem op_29 (r : am_R S I P n l s u tp) {x y : Int32} : am_op pr (d + 60) S I J P 145 [.ref 64, .int x, .int y] 280 [.ref 124, .int x, .int y] := by
  have hr := r.hr
  have n7 := hr.n7
  have s6 := hr.s6
  have L := r.L
  by_cases hv : 0 ≤ x ∧ x < 5 ∧ 0 ≤ y ∧ y < 5 ∧ ¬ x = y
  · obtain ⟨a, ha, rfl⟩ := (am_pk5 x).resolve_right (fun q => q ⟨hv.1, hv.2.1⟩)
    obtain ⟨b, hb, rfl⟩ := (am_pk5 y).resolve_right (fun q => q ⟨hv.2.2.1, hv.2.2.2.1⟩)
    by_cases hs6 : s < 6
    · show am_wp pr (d + 60) 145 0 [(0, .ref 64), (1, .int (nI a)), (2, .int (nI b))] [] _ _
      refine w145_0 rfl ?_
      refine w145_1 rfl ?_
      refine w145_2 (k := c118 ?_)
      rw [am_b_t hv]
      refine w145_5 (fun _ => ?_) (fun hQ => absurd am_n01 hQ)
      refine w145_14 rfl ?_
      refine w145_15 (L.2 _ _ _ rfl) ?_
      refine w145_18 ?_
      rw [hr.hs]
      refine w145_21 ?_
      refine w145_23 (fun _ => ?_) (fun hQ => absurd (nI_lt (b := 6) hs6 (by decide)) hQ)
      refine w145_33 rfl ?_
      refine w145_34 (L.2 _ _ _ rfl) ?_
      refine w145_37 (L.2 _ _ _ rfl) ?_
      refine w145_40 rfl ?_
      refine w145_41 (L.2 _ _ _ rfl) ?_
      refine w145_44 ?_
      rw [hr.hs]
      refine w145_47 rfl ?_
      refine w145_48 (L.sh rfl) (am_in_nI hs6 (by decide)) ?_
      rw [am_clN (by omega)]
      refine w145_49 rfl ?_
      refine w145_50 (L.2 _ _ _ rfl) ?_
      refine w145_53 (L.2 _ _ _ rfl) ?_
      refine w145_56 rfl ?_
      refine w145_57 (L.2 _ _ _ rfl) ?_
      refine w145_60 ?_
      rw [am_u_ne (show 65 ≠ 71 by decide), hr.hs]
      refine w145_63 rfl ?_
      refine w145_64 (L.sh rfl) (am_in_nI hs6 (by decide)) ?_
      rw [am_clN (by omega)]
      refine w145_65 rfl ?_
      refine w145_66 (L.2 _ _ _ rfl) ?_
      refine w145_69 rfl ?_
      refine w145_70 ?_
      rw [am_u_ne (show 65 ≠ 72 by decide), am_u_ne (show 65 ≠ 71 by decide), hr.hs]
      refine w145_73 ?_
      refine w145_74 ?_
      rw [nI_1]
      refine w145_75 ?_
      refine w145_78 rfl ?_
      refine w145_79 rfl ?_
      refine w145_80 (L.2 _ _ _ rfl) ?_
      refine w145_83 ?_
      rw [am_u_self]
      refine w145_86 (k := c14 L ?_)
      refine w145_89 ⟨_, rfl, ?_⟩
      generalize hI1 : am_u (am_u (am_u (am_u I 71 s (nI a)) 72 s (nI b)) 65 5 (nI (s + 1))) 64 16 0 = I1
      have er1 : ∀ a, a ≠ 65 ∧ a ≠ 64 ∧ a ≠ 71 ∧ a ≠ 72 → I1 a = I a := fun a ha => by rw [← hI1, am_u_ne ha.2.1, am_u_ne ha.1, am_u_ne ha.2.2.2, am_u_ne ha.2.2.1]
      have e126 : I1 126 = I 126 := er1 126 (by decide)
      show am_wp pr (d + 60) 280 0 [(0, .ref 124), (1, .int (nI a)), (2, .int (nI b))] [] _ _
      refine w280_0 rfl ?_
      refine w280_1 (k := c177b ha ?_)
      refine w280_4 (fun hQ => absurd hQ am_n01) (fun _ => ?_)
      refine w280_7 rfl ?_
      refine w280_8 (k := c177b hb ?_)
      refine w280_11 (fun hQ => absurd hQ am_n01) (fun _ => ?_)
      refine w280_14 rfl ?_
      refine w280_15 rfl ?_
      refine w280_16 (fun _ => ?_) (fun hQ => absurd hv.2.2.2.2 hQ)
      refine w280_25 ?_
      refine w280_27 ?_
      refine w280_28 rfl ?_
      refine w280_29 (L.2 _ _ _ rfl) ?_
      refine w280_32 ?_
      refine w280_34 (L.sh rfl) (by decide) ?_
      rw [tl_74, e126, hr.kss]
      refine w280_35 ?_
      refine w280_36 ?_
      rw [nz_c2, nz_a58]
      refine w280_37 ?_
      refine w280_38 rfl ?_
      refine w280_39 (L.2 _ _ _ rfl) ?_
      refine w280_42 ?_
      refine w280_44 (L.sh rfl) (by decide) ?_
      rw [tl_74, e126, hr.kss]
      refine w280_45 ?_
      refine w280_47 (fun _ => ?_) (fun hQ => absurd (nI_ne (b := 6) (by omega) (by omega) (by decide)) hQ)
      refine w280_57 rfl ?_
      refine w280_58 (L.2 _ _ _ rfl) ?_
      refine w280_61 rfl ?_
      refine w280_62 rfl ?_
      refine w280_63 (L.sh rfl) (am_in_nI (by omega) (by decide)) ?_
      rw [am_clN (by omega)]
      refine w280_64 rfl ?_
      refine w280_65 (L.2 _ _ _ rfl) ?_
      refine w280_68 rfl ?_
      refine w280_69 ?_
      refine w280_70 ?_
      rw [nI_1]
      refine w280_71 rfl ?_
      refine w280_72 (L.sh rfl) (am_in_nI (by omega) (by decide)) ?_
      rw [am_clN (by omega)]
      refine w280_73 rfl ?_
      refine w280_74 (L.2 _ _ _ rfl) ?_
      refine w280_77 ?_
      refine w280_79 ⟨rfl, rfl⟩ ?_
      refine w280_80 (L.sh rfl) (by decide) ?_
      rw [tl_74, am_u_at (by omega), am_u_at (by omega), e126, hr.kss]
      refine w280_81 ?_
      refine w280_82 ?_
      rw [nI_1]
      refine w280_83 (L.sh rfl) (by decide) ?_
      rw [tl_74]
      refine w280_84 rfl ?_
      refine w280_85 rfl ?_
      refine w280_86 (L.2 _ _ _ rfl) ?_
      refine w280_89 ?_
      refine w280_91 (L.sh rfl) (by decide) ?_
      rw [tl_74, am_u_self]
      refine w280_92 (k := c166 L ?_)
      refine w280_95 ?_
      generalize hI4 : am_u (am_u (am_u (am_u I1 126 (58 + 2 * s) (nI a)) 126 (58 + 2 * s + 1) (nI b)) 126 74 (nI (s + 1))) 124 0 0 = I4
      have e41 : ∀ z, z ≠ 126 → z ≠ 124 → I4 z = I1 z := fun z h1 h2 => by rw [← hI4, am_u_ne h2, am_u_ne h1, am_u_ne h1, am_u_ne h1]
      have eh : ∀ q, q ≠ 5 → I4 65 q = I 65 q := fun q hq => by rw [e41 65 (by decide) (by decide), ← hI1, am_u_ne (by decide), am_u_at hq, am_u_ne (by decide), am_u_ne (by decide)]
      have er : ∀ a, a ≠ 65 ∧ a ≠ 126 ∧ a ≠ 64 ∧ a ≠ 124 ∧ a ≠ 71 ∧ a ≠ 72 → I4 a = I a := fun a ha => by rw [e41 a ha.2.1 ha.2.2.2.1]; exact er1 a ⟨ha.1, ha.2.2.1, ha.2.2.2.2⟩
      have ek : ∀ j, j ≠ 74 ∧ j ≠ 58 + 2 * s ∧ j ≠ 58 + 2 * s + 1 → I4 126 j = I 126 j := fun j hj => by rw [← hI4, am_u_ne (by decide), am_u_at hj.1, am_u_at hj.2.2, am_u_at hj.2.1, e126]
      have e64 : ∀ q, q ≠ 16 → I4 64 q = I 64 q := fun q hq => by rw [e41 64 (by decide) (by decide), ← hI1, am_u_at hq, am_u_ne (by decide), am_u_ne (by decide), am_u_ne (by decide)]
      have e124 : ∀ q, q ≠ 0 → I4 124 q = I 124 q := fun q hq => by rw [← hI4, am_u_at hq, am_u_ne (by decide), am_u_ne (by decide), am_u_ne (by decide), er1 124 (by decide)]
      refine am_oi_0 (am_R_tk (n' := n) (s' := s + 1) (u' := u) r (fun a ha => er a (by omega)) (fun j hj => ek j (by omega)) ⟨e64 13 (by decide), e64 14 (by decide), ?_⟩ ⟨?_, e124 6 (by decide), e124 13 (by decide), e124 14 (by decide), e124 40 (by decide), e124 48 (by decide)⟩ ?_ ⟨r.past.1, ?_, ?_, ?_⟩) rfl
      · rw [e41 64 (by decide) (by decide), ← hI1, am_u_self]
      · rw [← hI4, am_u_self]
      · have z71 : ∀ j, I4 71 j = if j = s then nI a else I 71 j := fun j => by
          rw [e41 71 (by decide) (by decide), ← hI1, am_u_ne (by decide), am_u_ne (by decide), am_u_ne (by decide), am_u_get]
          by_cases z : j = s
          · rw [if_pos ⟨rfl, z⟩, if_pos z]
          · rw [if_neg (fun q => z q.2), if_neg z]
        have z72 : ∀ j, I4 72 j = if j = s then nI b else I 72 j := fun j => by
          rw [e41 72 (by decide) (by decide), ← hI1, am_u_ne (by decide), am_u_ne (by decide), am_u_get, am_u_ne (by decide)]
          by_cases z : j = s
          · rw [if_pos ⟨rfl, z⟩, if_pos z]
          · rw [if_neg (fun q => z q.2), if_neg z]
        have zk1 : I4 126 (58 + 2 * s) = nI a := by rw [← hI4, am_u_ne (by decide), am_u_at (by omega), am_u_at (by omega), am_u_self]
        have zk2 : I4 126 (58 + 2 * s + 1) = nI b := by rw [← hI4, am_u_ne (by decide), am_u_at (by omega), am_u_self]
        refine am_HR_mk ?_ ?_ ?_ ?_ ?_ ?_ ?_ ?_ ?_ ?_ ?_ ?_ ?_ ?_ ?_ ?_
        · exact ⟨n7, hr.l6, by omega⟩
        · show I4 65 0 = nI n ∧ (I4 126) 73 = nI n
          rw [eh 0 (by omega), ek 73 (by omega)]
          exact hr 1
        · intro mq hmq
          by_cases hmz : mq < n
          · show am_bit (I4 65 1) mq = 1 ↔ mq < n ∧ (I4 126) (35 + mq) = 1
            rw [eh 1 (by omega), ek (35 + mq) (by omega)]
            exact hr 2 mq hmq
          · show am_bit (I4 65 1) mq = 1 ↔ mq < n ∧ (I4 126) (35 + mq) = 1
            rw [eh 1 (by omega), hr.he mq hmq]
            exact ⟨fun q => absurd q.1 hmz, fun q => absurd q.1 hmz⟩
        · intro mq hmq
          show (I4 126) (35 + mq) = 0 ∨ (I4 126) (35 + mq) = 1
          rw [ek (35 + mq) (by omega)]
          exact hr 3 mq hmq
        · show I4 65 2 = (I4 126) 42 ∧ ∃ x, x < 32 ∧ (I4 126) 42 = nI x
          rw [eh 2 (by omega), ek 42 (by omega)]
          exact hr 4
        · show I4 65 3 = nI l ∧ (I4 126) 75 = nI l
          rw [eh 3 (by omega), ek 75 (by omega)]
          exact hr 5
        · show I4 65 4 = (I4 126) 76 ∧ ((I4 126) 76 = -1 ∨ ∃ f, f < l ∧ (I4 126) 76 = nI f)
          rw [eh 4 (by omega), ek 76 (by omega)]
          exact hr 6
        · exact ⟨by rw [e41 65 (by decide) (by decide), ← hI1, am_u_ne (by decide), am_u_self], by rw [← hI4, am_u_ne (by decide), am_u_self]⟩
        · intro mq hmq
          show I4 66 mq = (I4 126) (44 + mq) ∧ ∃ x, 1 ≤ x ∧ x ≤ 9 ∧ (I4 126) (44 + mq) = nI x
          rw [er 66 (by omega), ek (44 + mq) (by omega)]
          exact hr 8 mq hmq
        · intro mq hmq
          show I4 67 mq = (I4 126) (51 + mq)
          rw [er 67 (by omega), ek (51 + mq) (by omega)]
          exact hr 9 mq hmq
        · intro jq hjq
          show I4 68 jq = (I4 126) jq ∧ ∃ x, x ≤ 9 ∧ (I4 126) jq = nI x
          rw [er 68 (by omega), ek jq (by omega)]
          exact hr 10 jq hjq
        · show I4 69 0 = (I4 126) 43 ∧ ∃ x, x ≤ 999 ∧ (I4 126) 43 = nI x
          rw [er 69 (by omega), ek 43 (by omega)]
          exact hr 11
        · show I4 69 1 = (I4 126) 70 ∧ ∃ x, x ≤ 10 ∧ (I4 126) 70 = nI x
          rw [er 69 (by omega), ek 70 (by omega)]
          exact hr 12
        · show I4 69 2 = (I4 126) 71
          rw [er 69 (by omega), ek 71 (by omega)]
          exact hr 13
        · show I4 69 3 = (I4 126) 72 ∧ ∃ x, x ≤ 99 ∧ (I4 126) 72 = nI x
          rw [er 69 (by omega), ek 72 (by omega)]
          exact hr 14
        · intro i hi
          show ∃ a b, a < 5 ∧ b < 5 ∧ I4 71 i = nI a ∧ I4 126 (58 + 2 * i) = nI a ∧ I4 72 i = nI b ∧ I4 126 (58 + 2 * i + 1) = nI b
          rw [z71, z72]
          by_cases z : i = s
          · subst z
            rw [if_pos rfl, if_pos rfl, zk1, zk2]
            exact ⟨a, b, ha, hb, rfl, rfl, rfl, rfl⟩
          · rw [if_neg z, if_neg z, ek (58 + 2 * i) (by omega), ek (58 + 2 * i + 1) (by omega)]
            exact hr.si i (by omega)
      · rw [er 90 (by decide)]; exact r.past.2.1
      · rw [e124 35 (by decide)]; exact r.past.2.2.1
      · rw [er 91 (by decide), er 141 (by decide)]; exact am_PA_cg (fun j hj => ek j (by omega)) r.past.2.2.2
    · have en : s = 6 := by omega
      subst en
      refine op_rf r (-5) (fun Q k => ?_) (fun I1 J1 f Q k => ?_)
      · show am_wp pr (d + 60) 145 0 [(0, .ref 64), (1, .int (nI a)), (2, .int (nI b))] [] _ _
        refine w145_0 rfl ?_
        refine w145_1 rfl ?_
        refine w145_2 (k := c118 ?_)
        rw [am_b_t hv]
        refine w145_5 (fun _ => ?_) (fun hQ => absurd am_n01 hQ)
        refine w145_14 rfl ?_
        refine w145_15 (L.2 _ _ _ rfl) ?_
        refine w145_18 ?_
        rw [hr.hs]
        refine w145_21 ?_
        refine w145_23 (fun hQ => absurd hQ (by decide)) (fun _ => ?_)
        refine w145_26 rfl ?_
        refine w145_27 ?_
        refine w145_29 (k := c11 L (by decide) ?_)
        refine w145_32 ?_
        exact k
      · have e126 : I1 126 = I 126 := f 126 (by decide) (by decide)
        show am_wp pr (d + 60) 280 0 [(0, .ref 124), (1, .int (nI a)), (2, .int (nI b))] [] _ _
        refine w280_0 rfl ?_
        refine w280_1 (k := c177b ha ?_)
        refine w280_4 (fun hQ => absurd hQ am_n01) (fun _ => ?_)
        refine w280_7 rfl ?_
        refine w280_8 (k := c177b hb ?_)
        refine w280_11 (fun hQ => absurd hQ am_n01) (fun _ => ?_)
        refine w280_14 rfl ?_
        refine w280_15 rfl ?_
        refine w280_16 (fun _ => ?_) (fun hQ => absurd hv.2.2.2.2 hQ)
        refine w280_25 ?_
        refine w280_27 ?_
        refine w280_28 rfl ?_
        refine w280_29 (L.2 _ _ _ rfl) ?_
        refine w280_32 ?_
        refine w280_34 (L.sh rfl) (by decide) ?_
        rw [tl_74, e126, hr.kss]
        refine w280_35 ?_
        refine w280_36 ?_
        refine w280_37 ?_
        refine w280_38 rfl ?_
        refine w280_39 (L.2 _ _ _ rfl) ?_
        refine w280_42 ?_
        refine w280_44 (L.sh rfl) (by decide) ?_
        rw [tl_74, e126, hr.kss]
        refine w280_45 ?_
        refine w280_47 (fun hQ => absurd hQ (fun q => q rfl)) (fun _ => ?_)
        refine w280_50 rfl ?_
        refine w280_51 ?_
        refine w280_53 (k := c165 L (by decide) ?_)
        refine w280_56 ?_
        exact k
  · refine op_rf r (-1) (fun Q k => ?_) (fun I1 J1 f Q k => ?_)
    · show am_wp pr (d + 60) 145 0 [(0, .ref 64), (1, .int x), (2, .int y)] [] _ _
      refine w145_0 rfl ?_
      refine w145_1 rfl ?_
      refine w145_2 (k := c118 ?_)
      rw [am_b_f hv]
      refine w145_5 (fun hQ => absurd hQ (by decide)) (fun _ => ?_)
      refine w145_8 rfl ?_
      refine w145_9 ?_
      refine w145_10 (k := c11 L (by decide) ?_)
      refine w145_13 ?_
      exact k
    · have lt5 : ∀ z : Int32, z ≤ 4 → z < 5 := fun z h => by simp only [Int32.lt_iff_toInt_lt, Int32.le_iff_toInt_le, ← Int32.toInt_inj, am_z0, am_z1, am_z2, am_z3, am_z4, am_z5, am_z6, am_z7, am_z8, am_z9, am_z10, am_z12, am_z16, am_z20, am_z99, am_z999, am_zm1, am_zo4, am_zo5, am_zo7] at *; omega
      show am_wp pr (d + 60) 280 0 [(0, .ref 124), (1, .int x), (2, .int y)] [] _ _
      refine w280_0 rfl ?_
      refine w280_1 (k := c177 ?_)
      refine w280_4 (fun h4 => ?_) (fun h4 => ?_)
      · refine w280_19 rfl ?_
        refine w280_20 ?_
        refine w280_21 (k := c165 L (by decide) ?_)
        refine w280_24 ?_
        exact k
      · refine w280_7 rfl ?_
        refine w280_8 (k := c177 ?_)
        refine w280_11 (fun h11 => ?_) (fun h11 => ?_)
        · refine w280_19 rfl ?_
          refine w280_20 ?_
          refine w280_21 (k := c165 L (by decide) ?_)
          refine w280_24 ?_
          exact k
        · refine w280_14 rfl ?_
          refine w280_15 rfl ?_
          refine w280_16 (fun h16 => ?_) (fun h16 => ?_)
          · exact absurd ⟨(am_b_1 h4).1, lt5 _ (am_b_1 h4).2, (am_b_1 h11).1, lt5 _ (am_b_1 h11).2, h16⟩ hv
          · replace h16 := Decidable.not_not.mp h16
            refine w280_19 rfl ?_
            refine w280_20 ?_
            refine w280_21 (k := c165 L (by decide) ?_)
            refine w280_24 ?_
            exact k
/-- termAt -/
theorem c212 {w : Nat} (hw : w < 4) (k : Q (some (.int (nI (if w = 0 then 43 else 69 + w)))) (S, I, J, P)) : am_ev pr d 212 [.int (nI w)] (S, I, J, P) Q := by
  show am_wp pr d 212 0 [(0, .int (nI w))] [] _ _
  rcases (show w = 0 ∨ w = 1 ∨ w = 2 ∨ w = 3 by omega) with rfl | rfl | rfl | rfl
  · refine w212_0 rfl ?_
    refine w212_1 (fun hQ => absurd hQ (fun q => q rfl)) (fun _ => ?_)
    refine w212_4 ?_
    refine w212_6 ?_
    refine w212_31 ?_
    exact k
  · refine w212_0 rfl ?_
    refine w212_1 (fun _ => ?_) (fun hQ => absurd (by decide) hQ)
    refine w212_9 rfl ?_
    refine w212_10 ?_
    refine w212_11 (fun hQ => absurd hQ (fun q => q rfl)) (fun _ => ?_)
    refine w212_14 ?_
    refine w212_16 ?_
    refine w212_31 ?_
    exact k
  · refine w212_0 rfl ?_
    refine w212_1 (fun _ => ?_) (fun hQ => absurd (by decide) hQ)
    refine w212_9 rfl ?_
    refine w212_10 ?_
    refine w212_11 (fun _ => ?_) (fun hQ => absurd (by decide) hQ)
    refine w212_19 rfl ?_
    refine w212_20 ?_
    refine w212_21 (fun hQ => absurd hQ (fun q => q rfl)) (fun _ => ?_)
    refine w212_24 ?_
    refine w212_26 ?_
    refine w212_31 ?_
    exact k
  · refine w212_0 rfl ?_
    refine w212_1 (fun _ => ?_) (fun hQ => absurd (by decide) hQ)
    refine w212_9 rfl ?_
    refine w212_10 ?_
    refine w212_11 (fun _ => ?_) (fun hQ => absurd (by decide) hQ)
    refine w212_19 rfl ?_
    refine w212_20 ?_
    refine w212_21 (fun _ => ?_) (fun hQ => absurd (by decide) hQ)
    refine w212_29 ?_
    refine w212_31 ?_
    exact k
end
